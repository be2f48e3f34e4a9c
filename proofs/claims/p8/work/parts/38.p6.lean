set_option maxHeartbeats 2000000 in
set_option maxRecDepth 20000 in
theorem s_X12_laysPrices (g : pv_G) {T : List mv_T} {m : Nat → Nat → Int32} {n : Nat → Nat → Int64} {r : Nat → Value} (hT : TX T) (I : IV BB m) (x0 : Int32) (hl0 : 0 ≤ x0.toInt) (hh0 : x0.toInt ≤ 7) (x1 : Int32) (hp0 : (m 123 40).toInt ≤ nu m x0.toInt 0) (hp1 : LX m) : PM g mX12_laysPrices yX12_laysPrices (sqV T BB (wl [(141, 141, none), (142, 142, none), (152, 152, none)]) r m (fun m' => True)) 4 0 0 [.ref 123, .int x0, .int x1] (mk T m n r) := by
  have Kp : fr (wl [(141, 141, none), (142, 142, none), (152, 152, none)]) m m := fr.rf
  have kLX := hp1
  have z50 : 0 ≤ (m 123 40).toInt ∧ (m 123 40).toInt ≤ 40 := I 123 40
  refine PM.of 1 (lo := [.ref 123, .int x0, .int x1, pv_U]) rfl (by decide) rfl rfl (Nat.le_of_ble_eq_true rfl) ?_
  refine pv_iconst (M := mX12_laysPrices) (v := 0) dX12_laysPrices_0 1 rfl (by decide) ?_
  refine pv_istore_n (M := mX12_laysPrices) 3 (lo2 := [.ref 123, .int x0, .int x1, .int 0]) dX12_laysPrices_1 2 rfl rfl (by decide) rfl rfl ?_
  have lp7 : ∀ (fuel6 : Nat) (y1 : Int32) (m2 : Nat → Nat → Int32) (n3 : Nat → Nat → Int64), (0 ≤ y1.toInt) → (y1.toInt ≤ 40) → ((m2 123 40).toInt = (m 123 40).toInt) → (nu m2 x0.toInt 0 = nu m x0.toInt 0) → (LX m2) → IV BB m2 → fr (wl [(141, 141, none), (142, 142, none), (152, 152, none)]) m m2 → ((40 - y1.toInt) : Int).toNat < fuel6 → PV none g mX12_laysPrices (sqV T BB (wl [(141, 141, none), (142, 142, none), (152, 152, none)]) r m (fun m' => True)) 4 0 0 2 [.ref 123, .int x0, .int x1, .int y1] [] (mk T m2 n3 r) := by
    intro fuel6
    induction fuel6 with
    | zero => intro y1 m2 n3 b9 b10 b11 b12 b13 I4 K5 z14; omega
    | succ fuel6 ih8 =>
      intro y1 m2 n3 b9 b10 b11 b12 b13 I4 K5 z14
      have z15 : 0 ≤ (m2 123 40).toInt ∧ (m2 123 40).toInt ≤ 40 := I4 123 40
      have kLX := (show LX m2 by assumption)
      refine pv_iload_n (M := mX12_laysPrices) 3 dX12_laysPrices_2 3 rfl rfl rfl ?_
      refine pv_aload_n (M := mX12_laysPrices) 0 dX12_laysPrices_3 4 rfl rfl rfl ?_
      refine iv_get (M := mX12_laysPrices) (l1 := 0) (l2 := 40) dX12_laysPrices_4 FX12 40 wd1213 (by decide) (tl123 hT) rfl I4 rfl 7 rfl (fun v16 ev16 pv16 qv16 => ?_)
      have wv16 : v16.toInt = (m2 123 40).toInt := congrArg Int32.toInt ev16
      refine pv_icmp_ge (M := mX12_laysPrices) (tgt := 45) dX12_laysPrices_7 10 rfl (by decide) (fun c17 => ?_) (fun c17 => ?_)
      · have c17 := iv_le (X := v16.toInt) (Y := y1.toInt) c17 rfl rfl
        exact pv_vret (M := mX12_laysPrices) dX12_laysPrices_45 rfl ⟨_, _, rfl, rfl, I4, K5, trivial⟩
      · have c17 := iv_nle (X := v16.toInt) (Y := y1.toInt) c17 rfl rfl
        refine pv_aload_n (M := mX12_laysPrices) 0 dX12_laysPrices_10 11 rfl rfl rfl ?_
        refine mv_get (M := mX12_laysPrices) (v := .ref 152) dX12_laysPrices_11 FX12 45 wd1218 (by decide) (tl123 hT) rfl rfl 14 rfl ?_
        refine pv_iload_n (M := mX12_laysPrices) 3 dX12_laysPrices_14 15 rfl rfl rfl ?_
        refine pv_aload_n (M := mX12_laysPrices) 0 dX12_laysPrices_15 16 rfl rfl rfl ?_
        refine pv_iload_n (M := mX12_laysPrices) 1 dX12_laysPrices_16 17 rfl rfl rfl ?_
        refine pv_iload_n (M := mX12_laysPrices) 3 dX12_laysPrices_17 18 rfl rfl rfl ?_
        refine pv_iload_n (M := mX12_laysPrices) 2 dX12_laysPrices_18 19 rfl rfl rfl ?_
        refine pv_callv (M := mX12_laysPrices) (as := [.int x0, .int y1, .int x1]) (st := [.int y1, .ref 152]) (kc2 := 0) (ks2 := 0) dX12_laysPrices_19 wd1522 YX12_mayStrike ⟨wd1524, wd82⟩ (mk_get (tl123 hT)) rfl rfl (s_X12_mayStrike g hT I4 x0 (by omega) (by omega) y1 (by omega) (by omega) x1 (by first | omega | assumption | exact (iv_rng _).2 | exact (iv_rng _).1 | decide) (by first | omega | assumption | exact (iv_rng _).2 | exact (iv_rng _).1 | decide)) rfl rfl (Nat.le_of_ble_eq_true rfl) (by decide) rfl rfl 22 rfl (fun rv h1 q18 => ?_)
        obtain ⟨m19, n20, v23, rfl, rfl, I21, K22, pv23, qv23, rv23⟩ := q18
        have K22c := K22
        have kLX : LX m19 := LX_eq kLX (K22c 123 20 rfl) (fun j => K22c 136 j rfl) (fun j => K22c 138 j rfl) (fun j => K22c 139 j rfl) (fun j => K22c 140 j rfl)
        have u24 : nu m19 x0.toInt 0 = nu m2 x0.toInt 0 := nu_eq (fun j => K22c 124 j rfl) (fun j => K22c 128 j rfl) _ _
        have w25 : (m19 123 40).toInt = (m2 123 40).toInt := congrArg Int32.toInt (K22 123 40 rfl)
        have K22 := K5.trans (K22.sub (wl_sub (by decide)))
        show PV _ _ _ _ _ _ _ 22 [.ref 123, .int x0, .int x1, .int y1] [.int v23, .int y1, .ref 152] _
        refine pv_if_eq (M := mX12_laysPrices) (tgt := 35) dX12_laysPrices_22 25 rfl (by decide) (fun c26 => ?_) (fun c26 => ?_)
        · have c26 := iv_eq (X := v23.toInt) (Y := 0) c26 rfl (by decide)
          refine pv_ldcw (M := mX12_laysPrices) (v := 1000000000) dX12_laysPrices_35 38 rfl wd1583 ?_
          refine iv_iast (M := mX12_laysPrices) (X := y1.toInt) (l1 := 0) (l2 := 1999999998) dX12_laysPrices_38 (tl152 hT) rfl (by omega) (by omega) I21 (fun _ => rfl) (by decide) (by decide) 39 rfl (fun m27 e30 I28 => ?_)
          have K29 := K22.set e30 rfl
          have kLX : LX m27 := LX_eq kLX (by rw [e30, up2_ne (by omega)]) (fun j => by rw [e30, up2_ne (by omega)]) (fun j => by rw [e30, up2_ne (by omega)]) (fun j => by rw [e30, up2_ne (by omega)]) (fun j => by rw [e30, up2_ne (by omega)])
          have u31 : nu m27 x0.toInt 0 = nu m19 x0.toInt 0 := nu_eq (st_off e30 (by decide)) (st_off e30 (by decide)) _ _
          have w32 : (m27 123 40).toInt = (m19 123 40).toInt := by rw [e30, up2_ne (by omega)]
          refine iv_inc (M := mX12_laysPrices) (C := 1) dX12_laysPrices_39 42 rfl rfl (by decide) rfl rfl (by decide) (by omega) (by omega) (fun v33 ev33 => ?_)
          show PV _ _ _ _ _ _ _ 42 [.ref 123, .int x0, .int x1, .int v33] [] _
          refine pv_goto (M := mX12_laysPrices) (tgt := 2) dX12_laysPrices_42 (by decide) ?_
          exact ih8 v33 m27 n20 (by first | omega | assumption | exact (iv_rng _).2 | exact (iv_rng _).1 | decide) (by first | omega | assumption | exact (iv_rng _).2 | exact (iv_rng _).1 | decide) (by first | omega | assumption | (show (m27 123 40).toInt = (m 123 40).toInt; omega) | decide) (by first | omega | assumption | (show nu m27 x0.toInt 0 = nu m x0.toInt 0; omega) | decide) kLX I28 K29 (by omega)
        · have c26 := iv_ne (X := v23.toInt) (Y := 0) c26 rfl (by decide)
          refine pv_aload_n (M := mX12_laysPrices) 0 dX12_laysPrices_25 26 rfl rfl rfl ?_
          refine pv_iload_n (M := mX12_laysPrices) 1 dX12_laysPrices_26 27 rfl rfl rfl ?_
          refine pv_iload_n (M := mX12_laysPrices) 3 dX12_laysPrices_27 28 rfl rfl rfl ?_
          refine pv_iload_n (M := mX12_laysPrices) 2 dX12_laysPrices_28 29 rfl rfl rfl ?_
          refine pv_callv (M := mX12_laysPrices) (as := [.int x0, .int y1, .int x1]) (st := [.int y1, .ref 152]) (kc2 := 0) (ks2 := 0) dX12_laysPrices_29 wd1499 YX12_priceOf ⟨wd1501, wd77⟩ (mk_get (tl123 hT)) rfl rfl (s_X12_priceOf g hT I21 x0 (by omega) (by omega) y1 (by omega) (by omega) x1 (by first | omega | assumption | exact (iv_rng _).2 | exact (iv_rng _).1 | decide) (by first | omega | assumption | exact (iv_rng _).2 | exact (iv_rng _).1 | decide)) rfl rfl (Nat.le_of_ble_eq_true rfl) (by decide) rfl rfl 32 rfl (fun rv h1 q34 => ?_)
          obtain ⟨m35, n36, v39, rfl, rfl, I37, K38, pv39, qv39, rv39⟩ := q34
          have K38c := K38
          have kLX : LX m35 := LX_eq kLX (K38c 123 20 rfl) (fun j => K38c 136 j rfl) (fun j => K38c 138 j rfl) (fun j => K38c 139 j rfl) (fun j => K38c 140 j rfl)
          have u40 : nu m35 x0.toInt 0 = nu m19 x0.toInt 0 := nu_eq (fun j => K38c 124 j rfl) (fun j => K38c 128 j rfl) _ _
          have w41 : (m35 123 40).toInt = (m19 123 40).toInt := congrArg Int32.toInt (K38 123 40 rfl)
          have K38 := K22.trans (K38.sub (wl_sub (by decide)))
          show PV _ _ _ _ _ _ _ 32 [.ref 123, .int x0, .int x1, .int y1] [.int v39, .int y1, .ref 152] _
          refine pv_goto (M := mX12_laysPrices) (tgt := 38) dX12_laysPrices_32 (by decide) ?_
          refine iv_iast (M := mX12_laysPrices) (X := y1.toInt) (l1 := 0) (l2 := 1999999998) dX12_laysPrices_38 (tl152 hT) rfl (by omega) (by omega) I37 (fun _ => rfl) (by omega) (by omega) 39 rfl (fun m42 e45 I43 => ?_)
          have K44 := K38.set e45 rfl
          have kLX : LX m42 := LX_eq kLX (by rw [e45, up2_ne (by omega)]) (fun j => by rw [e45, up2_ne (by omega)]) (fun j => by rw [e45, up2_ne (by omega)]) (fun j => by rw [e45, up2_ne (by omega)]) (fun j => by rw [e45, up2_ne (by omega)])
          have u46 : nu m42 x0.toInt 0 = nu m35 x0.toInt 0 := nu_eq (st_off e45 (by decide)) (st_off e45 (by decide)) _ _
          have w47 : (m42 123 40).toInt = (m35 123 40).toInt := by rw [e45, up2_ne (by omega)]
          refine iv_inc (M := mX12_laysPrices) (C := 1) dX12_laysPrices_39 42 rfl rfl (by decide) rfl rfl (by decide) (by omega) (by omega) (fun v48 ev48 => ?_)
          show PV _ _ _ _ _ _ _ 42 [.ref 123, .int x0, .int x1, .int v48] [] _
          refine pv_goto (M := mX12_laysPrices) (tgt := 2) dX12_laysPrices_42 (by decide) ?_
          exact ih8 v48 m42 n36 (by first | omega | assumption | exact (iv_rng _).2 | exact (iv_rng _).1 | decide) (by first | omega | assumption | exact (iv_rng _).2 | exact (iv_rng _).1 | decide) (by first | omega | assumption | (show (m42 123 40).toInt = (m 123 40).toInt; omega) | decide) (by first | omega | assumption | (show nu m42 x0.toInt 0 = nu m x0.toInt 0; omega) | decide) kLX I43 K44 (by omega)
  have z49 : (0 : Int32).toInt = 0 := by decide
  exact lp7 (((40 - 0) : Int).toNat + 1) 0 m n (by first | omega | assumption | exact (iv_rng _).2 | exact (iv_rng _).1 | decide) (by first | omega | assumption | exact (iv_rng _).2 | exact (iv_rng _).1 | decide) (by first | omega | assumption | (show (m 123 40).toInt = (m 123 40).toInt; omega) | decide) (by first | omega | assumption | (show nu m x0.toInt 0 = nu m x0.toInt 0; omega) | decide) kLX I Kp (by omega)

set_option maxHeartbeats 2000000 in
set_option maxRecDepth 20000 in
theorem s_X12_cheapestOf (g : pv_G) {T : List mv_T} {m : Nat → Nat → Int32} {n : Nat → Nat → Int64} {r : Nat → Value} (hT : TX T) (I : IV BB m) (x0 : Int32) (hl0 : 0 ≤ x0.toInt) (hh0 : x0.toInt ≤ 7) (x1 : Int32) (hl1 : 0 ≤ x1.toInt) (hh1 : x1.toInt ≤ 7) (x2 : Int32) (hp0 : LX m) : PM g mX12_cheapestOf yX12_cheapestOf (sqI T BB (wl [(123, 123, some 40), (123, 123, some 41), (141, 141, none), (142, 142, none), (149, 149, none), (150, 150, none), (152, 152, none), (153, 153, none), (154, 154, none)]) r m (-2) 1999999998 (fun m' v => v.toInt = -2 ∨ (STk m' (m' 123 41).toInt (m' 123 40).toInt ∧ (m' 123 40).toInt = nu m' x0.toInt 0))) 5 0 0 [.ref 123, .int x0, .int x1, .int x2] (mk T m n r) := by
  have Kp : fr (wl [(123, 123, some 40), (123, 123, some 41), (141, 141, none), (142, 142, none), (149, 149, none), (150, 150, none), (152, 152, none), (153, 153, none), (154, 154, none)]) m m := fr.rf
  have kLX := hp0
  have z48 : 0 ≤ (m 123 40).toInt ∧ (m 123 40).toInt ≤ 40 := I 123 40
  have z49 : 0 ≤ (m 123 41).toInt ∧ (m 123 41).toInt ≤ 16 := I 123 41
  refine PM.of 0 (lo := [.ref 123, .int x0, .int x1, .int x2]) rfl (by decide) rfl rfl (Nat.le_of_ble_eq_true rfl) ?_
  refine pv_aload_n (M := mX12_cheapestOf) 0 dX12_cheapestOf_0 1 rfl rfl rfl ?_
  refine pv_iload_n (M := mX12_cheapestOf) 1 dX12_cheapestOf_1 2 rfl rfl rfl ?_
  refine pv_iconst (M := mX12_cheapestOf) (v := 0) dX12_cheapestOf_2 3 rfl (by decide) ?_
  have z1 : (0 : Int32).toInt = 0 := by decide
  refine pv_callv (M := mX12_cheapestOf) (as := [.int x0, .int 0]) (st := []) (kc2 := 0) (ks2 := 0) dX12_cheapestOf_3 wd1563 YX12_laysBlank ⟨wd1565, wd88⟩ (mk_get (tl123 hT)) rfl rfl (s_X12_laysBlank g hT I x0 (by omega) (by omega) 0 (by decide) (by decide)) rfl rfl (Nat.le_of_ble_eq_true rfl) (by decide) rfl rfl 6 rfl (fun rv h1 q2 => ?_)
  obtain ⟨m3, n4, rfl, rfl, I5, K6, rm3⟩ := q2
  replace rm3 : (0 : Int) = 0 → (m3 123 40).toInt = nu m3 x0.toInt 0 := by have q_ := rm3; (try rw [z1] at q_); exact q_
  have K6c := K6
  have kLX : LX m3 := LX_eq kLX (K6c 123 20 rfl) (fun j => K6c 136 j rfl) (fun j => K6c 138 j rfl) (fun j => K6c 139 j rfl) (fun j => K6c 140 j rfl)
  have u7 : nu m3 x0.toInt 0 = nu m x0.toInt 0 := nu_eq (fun j => K6c 124 j rfl) (fun j => K6c 128 j rfl) _ _
  have w8 : (m3 123 41).toInt = (m 123 41).toInt := congrArg Int32.toInt (K6 123 41 rfl)
  have K6 := Kp.trans (K6.sub (wl_sub (by decide)))
  show PV _ _ _ _ _ _ _ 6 [.ref 123, .int x0, .int x1, .int x2] [] _
  refine pv_aload_n (M := mX12_cheapestOf) 0 dX12_cheapestOf_6 7 rfl rfl rfl ?_
  refine pv_iload_n (M := mX12_cheapestOf) 2 dX12_cheapestOf_7 8 rfl rfl rfl ?_
  refine pv_callv (M := mX12_cheapestOf) (as := [.int x1]) (st := []) (kc2 := 0) (ks2 := 0) dX12_cheapestOf_8 wd1567 YX12_laysDeed ⟨wd1569, wd89⟩ (mk_get (tl123 hT)) rfl rfl (s_X12_laysDeed g hT I5 x1 (by omega) (by omega)) rfl rfl (Nat.le_of_ble_eq_true rfl) (by decide) rfl rfl 11 rfl (fun rv h1 q9 => ?_)
  obtain ⟨m10, n11, rfl, rfl, I12, K13, rm10⟩ := q9
  have K13c := K13
  have kLX : LX m10 := LX_eq kLX (K13c 123 20 rfl) (fun j => K13c 136 j rfl) (fun j => K13c 138 j rfl) (fun j => K13c 139 j rfl) (fun j => K13c 140 j rfl)
  have u14 : nu m10 x0.toInt 0 = nu m3 x0.toInt 0 := nu_eq (fun j => K13c 124 j rfl) (fun j => K13c 128 j rfl) _ _
  have w15 : (m10 123 40).toInt = (m3 123 40).toInt := congrArg Int32.toInt (K13 123 40 rfl)
  have K13 := K6.trans (K13.sub (wl_sub (by decide)))
  show PV _ _ _ _ _ _ _ 11 [.ref 123, .int x0, .int x1, .int x2] [] _
  refine pv_aload_n (M := mX12_cheapestOf) 0 dX12_cheapestOf_11 12 rfl rfl rfl ?_
  refine pv_iload_n (M := mX12_cheapestOf) 1 dX12_cheapestOf_12 13 rfl rfl rfl ?_
  refine pv_iload_n (M := mX12_cheapestOf) 3 dX12_cheapestOf_13 14 rfl rfl rfl ?_
  refine pv_callv (M := mX12_cheapestOf) (as := [.int x0, .int x2]) (st := []) (kc2 := 0) (ks2 := 0) dX12_cheapestOf_14 wd1579 YX12_laysPrices ⟨wd1581, wd91⟩ (mk_get (tl123 hT)) rfl rfl (s_X12_laysPrices g hT I12 x0 (by omega) (by omega) x2 (by first | omega | assumption | exact (iv_rng _).2 | exact (iv_rng _).1 | decide) (by first | omega | assumption | exact (iv_rng _).2 | exact (iv_rng _).1 | decide)) rfl rfl (Nat.le_of_ble_eq_true rfl) (by decide) rfl rfl 17 rfl (fun rv h1 q16 => ?_)
  obtain ⟨m17, n18, rfl, rfl, I19, K20, rm17⟩ := q16
  have K20c := K20
  have kLX : LX m17 := LX_eq kLX (K20c 123 20 rfl) (fun j => K20c 136 j rfl) (fun j => K20c 138 j rfl) (fun j => K20c 139 j rfl) (fun j => K20c 140 j rfl)
  have u21 : nu m17 x0.toInt 0 = nu m10 x0.toInt 0 := nu_eq (fun j => K20c 124 j rfl) (fun j => K20c 128 j rfl) _ _
  have w22 : (m17 123 40).toInt = (m10 123 40).toInt := congrArg Int32.toInt (K20 123 40 rfl)
  have w23 : (m17 123 41).toInt = (m10 123 41).toInt := congrArg Int32.toInt (K20 123 41 rfl)
  have K20 := K13.trans (K20.sub (wl_sub (by decide)))
  show PV _ _ _ _ _ _ _ 17 [.ref 123, .int x0, .int x1, .int x2] [] _
  refine pv_aload_n (M := mX12_cheapestOf) 0 dX12_cheapestOf_17 18 rfl rfl rfl ?_
  refine pv_callv (M := mX12_cheapestOf) (as := []) (st := []) (kc2 := 0) (ks2 := 0) dX12_cheapestOf_18 wd1584 YX12_laysCheap ⟨wd1586, wd92⟩ (mk_get (tl123 hT)) rfl rfl (s_X12_laysCheap g hT I19) rfl rfl (Nat.le_of_ble_eq_true rfl) (by decide) rfl rfl 21 rfl (fun rv h1 q24 => ?_)
  obtain ⟨m25, n26, rfl, rfl, I27, K28, rm25⟩ := q24
  replace rm25 : CTk m25 (-1) := rm25
  have K28c := K28
  have kLX : LX m25 := LX_eq kLX (K28c 123 20 rfl) (fun j => K28c 136 j rfl) (fun j => K28c 138 j rfl) (fun j => K28c 139 j rfl) (fun j => K28c 140 j rfl)
  have u29 : nu m25 x0.toInt 0 = nu m17 x0.toInt 0 := nu_eq (fun j => K28c 124 j rfl) (fun j => K28c 128 j rfl) _ _
  have w30 : (m25 123 40).toInt = (m17 123 40).toInt := congrArg Int32.toInt (K28 123 40 rfl)
  have w31 : (m25 123 41).toInt = (m17 123 41).toInt := congrArg Int32.toInt (K28 123 41 rfl)
  have K28 := K20.trans (K28.sub (wl_sub (by decide)))
  show PV _ _ _ _ _ _ _ 21 [.ref 123, .int x0, .int x1, .int x2] [] _
  have kC := rm25
  refine pv_aload_n (M := mX12_cheapestOf) 0 dX12_cheapestOf_21 22 rfl rfl rfl ?_
  refine mv_get (M := mX12_cheapestOf) (v := .ref 153) dX12_cheapestOf_22 FX12 46 wd1219 (by decide) (tl123 hT) rfl rfl 25 rfl ?_
  refine pv_iconst (M := mX12_cheapestOf) (v := 0) dX12_cheapestOf_25 26 rfl (by decide) ?_
  refine iv_iald (M := mX12_cheapestOf) (X := 0) (l1 := 0) (l2 := 1999999998) dX12_cheapestOf_26 (tl153 hT) (by decide) (by omega) (by omega) I27 (fun _ => rfl) 27 rfl (fun v33 ev33 pv33 qv33 => ?_)
  have k27 : v33.toInt = (m25 153 0).toInt := congrArg Int32.toInt ev33
  refine pv_ldcw (M := mX12_cheapestOf) (v := 1000000000) dX12_cheapestOf_27 30 rfl wd1583 ?_
  refine pv_icmp_lt (M := mX12_cheapestOf) (tgt := 36) dX12_cheapestOf_30 33 rfl (by decide) (fun c35 => ?_) (fun c35 => ?_)
  · have c35 := iv_lt (X := v33.toInt) (Y := 1000000000) c35 rfl (by decide)
    have kC2 : CTk m25 (-1) := kC
    refine pv_aload_n (M := mX12_cheapestOf) 0 dX12_cheapestOf_36 37 rfl rfl rfl ?_
    refine pv_callv (M := mX12_cheapestOf) (as := []) (st := []) (kc2 := 0) (ks2 := 0) dX12_cheapestOf_37 wd1591 YX12_laysStays ⟨wd1593, wd93⟩ (mk_get (tl123 hT)) rfl rfl (s_X12_laysStays g hT I27 kC2 (by omega)) rfl rfl (Nat.le_of_ble_eq_true rfl) (by decide) rfl rfl 40 rfl (fun rv h1 q37 => ?_)
    obtain ⟨m38, n39, rfl, rfl, I40, K41, rm38⟩ := q37
    replace rm38 : STk m38 (m38 123 41).toInt (m38 123 40).toInt := rm38
    have K41c := K41
    have kLX : LX m38 := LX_eq kLX (K41c 123 20 rfl) (fun j => K41c 136 j rfl) (fun j => K41c 138 j rfl) (fun j => K41c 139 j rfl) (fun j => K41c 140 j rfl)
    have u42 : nu m38 x0.toInt 0 = nu m25 x0.toInt 0 := nu_eq (fun j => K41c 124 j rfl) (fun j => K41c 128 j rfl) _ _
    have w43 : (m38 123 40).toInt = (m25 123 40).toInt := congrArg Int32.toInt (K41 123 40 rfl)
    have w44 : (m38 123 41).toInt = (m25 123 41).toInt := congrArg Int32.toInt (K41 123 41 rfl)
    have K41 := K28.trans (K41.sub (wl_sub (by decide)))
    show PV _ _ _ _ _ _ _ 40 [.ref 123, .int x0, .int x1, .int x2] [] _
    have kS := rm38
    refine pv_aload_n (M := mX12_cheapestOf) 0 dX12_cheapestOf_40 41 rfl rfl rfl ?_
    refine mv_get (M := mX12_cheapestOf) (v := .ref 153) dX12_cheapestOf_41 FX12 46 wd1219 (by decide) (tl123 hT) rfl rfl 44 rfl ?_
    refine pv_iconst (M := mX12_cheapestOf) (v := 0) dX12_cheapestOf_44 45 rfl (by decide) ?_
    refine iv_iald (M := mX12_cheapestOf) (X := 0) (l1 := 0) (l2 := 1999999998) dX12_cheapestOf_45 (tl153 hT) (by decide) (by omega) (by omega) I40 (fun _ => rfl) 46 rfl (fun v46 ev46 pv46 qv46 => ?_)
    exact pv_iret (M := mX12_cheapestOf) dX12_cheapestOf_46 rfl rfl ⟨_, _, _, rfl, rfl, I40, K41, by omega, by omega, (Or.inr ⟨kS, by omega⟩)⟩
  · have c35 := iv_nlt (X := v33.toInt) (Y := 1000000000) c35 rfl (by decide)
    refine pv_bipush (M := mX12_cheapestOf) (v := (-2)) dX12_cheapestOf_33 35 rfl (by decide) ?_
    have z47 : ((-2) : Int32).toInt = (-2) := by decide
    exact pv_iret (M := mX12_cheapestOf) dX12_cheapestOf_35 rfl rfl ⟨_, _, _, rfl, rfl, I27, K28, by decide, by decide, (Or.inl (by decide))⟩

set_option maxHeartbeats 2000000 in
set_option maxRecDepth 20000 in
theorem s_X12_cheapest (g : pv_G) {T : List mv_T} {m : Nat → Nat → Int32} {n : Nat → Nat → Int64} {r : Nat → Value} (hT : TX T) (I : IV BB m) (x0 : Int32) (x1 : Int32) (x2 : Int32) (x3 : Int32) (hp0 : LX m) : PM g mX12_cheapest yX12_cheapest (sqI T BB (wl [(123, 123, some 40), (123, 123, some 41), (141, 141, none), (142, 142, none), (149, 149, none), (150, 150, none), (152, 152, none), (153, 153, none), (154, 154, none)]) r m (-2147483648) 2147483647 (fun m' v => True)) 6 0 0 [.ref 123, .int x0, .int x1, .int x2, .int x3] (mk T m n r) := by
  have Kp : fr (wl [(123, 123, some 40), (123, 123, some 41), (141, 141, none), (142, 142, none), (149, 149, none), (150, 150, none), (152, 152, none), (153, 153, none), (154, 154, none)]) m m := fr.rf
  have kLX := hp0
  refine PM.of 1 (lo := [.ref 123, .int x0, .int x1, .int x2, .int x3, pv_U]) rfl (by decide) rfl rfl (Nat.le_of_ble_eq_true rfl) ?_
  refine pv_aload_n (M := mX12_cheapest) 0 dX12_cheapest_0 1 rfl rfl rfl ?_
  refine pv_iload_n (M := mX12_cheapest) 1 dX12_cheapest_1 2 rfl rfl rfl ?_
  refine pv_iload_n (M := mX12_cheapest) 2 dX12_cheapest_2 3 rfl rfl rfl ?_
  refine pv_callv (M := mX12_cheapest) (as := [.int x0, .int x1]) (st := []) (kc2 := 0) (ks2 := 0) dX12_cheapest_3 wd1554 YX12_isAsked ⟨wd1556, wd86⟩ (mk_get (tl123 hT)) rfl rfl (s_X12_isAsked g hT I x0 x1) rfl rfl (Nat.le_of_ble_eq_true rfl) (by decide) rfl rfl 6 rfl (fun rv h1 q1 => ?_)
  obtain ⟨v2, rfl, rfl, pv2, qv2, rv2⟩ := q1
  replace rv2 : v2 = 0 ∨ ((0 ≤ x0.toInt ∧ x0.toInt ≤ 7) ∧ (0 ≤ x1.toInt ∧ x1.toInt ≤ 7)) := rv2
  show PV _ _ _ _ _ _ _ 6 [.ref 123, .int x0, .int x1, .int x2, .int x3, pv_U] [.int v2] _
  refine pv_if_eq (M := mX12_cheapest) (tgt := 33) dX12_cheapest_6 9 rfl (by decide) (fun c3 => ?_) (fun c3 => ?_)
  · have c3 := iv_eq (X := v2.toInt) (Y := 0) c3 rfl (by decide)
    refine pv_iconst (M := mX12_cheapest) (v := (-1)) dX12_cheapest_33 34 rfl (by decide) ?_
    exact pv_iret (M := mX12_cheapest) dX12_cheapest_34 rfl rfl ⟨_, _, _, rfl, rfl, I, Kp, by decide, by decide, trivial⟩
  · have pc3 := rv2.resolve_left c3
    have c3 := iv_ne (X := v2.toInt) (Y := 0) c3 rfl (by decide)
    refine pv_iload_n (M := mX12_cheapest) 3 dX12_cheapest_9 10 rfl rfl rfl ?_
    refine pv_calls (M := mX12_cheapest) (as := [.int x2]) (st := []) (kc2 := 0) (ks2 := 0) dX12_cheapest_10 wd1496 YX12_isClerk wd1497 (s_X12_isClerk g hT I x2) rfl rfl (Nat.le_of_ble_eq_true rfl) (by decide) rfl rfl 13 rfl (fun rv h1 q4 => ?_)
    obtain ⟨v5, rfl, rfl, pv5, qv5, rv5⟩ := q4
    replace rv5 : v5 = 0 ∨ (0 ≤ x2.toInt ∧ x2.toInt ≤ 7) := rv5
    show PV _ _ _ _ _ _ _ 13 [.ref 123, .int x0, .int x1, .int x2, .int x3, pv_U] [.int v5] _
    refine pv_if_eq (M := mX12_cheapest) (tgt := 33) dX12_cheapest_13 16 rfl (by decide) (fun c6 => ?_) (fun c6 => ?_)
    · have c6 := iv_eq (X := v5.toInt) (Y := 0) c6 rfl (by decide)
      refine pv_iconst (M := mX12_cheapest) (v := (-1)) dX12_cheapest_33 34 rfl (by decide) ?_
      exact pv_iret (M := mX12_cheapest) dX12_cheapest_34 rfl rfl ⟨_, _, _, rfl, rfl, I, Kp, by decide, by decide, trivial⟩
    · have pc6 := rv5.resolve_left c6
      have c6 := iv_ne (X := v5.toInt) (Y := 0) c6 rfl (by decide)
      refine pv_iload (M := mX12_cheapest) dX12_cheapest_16 18 rfl rfl ?_
      refine pv_iconst (M := mX12_cheapest) (v := (-1)) dX12_cheapest_18 19 rfl (by decide) ?_
      refine pv_aload_n (M := mX12_cheapest) 0 dX12_cheapest_19 20 rfl rfl rfl ?_
      refine mv_get (M := mX12_cheapest) (v := .ref 126) dX12_cheapest_20 FX12 7 wd1180 (by decide) (tl123 hT) rfl rfl 23 rfl ?_
      refine pv_iload_n (M := mX12_cheapest) 2 dX12_cheapest_23 24 rfl rfl rfl ?_
      refine iv_iald (M := mX12_cheapest) (X := x1.toInt) (l1 := 0) (l2 := 16) dX12_cheapest_24 (tl126 hT) rfl (by omega) (by omega) I (fun _ => rfl) 25 rfl (fun v7 ev7 pv7 qv7 => ?_)
      refine pv_iconst (M := mX12_cheapest) (v := 1) dX12_cheapest_25 26 rfl (by decide) ?_
      refine iv_isub (M := mX12_cheapest) (X := v7.toInt) (Y := 1) dX12_cheapest_26 27 rfl rfl (by decide) (by omega) (by omega) (fun v8 ev8 => ?_)
      have z9 : ((-1) : Int32).toInt = (-1) := by decide
      refine pv_calls (M := mX12_cheapest) (as := [.int x3, .int (-1), .int v8]) (st := []) (kc2 := 0) (ks2 := 0) dX12_cheapest_27 wd1370 YX12_in wd1371 (s_X12_in g hT I x3 (-1) v8) rfl rfl (Nat.le_of_ble_eq_true rfl) (by decide) rfl rfl 30 rfl (fun rv h1 q10 => ?_)
      obtain ⟨v11, rfl, rfl, pv11, qv11, rv11⟩ := q10
      replace rv11 : v11 = 0 ∨ ((-1 : Int) ≤ x3.toInt ∧ x3.toInt ≤ v8.toInt) := by have q_ := rv11; (try rw [z9] at q_); exact q_
      show PV _ _ _ _ _ _ _ 30 [.ref 123, .int x0, .int x1, .int x2, .int x3, pv_U] [.int v11] _
      refine pv_if_ne (M := mX12_cheapest) (tgt := 35) dX12_cheapest_30 33 rfl (by decide) (fun c12 => ?_) (fun c12 => ?_)
      · have pc12 := rv11.resolve_left c12
        have c12 := iv_ne (X := v11.toInt) (Y := 0) c12 rfl (by decide)
        refine pv_aload_n (M := mX12_cheapest) 0 dX12_cheapest_35 36 rfl rfl rfl ?_
        refine pv_iload_n (M := mX12_cheapest) 1 dX12_cheapest_36 37 rfl rfl rfl ?_
        refine pv_iload_n (M := mX12_cheapest) 2 dX12_cheapest_37 38 rfl rfl rfl ?_
        refine pv_iload_n (M := mX12_cheapest) 3 dX12_cheapest_38 39 rfl rfl rfl ?_
        refine pv_callv (M := mX12_cheapest) (as := [.int x0, .int x1, .int x2]) (st := []) (kc2 := 0) (ks2 := 0) dX12_cheapest_39 wd1575 YX12_cheapestOf ⟨wd1577, wd90⟩ (mk_get (tl123 hT)) rfl rfl (s_X12_cheapestOf g hT I x0 (by omega) (by omega) x1 (by omega) (by omega) x2 (by first | omega | assumption | exact (iv_rng _).2 | exact (iv_rng _).1 | decide)) rfl rfl (Nat.le_of_ble_eq_true rfl) (by decide) rfl rfl 42 rfl (fun rv h1 q13 => ?_)
        obtain ⟨m14, n15, v18, rfl, rfl, I16, K17, pv18, qv18, rv18⟩ := q13
        replace rv18 : v18.toInt = -2 ∨ (STk m14 (m14 123 41).toInt (m14 123 40).toInt ∧ (m14 123 40).toInt = nu m14 x0.toInt 0) := rv18
        have K17c := K17
        have kLX : LX m14 := LX_eq kLX (K17c 123 20 rfl) (fun j => K17c 136 j rfl) (fun j => K17c 138 j rfl) (fun j => K17c 139 j rfl) (fun j => K17c 140 j rfl)
        have K17 := Kp.trans (K17.sub (fun _ _ q => q))
        show PV _ _ _ _ _ _ _ 42 [.ref 123, .int x0, .int x1, .int x2, .int x3, pv_U] [.int v18] _
        refine pv_istore (M := mX12_cheapest) (lo2 := [.ref 123, .int x0, .int x1, .int x2, .int x3, .int v18]) dX12_cheapest_42 44 rfl (by decide) rfl rfl ?_
        refine pv_iload (M := mX12_cheapest) dX12_cheapest_44 46 rfl rfl ?_
        refine pv_bipush (M := mX12_cheapest) (v := (-2)) dX12_cheapest_46 48 rfl (by decide) ?_
        refine pv_icmp_eq (M := mX12_cheapest) (tgt := 57) dX12_cheapest_48 51 rfl (by decide) (fun c19 => ?_) (fun c19 => ?_)
        · have c19 := iv_eq (X := v18.toInt) (Y := (-2)) c19 rfl (by decide)
          refine pv_iload (M := mX12_cheapest) dX12_cheapest_57 59 rfl rfl ?_
          refine pv_goto (M := mX12_cheapest) (tgt := 69) dX12_cheapest_59 (by decide) ?_
          exact pv_iret (M := mX12_cheapest) dX12_cheapest_69 rfl rfl ⟨_, _, _, rfl, rfl, I16, K17, (iv_rng v18).1, (iv_rng v18).2, trivial⟩
        · have c19 := iv_ne (X := v18.toInt) (Y := (-2)) c19 rfl (by decide)
          refine pv_iload (M := mX12_cheapest) dX12_cheapest_51 53 rfl rfl ?_
          refine pv_iconst (M := mX12_cheapest) (v := (-1)) dX12_cheapest_53 54 rfl (by decide) ?_
          refine pv_icmp_ne (M := mX12_cheapest) (tgt := 62) dX12_cheapest_54 57 rfl (by decide) (fun c20 => ?_) (fun c20 => ?_)
          · have c20 := iv_ne (X := x3.toInt) (Y := (-1)) c20 rfl (by decide)
            refine pv_aload_n (M := mX12_cheapest) 0 dX12_cheapest_62 63 rfl rfl rfl ?_
            refine mv_get (M := mX12_cheapest) (v := .ref 154) dX12_cheapest_63 FX12 47 wd1220 (by decide) (tl123 hT) rfl rfl 66 rfl ?_
            refine pv_iload (M := mX12_cheapest) dX12_cheapest_66 68 rfl rfl ?_
            refine iv_iald (M := mX12_cheapest) (X := x3.toInt) (l1 := 0) (l2 := 39) dX12_cheapest_68 (tl154 hT) rfl (by omega) (by omega) I16 (fun _ => rfl) 69 rfl (fun v21 ev21 pv21 qv21 => ?_)
            exact pv_iret (M := mX12_cheapest) dX12_cheapest_69 rfl rfl ⟨_, _, _, rfl, rfl, I16, K17, (iv_rng v21).1, (iv_rng v21).2, trivial⟩
          · have c20 := iv_eq (X := x3.toInt) (Y := (-1)) c20 rfl (by decide)
            refine pv_iload (M := mX12_cheapest) dX12_cheapest_57 59 rfl rfl ?_
            refine pv_goto (M := mX12_cheapest) (tgt := 69) dX12_cheapest_59 (by decide) ?_
            exact pv_iret (M := mX12_cheapest) dX12_cheapest_69 rfl rfl ⟨_, _, _, rfl, rfl, I16, K17, (iv_rng v18).1, (iv_rng v18).2, trivial⟩
      · have c12 := iv_eq (X := v11.toInt) (Y := 0) c12 rfl (by decide)
        refine pv_iconst (M := mX12_cheapest) (v := (-1)) dX12_cheapest_33 34 rfl (by decide) ?_
        exact pv_iret (M := mX12_cheapest) dX12_cheapest_34 rfl rfl ⟨_, _, _, rfl, rfl, I, Kp, by decide, by decide, trivial⟩

set_option maxHeartbeats 2000000 in
set_option maxRecDepth 20000 in
theorem s_X12_spare (g : pv_G) {T : List mv_T} {m : Nat → Nat → Int32} {n : Nat → Nat → Int64} {r : Nat → Value} (hT : TX T) (I : IV BB m) (x0 : Int32) (x1 : Int32) : PM g mX12_spare yX12_spare (sqJ T BB (wl [(123, 123, some 40), (123, 123, some 41), (149, 149, none), (150, 150, none)]) r m (fun m' => True)) 3 0 0 [.ref 123, .int x0, .int x1] (mk T m n r) := by
  have Kp : fr (wl [(123, 123, some 40), (123, 123, some 41), (149, 149, none), (150, 150, none)]) m m := fr.rf
  have z56 : 0 ≤ (m 123 40).toInt ∧ (m 123 40).toInt ≤ 40 := I 123 40
  refine PM.of 3 (lo := [.ref 123, .int x0, .int x1, pv_U, pv_U, pv_U]) rfl (by decide) rfl rfl (Nat.le_of_ble_eq_true rfl) ?_
  refine pv_aload_n (M := mX12_spare) 0 dX12_spare_0 1 rfl rfl rfl ?_
  refine pv_iload_n (M := mX12_spare) 1 dX12_spare_1 2 rfl rfl rfl ?_
  refine pv_callv (M := mX12_spare) (as := [.int x0]) (st := []) (kc2 := 0) (ks2 := 0) dX12_spare_2 wd1389 YX12_isBlank ⟨wd1391, wd55⟩ (mk_get (tl123 hT)) rfl rfl (s_X12_isBlank g hT I x0) rfl rfl (Nat.le_of_ble_eq_true rfl) (by decide) rfl rfl 5 rfl (fun rv h1 q1 => ?_)
  obtain ⟨v2, rfl, rfl, pv2, qv2, rv2⟩ := q1
  replace rv2 : v2 = 0 ∨ (0 ≤ x0.toInt ∧ x0.toInt ≤ 7) := rv2
  show PV _ _ _ _ _ _ _ 5 [.ref 123, .int x0, .int x1, pv_U, pv_U, pv_U] [.int v2] _
  refine pv_if_eq (M := mX12_spare) (tgt := 20) dX12_spare_5 8 rfl (by decide) (fun c3 => ?_) (fun c3 => ?_)
  · have c3 := iv_eq (X := v2.toInt) (Y := 0) c3 rfl (by decide)
    refine pv_ldc2 (M := mX12_spare) (v := (-1)) dX12_spare_20 23 rfl wd1562 ?_
    exact pv_lret (M := mX12_spare) dX12_spare_23 rfl ⟨_, _, _, rfl, rfl, I, Kp, trivial⟩
  · have pc3 := rv2.resolve_left c3
    have c3 := iv_ne (X := v2.toInt) (Y := 0) c3 rfl (by decide)
    refine pv_aload_n (M := mX12_spare) 0 dX12_spare_8 9 rfl rfl rfl ?_
    refine pv_iload_n (M := mX12_spare) 2 dX12_spare_9 10 rfl rfl rfl ?_
    refine pv_callv (M := mX12_spare) (as := [.int x1]) (st := []) (kc2 := 0) (ks2 := 0) dX12_spare_10 wd1704 YX12_areSet ⟨wd1706, wd109⟩ (mk_get (tl123 hT)) rfl rfl (s_X12_areSet g hT I x1) rfl rfl (Nat.le_of_ble_eq_true rfl) (by decide) rfl rfl 13 rfl (fun rv h1 q4 => ?_)
    obtain ⟨v5, rfl, rfl, pv5, qv5, rv5⟩ := q4
    replace rv5 : v5 = 0 ∨ (0 ≤ x1.toInt ∧ x1.toInt ≤ 255) := rv5
    show PV _ _ _ _ _ _ _ 13 [.ref 123, .int x0, .int x1, pv_U, pv_U, pv_U] [.int v5] _
    refine pv_if_eq (M := mX12_spare) (tgt := 20) dX12_spare_13 16 rfl (by decide) (fun c6 => ?_) (fun c6 => ?_)
    · have c6 := iv_eq (X := v5.toInt) (Y := 0) c6 rfl (by decide)
      refine pv_ldc2 (M := mX12_spare) (v := (-1)) dX12_spare_20 23 rfl wd1562 ?_
      exact pv_lret (M := mX12_spare) dX12_spare_23 rfl ⟨_, _, _, rfl, rfl, I, Kp, trivial⟩
    · have pc6 := rv5.resolve_left c6
      have c6 := iv_ne (X := v5.toInt) (Y := 0) c6 rfl (by decide)
      refine pv_iload_n (M := mX12_spare) 2 dX12_spare_16 17 rfl rfl rfl ?_
      refine pv_if_ne (M := mX12_spare) (tgt := 24) dX12_spare_17 20 rfl (by decide) (fun c7 => ?_) (fun c7 => ?_)
      · have c7 := iv_ne (X := x1.toInt) (Y := 0) c7 rfl (by decide)
        refine pv_aload_n (M := mX12_spare) 0 dX12_spare_24 25 rfl rfl rfl ?_
        refine pv_iload_n (M := mX12_spare) 1 dX12_spare_25 26 rfl rfl rfl ?_
        refine pv_iconst (M := mX12_spare) (v := 0) dX12_spare_26 27 rfl (by decide) ?_
        have z8 : (0 : Int32).toInt = 0 := by decide
        refine pv_callv (M := mX12_spare) (as := [.int x0, .int 0]) (st := []) (kc2 := 0) (ks2 := 0) dX12_spare_27 wd1563 YX12_laysBlank ⟨wd1565, wd88⟩ (mk_get (tl123 hT)) rfl rfl (s_X12_laysBlank g hT I x0 (by omega) (by omega) 0 (by decide) (by decide)) rfl rfl (Nat.le_of_ble_eq_true rfl) (by decide) rfl rfl 30 rfl (fun rv h1 q9 => ?_)
        obtain ⟨m10, n11, rfl, rfl, I12, K13, rm10⟩ := q9
        replace rm10 : (0 : Int) = 0 → (m10 123 40).toInt = nu m10 x0.toInt 0 := by have q_ := rm10; (try rw [z8] at q_); exact q_
        have K13c := K13
        have u14 : nu m10 x0.toInt 0 = nu m x0.toInt 0 := nu_eq (fun j => K13c 124 j rfl) (fun j => K13c 128 j rfl) _ _
        have K13 := Kp.trans (K13.sub (wl_sub (by decide)))
        show PV _ _ _ _ _ _ _ 30 [.ref 123, .int x0, .int x1, pv_U, pv_U, pv_U] [] _
        refine pv_aload_n (M := mX12_spare) 0 dX12_spare_30 31 rfl rfl rfl ?_
        refine pv_iload_n (M := mX12_spare) 2 dX12_spare_31 32 rfl rfl rfl ?_
        refine pv_iconst (M := mX12_spare) (v := (-1)) dX12_spare_32 33 rfl (by decide) ?_
        refine pv_callv (M := mX12_spare) (as := [.int x1, .int (-1)]) (st := []) (kc2 := 0) (ks2 := 0) dX12_spare_33 wd1708 YX12_comeAll ⟨wd1710, wd110⟩ (mk_get (tl123 hT)) rfl rfl (s_X12_comeAll g hT I12 x1 (by omega) (by omega) (-1)) rfl rfl (Nat.le_of_ble_eq_true rfl) (by decide) rfl rfl 36 rfl (fun rv h1 q15 => ?_)
        obtain ⟨m16, n17, v20, rfl, rfl, I18, K19, pv20, qv20, rv20⟩ := q15
        have K19c := K19
        have u21 : nu m16 x0.toInt 0 = nu m10 x0.toInt 0 := nu_eq (fun j => K19c 124 j rfl) (fun j => K19c 128 j rfl) _ _
        have w22 : (m16 123 40).toInt = (m10 123 40).toInt := congrArg Int32.toInt (K19 123 40 rfl)
        have K19 := K13.trans (K19.sub (wl_sub (by decide)))
        show PV _ _ _ _ _ _ _ 36 [.ref 123, .int x0, .int x1, pv_U, pv_U, pv_U] [.int v20] _
        refine pv_if_ne (M := mX12_spare) (tgt := 43) dX12_spare_36 39 rfl (by decide) (fun c23 => ?_) (fun c23 => ?_)
        · have c23 := iv_ne (X := v20.toInt) (Y := 0) c23 rfl (by decide)
          refine pv_lconst (M := mX12_spare) (v := 0) dX12_spare_43 44 rfl (by decide) ?_
          refine pv_lstore_n (M := mX12_spare) 3 (lo2 := [.ref 123, .int x0, .int x1, .long 0, pv_U, pv_U]) dX12_spare_44 45 rfl rfl (by decide) rfl rfl ?_
          refine pv_iconst (M := mX12_spare) (v := 0) dX12_spare_45 46 rfl (by decide) ?_
          refine pv_istore (M := mX12_spare) (lo2 := [.ref 123, .int x0, .int x1, .long 0, pv_U, .int 0]) dX12_spare_46 48 rfl (by decide) rfl rfl ?_
          have lp31 : ∀ (fuel30 : Nat) (y24 : Int64) (y25 : Int32) (m26 : Nat → Nat → Int32) (n27 : Nat → Nat → Int64), (0 ≤ y25.toInt) → (y25.toInt ≤ 40) → ((m26 123 40).toInt = nu m26 x0.toInt 0) → IV BB m26 → fr (wl [(123, 123, some 40), (123, 123, some 41), (149, 149, none), (150, 150, none)]) m m26 → ((40 - y25.toInt) : Int).toNat < fuel30 → PV none g mX12_spare (sqJ T BB (wl [(123, 123, some 40), (123, 123, some 41), (149, 149, none), (150, 150, none)]) r m (fun m' => True)) 3 0 0 48 [.ref 123, .int x0, .int x1, .long y24, pv_U, .int y25] [] (mk T m26 n27 r) := by
            intro fuel30
            induction fuel30 with
            | zero => intro y24 y25 m26 n27 b33 b34 b35 I28 K29 z36; omega
            | succ fuel30 ih32 =>
              intro y24 y25 m26 n27 b33 b34 b35 I28 K29 z36
              have z37 : 0 ≤ (m26 123 40).toInt ∧ (m26 123 40).toInt ≤ 40 := I28 123 40
              refine pv_iload (M := mX12_spare) dX12_spare_48 50 rfl rfl ?_
              refine pv_aload_n (M := mX12_spare) 0 dX12_spare_50 51 rfl rfl rfl ?_
              refine iv_get (M := mX12_spare) (l1 := 0) (l2 := 40) dX12_spare_51 FX12 40 wd1213 (by decide) (tl123 hT) rfl I28 rfl 54 rfl (fun v38 ev38 pv38 qv38 => ?_)
              have wv38 : v38.toInt = (m26 123 40).toInt := congrArg Int32.toInt ev38
              refine pv_icmp_ge (M := mX12_spare) (tgt := 85) dX12_spare_54 57 rfl (by decide) (fun c39 => ?_) (fun c39 => ?_)
              · have c39 := iv_le (X := v38.toInt) (Y := y25.toInt) c39 rfl rfl
                refine pv_lload_n (M := mX12_spare) 3 dX12_spare_85 86 rfl rfl rfl ?_
                exact pv_lret (M := mX12_spare) dX12_spare_86 rfl ⟨_, _, _, rfl, rfl, I28, K29, trivial⟩
              · have c39 := iv_nle (X := v38.toInt) (Y := y25.toInt) c39 rfl rfl
                refine pv_aload_n (M := mX12_spare) 0 dX12_spare_57 58 rfl rfl rfl ?_
                refine pv_iload_n (M := mX12_spare) 2 dX12_spare_58 59 rfl rfl rfl ?_
                refine pv_iload (M := mX12_spare) dX12_spare_59 61 rfl rfl ?_
                refine pv_callv (M := mX12_spare) (as := [.int x1, .int y25]) (st := []) (kc2 := 0) (ks2 := 0) dX12_spare_61 wd1708 YX12_comeAll ⟨wd1710, wd110⟩ (mk_get (tl123 hT)) rfl rfl (s_X12_comeAll g hT I28 x1 (by omega) (by omega) y25) rfl rfl (Nat.le_of_ble_eq_true rfl) (by decide) rfl rfl 64 rfl (fun rv h1 q40 => ?_)
                obtain ⟨m41, n42, v45, rfl, rfl, I43, K44, pv45, qv45, rv45⟩ := q40
                have K44c := K44
                have u46 : nu m41 x0.toInt 0 = nu m26 x0.toInt 0 := nu_eq (fun j => K44c 124 j rfl) (fun j => K44c 128 j rfl) _ _
                have w47 : (m41 123 40).toInt = (m26 123 40).toInt := congrArg Int32.toInt (K44 123 40 rfl)
                have K44 := K29.trans (K44.sub (wl_sub (by decide)))
                show PV _ _ _ _ _ _ _ 64 [.ref 123, .int x0, .int x1, .long y24, pv_U, .int y25] [.int v45] _
                refine pv_if_eq (M := mX12_spare) (tgt := 79) dX12_spare_64 67 rfl (by decide) (fun c48 => ?_) (fun c48 => ?_)
                · have c48 := iv_eq (X := v45.toInt) (Y := 0) c48 rfl (by decide)
                  refine iv_inc (M := mX12_spare) (C := 1) dX12_spare_79 82 rfl rfl (by decide) rfl rfl (by decide) (by omega) (by omega) (fun v49 ev49 => ?_)
                  show PV _ _ _ _ _ _ _ 82 [.ref 123, .int x0, .int x1, .long y24, pv_U, .int v49] [] _
                  refine pv_goto (M := mX12_spare) (tgt := 48) dX12_spare_82 (by decide) ?_
                  exact ih32 y24 v49 m41 n42 (by first | omega | assumption | exact (iv_rng _).2 | exact (iv_rng _).1 | decide) (by first | omega | assumption | exact (iv_rng _).2 | exact (iv_rng _).1 | decide) (by first | omega | assumption | (show (m41 123 40).toInt = nu m41 x0.toInt 0; omega) | decide) I43 K44 (by omega)
                · have c48 := iv_ne (X := v45.toInt) (Y := 0) c48 rfl (by decide)
                  refine pv_lload_n (M := mX12_spare) 3 dX12_spare_67 68 rfl rfl rfl ?_
                  refine pv_lconst (M := mX12_spare) (v := 1) dX12_spare_68 69 rfl (by decide) ?_
                  refine pv_aload_n (M := mX12_spare) 0 dX12_spare_69 70 rfl rfl rfl ?_
                  refine pv_iload_n (M := mX12_spare) 1 dX12_spare_70 71 rfl rfl rfl ?_
                  refine pv_iload (M := mX12_spare) dX12_spare_71 73 rfl rfl ?_
                  refine pv_callv (M := mX12_spare) (as := [.int x0, .int y25]) (st := [.long 1, .long y24]) (kc2 := 0) (ks2 := 0) dX12_spare_73 wd1397 YX12_numberAt ⟨wd1399, wd57⟩ (mk_get (tl123 hT)) rfl rfl (s_X12_numberAt g hT I43 x0 (by omega) (by omega) y25 (by omega) (by omega) (by first | omega | assumption | exact (iv_rng _).2 | exact (iv_rng _).1 | decide)) rfl rfl (Nat.le_of_ble_eq_true rfl) (by decide) rfl rfl 76 rfl (fun rv h1 q50 => ?_)
                  obtain ⟨v51, rfl, rfl, pv51, qv51, rv51⟩ := q50
                  replace rv51 : v51.toInt < (m41 124 x0.toInt.toNat).toInt ∧ (m41 128 (40 * x0.toInt + v51.toInt).toNat).toInt = 0 := rv51
                  show PV _ _ _ _ _ _ _ 76 [.ref 123, .int x0, .int x1, .long y24, pv_U, .int y25] [.int v51, .long 1, .long y24] _
                  refine pv_lshl (M := mX12_spare) dX12_spare_76 77 rfl rfl ?_
                  generalize 1 <<< (v51.toInt64 &&& 63) = v52
                  refine iv_orJ (M := mX12_spare) dX12_spare_77 78 rfl (fun v53 ev53 => ?_)
                  refine pv_lstore_n (M := mX12_spare) 3 (lo2 := [.ref 123, .int x0, .int x1, .long v53, pv_U, .int y25]) dX12_spare_78 79 rfl rfl (by decide) rfl rfl ?_
                  refine iv_inc (M := mX12_spare) (C := 1) dX12_spare_79 82 rfl rfl (by decide) rfl rfl (by decide) (by omega) (by omega) (fun v54 ev54 => ?_)
                  show PV _ _ _ _ _ _ _ 82 [.ref 123, .int x0, .int x1, .long v53, pv_U, .int v54] [] _
                  refine pv_goto (M := mX12_spare) (tgt := 48) dX12_spare_82 (by decide) ?_
                  exact ih32 v53 v54 m41 n42 (by first | omega | assumption | exact (iv_rng _).2 | exact (iv_rng _).1 | decide) (by first | omega | assumption | exact (iv_rng _).2 | exact (iv_rng _).1 | decide) (by first | omega | assumption | (show (m41 123 40).toInt = nu m41 x0.toInt 0; omega) | decide) I43 K44 (by omega)
          have z55 : (0 : Int32).toInt = 0 := by decide
          exact lp31 (((40 - 0) : Int).toNat + 1) 0 0 m16 n17 (by first | omega | assumption | exact (iv_rng _).2 | exact (iv_rng _).1 | decide) (by first | omega | assumption | exact (iv_rng _).2 | exact (iv_rng _).1 | decide) (by first | omega | assumption | (show (m16 123 40).toInt = nu m16 x0.toInt 0; omega) | decide) I18 K19 (by omega)
        · have c23 := iv_eq (X := v20.toInt) (Y := 0) c23 rfl (by decide)
          refine pv_ldc2 (M := mX12_spare) (v := (-2)) dX12_spare_39 42 rfl wd1687 ?_
          exact pv_lret (M := mX12_spare) dX12_spare_42 rfl ⟨_, _, _, rfl, rfl, I18, K19, trivial⟩
      · have c7 := iv_eq (X := x1.toInt) (Y := 0) c7 rfl (by decide)
        refine pv_ldc2 (M := mX12_spare) (v := (-1)) dX12_spare_20 23 rfl wd1562 ?_
        exact pv_lret (M := mX12_spare) dX12_spare_23 rfl ⟨_, _, _, rfl, rfl, I, Kp, trivial⟩

set_option maxHeartbeats 2000000 in
set_option maxRecDepth 20000 in
theorem s_X12_tapeNumber (g : pv_G) {T : List mv_T} {m : Nat → Nat → Int32} {n : Nat → Nat → Int64} {r : Nat → Value} (hT : TX T) (I : IV BB m) (x0 : Int32) (hl0 : 0 ≤ x0.toInt) (hh0 : x0.toInt ≤ 49) : PM g mX12_tapeNumber yX12_tapeNumber (sqP (mk T m n r) (-2147483648) 2147483647 (fun v => True)) 1 0 0 [.ref 123, .int x0] (mk T m n r) := by
  have Kp : fr (wl []) m m := fr.rf
  refine PM.of 2 (lo := [.ref 123, .int x0, pv_U, pv_U]) rfl (by decide) rfl rfl (Nat.le_of_ble_eq_true rfl) ?_
  refine pv_iconst (M := mX12_tapeNumber) (v := 0) dX12_tapeNumber_0 1 rfl (by decide) ?_
  refine pv_istore_n (M := mX12_tapeNumber) 2 (lo2 := [.ref 123, .int x0, .int 0, pv_U]) dX12_tapeNumber_1 2 rfl rfl (by decide) rfl rfl ?_
  refine pv_iconst (M := mX12_tapeNumber) (v := 4) dX12_tapeNumber_2 3 rfl (by decide) ?_
  refine pv_iload_n (M := mX12_tapeNumber) 1 dX12_tapeNumber_3 4 rfl rfl rfl ?_
  refine iv_imul (M := mX12_tapeNumber) (X := 4) (Y := x0.toInt) dX12_tapeNumber_4 5 rfl (by decide) rfl (by omega) (by omega) (fun v1 ev1 => ?_)
  refine pv_istore_n (M := mX12_tapeNumber) 3 (lo2 := [.ref 123, .int x0, .int 0, .int v1]) dX12_tapeNumber_5 6 rfl rfl (by decide) rfl rfl ?_
  have lp9 : ∀ (fuel8 : Nat) (y2 : Int32) (y3 : Int32), (0 ≤ y3.toInt) → (y3.toInt ≤ 200) → ((200 - y3.toInt) : Int).toNat < fuel8 → PV none g mX12_tapeNumber (sqP (mk T m n r) (-2147483648) 2147483647 (fun v => True)) 1 0 0 6 [.ref 123, .int x0, .int y2, .int y3] [] (mk T m n r) := by
    intro fuel8
    induction fuel8 with
    | zero => intro y2 y3 b11 b12 z13; omega
    | succ fuel8 ih10 =>
      intro y2 y3 b11 b12 z13
      refine pv_iload_n (M := mX12_tapeNumber) 3 dX12_tapeNumber_6 7 rfl rfl rfl ?_
      refine pv_iconst (M := mX12_tapeNumber) (v := 4) dX12_tapeNumber_7 8 rfl (by decide) ?_
      refine pv_iload_n (M := mX12_tapeNumber) 1 dX12_tapeNumber_8 9 rfl rfl rfl ?_
      refine iv_imul (M := mX12_tapeNumber) (X := 4) (Y := x0.toInt) dX12_tapeNumber_9 10 rfl (by decide) rfl (by omega) (by omega) (fun v14 ev14 => ?_)
      refine pv_iconst (M := mX12_tapeNumber) (v := 4) dX12_tapeNumber_10 11 rfl (by decide) ?_
      refine iv_iadd (M := mX12_tapeNumber) (X := v14.toInt) (Y := 4) dX12_tapeNumber_11 12 rfl rfl (by decide) (by omega) (by omega) (fun v15 ev15 => ?_)
      refine pv_icmp_ge (M := mX12_tapeNumber) (tgt := 37) dX12_tapeNumber_12 15 rfl (by decide) (fun c16 => ?_) (fun c16 => ?_)
      · have c16 := iv_le (X := v15.toInt) (Y := y3.toInt) c16 rfl rfl
        refine pv_iload_n (M := mX12_tapeNumber) 2 dX12_tapeNumber_37 38 rfl rfl rfl ?_
        exact pv_iret (M := mX12_tapeNumber) dX12_tapeNumber_38 rfl rfl ⟨_, rfl, rfl, (iv_rng y2).1, (iv_rng y2).2, trivial⟩
      · have c16 := iv_nle (X := v15.toInt) (Y := y3.toInt) c16 rfl rfl
        refine pv_iload_n (M := mX12_tapeNumber) 2 dX12_tapeNumber_15 16 rfl rfl rfl ?_
        refine pv_bipush (M := mX12_tapeNumber) (v := 8) dX12_tapeNumber_16 18 rfl (by decide) ?_
        refine iv_shlU (M := mX12_tapeNumber) dX12_tapeNumber_18 19 rfl (fun v17 ev17 => ?_)
        refine pv_aload_n (M := mX12_tapeNumber) 0 dX12_tapeNumber_19 20 rfl rfl rfl ?_
        refine mv_get (M := mX12_tapeNumber) (v := .ref 129) dX12_tapeNumber_20 FX12 10 wd1183 (by decide) (tl123 hT) rfl rfl 23 rfl ?_
        refine pv_iload_n (M := mX12_tapeNumber) 3 dX12_tapeNumber_23 24 rfl rfl rfl ?_
        refine iv_bald (M := mX12_tapeNumber) (X := y3.toInt) (l1 := (-128)) (l2 := 127) dX12_tapeNumber_24 (tl129 hT) rfl (by omega) (by omega) I (fun _ => rfl) 25 rfl (fun v18 ev18 pv18 qv18 => ?_)
        refine pv_sipush (M := mX12_tapeNumber) (v := 255) dX12_tapeNumber_25 28 rfl (by decide) ?_
        refine iv_iandm (M := mX12_tapeNumber) dX12_tapeNumber_28 29 rfl 8 (by decide) (by decide) (fun v19 ev19 pv19 qv19 => ?_)
        have qv19 : v19.toInt < 256 := qv19
        refine iv_orU (M := mX12_tapeNumber) dX12_tapeNumber_29 30 rfl (fun v20 ev20 => ?_)
        refine pv_istore_n (M := mX12_tapeNumber) 2 (lo2 := [.ref 123, .int x0, .int v20, .int y3]) dX12_tapeNumber_30 31 rfl rfl (by decide) rfl rfl ?_
        refine iv_inc (M := mX12_tapeNumber) (C := 1) dX12_tapeNumber_31 34 rfl rfl (by decide) rfl rfl (by decide) (by omega) (by omega) (fun v21 ev21 => ?_)
        show PV _ _ _ _ _ _ _ 34 [.ref 123, .int x0, .int v20, .int v21] [] _
        refine pv_goto (M := mX12_tapeNumber) (tgt := 6) dX12_tapeNumber_34 (by decide) ?_
        exact ih10 v20 v21 (by first | omega | assumption | exact (iv_rng _).2 | exact (iv_rng _).1 | decide) (by first | omega | assumption | exact (iv_rng _).2 | exact (iv_rng _).1 | decide) (by omega)
  have z22 : (0 : Int32).toInt = 0 := by decide
  exact lp9 (((200 - v1.toInt) : Int).toNat + 1) 0 v1 (by first | omega | assumption | exact (iv_rng _).2 | exact (iv_rng _).1 | decide) (by first | omega | assumption | exact (iv_rng _).2 | exact (iv_rng _).1 | decide) (by omega)

set_option maxHeartbeats 2000000 in
set_option maxRecDepth 20000 in
theorem s_X12_count (g : pv_G) {T : List mv_T} {m : Nat → Nat → Int32} {n : Nat → Nat → Int64} {r : Nat → Value} (hT : TX T) (I : IV BB m) (x0 : Int32) : PM g mX12_count yX12_count (sqP (mk T m n r) (-2147483648) 2147483647 (fun v => True)) 2 0 0 [.ref 123, .int x0] (mk T m n r) := by
  have Kp : fr (wl []) m m := fr.rf
  refine PM.of 0 (lo := [.ref 123, .int x0]) rfl (by decide) rfl rfl (Nat.le_of_ble_eq_true rfl) ?_
  refine pv_iload_n (M := mX12_count) 1 dX12_count_0 1 rfl rfl rfl ?_
  by_cases c1 : x0.toInt = 0
  · refine iv_tabIn (M := mX12_count) (X := 0) (off := 47) (tgt := 48) dX12_count_1 c1 (by decide) (by decide) (by decide) (by decide) ?_
    refine pv_aload_n (M := mX12_count) 0 dX12_count_48 49 rfl rfl rfl ?_
    refine iv_get (M := mX12_count) (l1 := 0) (l2 := 8) dX12_count_49 FX12 0 wd1173 (by decide) (tl123 hT) rfl I rfl 52 rfl (fun v2 ev2 pv2 qv2 => ?_)
    exact pv_iret (M := mX12_count) dX12_count_52 rfl rfl ⟨_, rfl, rfl, (iv_rng v2).1, (iv_rng v2).2, trivial⟩
  by_cases c3 : x0.toInt = 1
  · refine iv_tabIn (M := mX12_count) (X := 1) (off := 52) (tgt := 53) dX12_count_1 c3 (by decide) (by decide) (by decide) (by decide) ?_
    refine pv_aload_n (M := mX12_count) 0 dX12_count_53 54 rfl rfl rfl ?_
    refine iv_get (M := mX12_count) (l1 := 0) (l2 := 255) dX12_count_54 FX12 4 wd1177 (by decide) (tl123 hT) rfl I rfl 57 rfl (fun v4 ev4 pv4 qv4 => ?_)
    exact pv_iret (M := mX12_count) dX12_count_57 rfl rfl ⟨_, rfl, rfl, (iv_rng v4).1, (iv_rng v4).2, trivial⟩
  by_cases c5 : x0.toInt = 2
  · refine iv_tabIn (M := mX12_count) (X := 2) (off := 57) (tgt := 58) dX12_count_1 c5 (by decide) (by decide) (by decide) (by decide) ?_
    refine pv_aload_n (M := mX12_count) 0 dX12_count_58 59 rfl rfl rfl ?_
    refine iv_get (M := mX12_count) (l1 := 0) (l2 := 12) dX12_count_59 FX12 20 wd1193 (by decide) (tl123 hT) rfl I rfl 62 rfl (fun v6 ev6 pv6 qv6 => ?_)
    exact pv_iret (M := mX12_count) dX12_count_62 rfl rfl ⟨_, rfl, rfl, (iv_rng v6).1, (iv_rng v6).2, trivial⟩
  by_cases c7 : x0.toInt = 3
  · refine iv_tabIn (M := mX12_count) (X := 3) (off := 62) (tgt := 63) dX12_count_1 c7 (by decide) (by decide) (by decide) (by decide) ?_
    refine pv_aload_n (M := mX12_count) 0 dX12_count_63 64 rfl rfl rfl ?_
    refine iv_get (M := mX12_count) (l1 := 0) (l2 := 200) dX12_count_64 FX12 11 wd1184 (by decide) (tl123 hT) rfl I rfl 67 rfl (fun v8 ev8 pv8 qv8 => ?_)
    exact pv_iret (M := mX12_count) dX12_count_67 rfl rfl ⟨_, rfl, rfl, (iv_rng v8).1, (iv_rng v8).2, trivial⟩
  by_cases c9 : x0.toInt = 4
  · refine iv_tabIn (M := mX12_count) (X := 4) (off := 67) (tgt := 68) dX12_count_1 c9 (by decide) (by decide) (by decide) (by decide) ?_
    refine pv_aload_n (M := mX12_count) 0 dX12_count_68 69 rfl rfl rfl ?_
    refine iv_get (M := mX12_count) (l1 := 0) (l2 := 999) dX12_count_69 FX12 1 wd1174 (by decide) (tl123 hT) rfl I rfl 72 rfl (fun v10 ev10 pv10 qv10 => ?_)
    exact pv_iret (M := mX12_count) dX12_count_72 rfl rfl ⟨_, rfl, rfl, (iv_rng v10).1, (iv_rng v10).2, trivial⟩
  by_cases c11 : x0.toInt = 5
  · refine iv_tabIn (M := mX12_count) (X := 5) (off := 72) (tgt := 73) dX12_count_1 c11 (by decide) (by decide) (by decide) (by decide) ?_
    refine pv_aload_n (M := mX12_count) 0 dX12_count_73 74 rfl rfl rfl ?_
    refine iv_get (M := mX12_count) (l1 := 0) (l2 := 60) dX12_count_74 FX12 3 wd1176 (by decide) (tl123 hT) rfl I rfl 77 rfl (fun v12 ev12 pv12 qv12 => ?_)
    exact pv_iret (M := mX12_count) dX12_count_77 rfl rfl ⟨_, rfl, rfl, (iv_rng v12).1, (iv_rng v12).2, trivial⟩
  by_cases c13 : x0.toInt = 6
  · refine iv_tabIn (M := mX12_count) (X := 6) (off := 77) (tgt := 78) dX12_count_1 c13 (by decide) (by decide) (by decide) (by decide) ?_
    refine pv_aload_n (M := mX12_count) 0 dX12_count_78 79 rfl rfl rfl ?_
    refine iv_get (M := mX12_count) (l1 := 0) (l2 := 65535) dX12_count_79 FX12 2 wd1175 (by decide) (tl123 hT) rfl I rfl 82 rfl (fun v14 ev14 pv14 qv14 => ?_)
    exact pv_iret (M := mX12_count) dX12_count_82 rfl rfl ⟨_, rfl, rfl, (iv_rng v14).1, (iv_rng v14).2, trivial⟩
  by_cases c15 : x0.toInt = 7
  · refine iv_tabIn (M := mX12_count) (X := 7) (off := 82) (tgt := 83) dX12_count_1 c15 (by decide) (by decide) (by decide) (by decide) ?_
    refine pv_aload_n (M := mX12_count) 0 dX12_count_83 84 rfl rfl rfl ?_
    refine pv_callv (M := mX12_count) (as := []) (st := []) (kc2 := 0) (ks2 := 0) dX12_count_84 wd1795 YX12_costAll ⟨wd1797, wd123⟩ (mk_get (tl123 hT)) rfl rfl (s_X12_costAll g hT I) rfl rfl (Nat.le_of_ble_eq_true rfl) (by decide) rfl rfl 87 rfl (fun rv h1 q16 => ?_)
    obtain ⟨v17, rfl, rfl, pv17, qv17, rv17⟩ := q16
    show PV _ _ _ _ _ _ _ 87 [.ref 123, .int x0] [.int v17] _
    exact pv_iret (M := mX12_count) dX12_count_87 rfl rfl ⟨_, rfl, rfl, (iv_rng v17).1, (iv_rng v17).2, trivial⟩
  refine pv_tableOut (M := mX12_count) (tgt := 88) dX12_count_1 (by omega) (by decide) ?_
  refine pv_iload_n (M := mX12_count) 1 dX12_count_88 89 rfl rfl rfl ?_
  refine pv_bipush (M := mX12_count) (v := 10) dX12_count_89 91 rfl (by decide) ?_
  refine pv_bipush (M := mX12_count) (v := 9) dX12_count_91 93 rfl (by decide) ?_
  refine pv_aload_n (M := mX12_count) 0 dX12_count_93 94 rfl rfl rfl ?_
  refine iv_get (M := mX12_count) (l1 := 0) (l2 := 8) dX12_count_94 FX12 0 wd1173 (by decide) (tl123 hT) rfl I rfl 97 rfl (fun v18 ev18 pv18 qv18 => ?_)
  refine iv_iadd (M := mX12_count) (X := 9) (Y := v18.toInt) dX12_count_97 98 rfl (by decide) rfl (by omega) (by omega) (fun v19 ev19 => ?_)
  have z20 : (10 : Int32).toInt = 10 := by decide
  refine pv_calls (M := mX12_count) (as := [.int x0, .int 10, .int v19]) (st := []) (kc2 := 0) (ks2 := 0) dX12_count_98 wd1370 YX12_in wd1371 (s_X12_in g hT I x0 10 v19) rfl rfl (Nat.le_of_ble_eq_true rfl) (by decide) rfl rfl 101 rfl (fun rv h1 q21 => ?_)
  obtain ⟨v22, rfl, rfl, pv22, qv22, rv22⟩ := q21
  replace rv22 : v22 = 0 ∨ ((10 : Int) ≤ x0.toInt ∧ x0.toInt ≤ v19.toInt) := by have q_ := rv22; (try rw [z20] at q_); exact q_
  show PV _ _ _ _ _ _ _ 101 [.ref 123, .int x0] [.int v22] _
  refine pv_if_eq (M := mX12_count) (tgt := 113) dX12_count_101 104 rfl (by decide) (fun c23 => ?_) (fun c23 => ?_)
  · have c23 := iv_eq (X := v22.toInt) (Y := 0) c23 rfl (by decide)
    refine pv_iload_n (M := mX12_count) 1 dX12_count_113 114 rfl rfl rfl ?_
    refine pv_bipush (M := mX12_count) (v := 20) dX12_count_114 116 rfl (by decide) ?_
    refine pv_bipush (M := mX12_count) (v := 27) dX12_count_116 118 rfl (by decide) ?_
    have z24 : (20 : Int32).toInt = 20 := by decide
    have z25 : (27 : Int32).toInt = 27 := by decide
    refine pv_calls (M := mX12_count) (as := [.int x0, .int 20, .int 27]) (st := []) (kc2 := 0) (ks2 := 0) dX12_count_118 wd1370 YX12_in wd1371 (s_X12_in g hT I x0 20 27) rfl rfl (Nat.le_of_ble_eq_true rfl) (by decide) rfl rfl 121 rfl (fun rv h1 q26 => ?_)
    obtain ⟨v27, rfl, rfl, pv27, qv27, rv27⟩ := q26
    replace rv27 : v27 = 0 ∨ ((20 : Int) ≤ x0.toInt ∧ x0.toInt ≤ (27 : Int)) := by have q_ := rv27; (try rw [z24] at q_); (try rw [z25] at q_); exact q_
    show PV _ _ _ _ _ _ _ 121 [.ref 123, .int x0] [.int v27] _
    refine pv_if_eq (M := mX12_count) (tgt := 136) dX12_count_121 124 rfl (by decide) (fun c28 => ?_) (fun c28 => ?_)
    · have c28 := iv_eq (X := v27.toInt) (Y := 0) c28 rfl (by decide)
      refine pv_iconst (M := mX12_count) (v := (-1)) dX12_count_136 137 rfl (by decide) ?_
      exact pv_iret (M := mX12_count) dX12_count_137 rfl rfl ⟨_, rfl, rfl, by decide, by decide, trivial⟩
    · have pc28 := rv27.resolve_left c28
      have c28 := iv_ne (X := v27.toInt) (Y := 0) c28 rfl (by decide)
      refine pv_aload_n (M := mX12_count) 0 dX12_count_124 125 rfl rfl rfl ?_
      refine mv_get (M := mX12_count) (v := .ref 126) dX12_count_125 FX12 7 wd1180 (by decide) (tl123 hT) rfl rfl 128 rfl ?_
      refine pv_iload_n (M := mX12_count) 1 dX12_count_128 129 rfl rfl rfl ?_
      refine pv_bipush (M := mX12_count) (v := 20) dX12_count_129 131 rfl (by decide) ?_
      refine iv_isub (M := mX12_count) (X := x0.toInt) (Y := 20) dX12_count_131 132 rfl rfl (by decide) (by omega) (by omega) (fun v29 ev29 => ?_)
      refine iv_iald (M := mX12_count) (X := v29.toInt) (l1 := 0) (l2 := 16) dX12_count_132 (tl126 hT) rfl (by omega) (by omega) I (fun _ => rfl) 133 rfl (fun v30 ev30 pv30 qv30 => ?_)
      refine pv_goto (M := mX12_count) (tgt := 137) dX12_count_133 (by decide) ?_
      exact pv_iret (M := mX12_count) dX12_count_137 rfl rfl ⟨_, rfl, rfl, (iv_rng v30).1, (iv_rng v30).2, trivial⟩
  · have pc23 := rv22.resolve_left c23
    have c23 := iv_ne (X := v22.toInt) (Y := 0) c23 rfl (by decide)
    refine pv_aload_n (M := mX12_count) 0 dX12_count_104 105 rfl rfl rfl ?_
    refine pv_iload_n (M := mX12_count) 1 dX12_count_105 106 rfl rfl rfl ?_
    refine pv_bipush (M := mX12_count) (v := 10) dX12_count_106 108 rfl (by decide) ?_
    refine iv_isub (M := mX12_count) (X := x0.toInt) (Y := 10) dX12_count_108 109 rfl rfl (by decide) (by omega) (by omega) (fun v31 ev31 => ?_)
    refine pv_callv (M := mX12_count) (as := [.int v31]) (st := []) (kc2 := 0) (ks2 := 0) dX12_count_109 wd1393 YX12_leftMany ⟨wd1395, wd56⟩ (mk_get (tl123 hT)) rfl rfl (s_X12_leftMany g hT I v31 (by omega) (by omega)) rfl rfl (Nat.le_of_ble_eq_true rfl) (by decide) rfl rfl 112 rfl (fun rv h1 q32 => ?_)
    obtain ⟨v33, rfl, rfl, pv33, qv33, rv33⟩ := q32
    replace rv33 : v33.toInt = nu m v31.toInt 0 := rv33
    show PV _ _ _ _ _ _ _ 112 [.ref 123, .int x0] [.int v33] _
    exact pv_iret (M := mX12_count) dX12_count_112 rfl rfl ⟨_, rfl, rfl, (iv_rng v33).1, (iv_rng v33).2, trivial⟩
