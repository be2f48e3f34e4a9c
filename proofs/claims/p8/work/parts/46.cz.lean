set_option maxHeartbeats 2000000 in
set_option maxRecDepth 20000 in
theorem s_X11_coverFor (g : pv_G) {T : List mv_T} {m : Nat → Nat → Int32} {n : Nat → Nat → Int64} {r : Nat → Value} {la lb : Nat} (hT : TX T) (I : IV BB m) (R : RX T r la lb) (hC : TC T) (hc2 : r 2 = .ref 169) (x0 : Int32) : PM g mX11_coverFor yX11_coverFor (sqAr T BB WX rn r m 169 (fun m' r' => True)) 5 0 0 [.ref 0, .int x0] (mk T m n r) := by
  have Kp : fr WX m m := fr.rf
  have R0 := R
  have zR := R.2.2.2.2.1.1
  have zR2 := R.2.2.2.2.2.1
  have hc20 := hc2
  refine PM.of 2 (lo := [.ref 0, .int x0, pv_U, pv_U]) rfl (by decide) rfl rfl (Nat.le_of_ble_eq_true rfl) ?_
  refine pv_aload_n (M := mX11_coverFor) 0 dX11_coverFor_0 1 rfl rfl rfl ?_
  refine mv_get (M := mX11_coverFor) (v := .ref 169) dX11_coverFor_1 FX11 12 wd419 (by decide) (tl0 hT) rfl hc2 4 rfl ?_
  refine pv_ifnonnull (M := mX11_coverFor) (tgt := 17) dX11_coverFor_4 (by decide) ?_
  refine pv_aload_n (M := mX11_coverFor) 0 dX11_coverFor_17 18 rfl rfl rfl ?_
  refine mv_get (M := mX11_coverFor) (v := .ref 169) dX11_coverFor_18 FX11 12 wd419 (by decide) (tl0 hT) rfl hc2 21 rfl ?_
  refine pv_astore_n (M := mX11_coverFor) 2 (lo2 := [.ref 0, .int x0, .ref 169, pv_U]) dX11_coverFor_21 22 rfl rfl (by decide) rfl rfl ?_
  refine pv_aload_n (M := mX11_coverFor) 0 dX11_coverFor_22 23 rfl rfl rfl ?_
  refine pv_aload_n (M := mX11_coverFor) 2 dX11_coverFor_23 24 rfl rfl rfl ?_
  refine mv_putr (M := mX11_coverFor) (j := 2) (v := .ref 169) dX11_coverFor_24 FX11 12 wd419 (by decide) rfl (tl0 hT) rfl (hu_of (by decide)) (NM2t hC) (fun _ => rfl) (fun _ => rfl) 27 rfl (fun r1 er1 => ?_)
  rw [er1.trans (up1_same hc2)]
  exact s_X11_coverFor_vt g hT I Kp (rn.rf hc20) R hC hc2 x0

set_option maxHeartbeats 2000000 in
set_option maxRecDepth 20000 in
theorem s_X11_shortest_vc (g : pv_G) {T : List mv_T} {m : Nat → Nat → Int32} {n : Nat → Nat → Int64} {r : Nat → Value} {la lb : Nat} (hT : TX T) (I : IV BB m) (R : RX T r la lb) (hC : TC T) (hc2 : r 2 = .ref 169) (x0 : Int32) (x1 : Int32) : PM g mX11_shortest yX11_shortest (sqIr T BB wN rn r m (-2147483648) 2147483647 (fun m' r' v => True)) 6 0 0 [.ref 0, .int x0, .int x1] (mk T m n r) := by
  have Kp : fr wN m m := fr.rf
  have R0 := R
  have zR := R.2.2.2.2.1.1
  have zR2 := R.2.2.2.2.2.1
  have hc20 := hc2
  refine PM.of 2 (lo := [.ref 0, .int x0, .int x1, pv_U, pv_U]) rfl (by decide) rfl rfl (Nat.le_of_ble_eq_true rfl) ?_
  refine pv_iload_n (M := mX11_shortest) 2 dX11_shortest_0 1 rfl rfl rfl ?_
  refine pv_iconst (M := mX11_shortest) (v := (-1)) dX11_shortest_1 2 rfl (by decide) ?_
  refine pv_icmp_ge (M := mX11_shortest) (tgt := 7) dX11_shortest_2 5 rfl (by decide) (fun c1 => ?_) (fun c1 => ?_)
  · have c1 := iv_le (X := (-1)) (Y := x1.toInt) c1 (by decide) rfl
    refine pv_aload_n (M := mX11_shortest) 0 dX11_shortest_7 8 rfl rfl rfl ?_
    refine pv_iload_n (M := mX11_shortest) 1 dX11_shortest_8 9 rfl rfl rfl ?_
    refine pv_callv (M := mX11_shortest) (as := [.int x0]) (st := []) (kc2 := 0) (ks2 := 0) dX11_shortest_9 wd959 YX11_refuseCover ⟨wd961, wd38⟩ (mk_get (tl0 hT)) rfl rfl (s_X11_refuseCover g hT I R x0) rfl rfl (Nat.le_of_ble_eq_true rfl) (by decide) rfl rfl 12 rfl (fun rv h1 q2 => ?_)
    obtain ⟨v3, rfl, rfl, pv3, qv3, rv3⟩ := q2
    replace rv3 : RFZ m x0 v3 := rv3
    show PV _ _ _ _ _ _ _ 12 [.ref 0, .int x0, .int x1, pv_U, pv_U] [.int v3] _
    refine pv_istore_n (M := mX11_shortest) 3 (lo2 := [.ref 0, .int x0, .int x1, .int v3, pv_U]) dX11_shortest_12 13 rfl rfl (by decide) rfl rfl ?_
    refine pv_iload_n (M := mX11_shortest) 3 dX11_shortest_13 14 rfl rfl rfl ?_
    refine pv_if_eq (M := mX11_shortest) (tgt := 19) dX11_shortest_14 17 rfl (by decide) (fun c4 => ?_) (fun c4 => ?_)
    · have c4 := iv_eq (X := v3.toInt) (Y := 0) c4 rfl (by decide)
      refine pv_aload_n (M := mX11_shortest) 0 dX11_shortest_19 20 rfl rfl rfl ?_
      refine pv_iload_n (M := mX11_shortest) 1 dX11_shortest_20 21 rfl rfl rfl ?_
      refine pv_callv (M := mX11_shortest) (as := [.int x0]) (st := []) (kc2 := 0) (ks2 := 0) dX11_shortest_21 wd963 YX11_coverFor ⟨wd965, wd39⟩ (mk_get (tl0 hT)) rfl rfl (s_X11_coverFor g hT I R hC hc2 x0) rfl rfl (Nat.le_of_ble_eq_true rfl) (by decide) rfl rfl 24 rfl (fun rv h1 q5 => ?_)
      obtain ⟨m6, n7, r10, rfl, rfl, I8, K9, qr10, rm6⟩ := q5
      have or10 := rn.trans (rn.rf hc20) qr10
      have R := RX_rn R qr10
      have zR := R.2.2.2.2.1.1
      have zR2 := R.2.2.2.2.2.1
      have hc2 : r10 2 = .ref 169 := or10.1
      have K9c := K9
      have K9 := Kp.trans (K9.sub (by first | exact wg_l (by decide) | exact wg_g (by decide) | exact WX_wg | exact la7_wg zR (by decide) | exact wsL_wg zR (by decide)))
      show PV _ _ _ _ _ _ _ 24 [.ref 0, .int x0, .int x1, .int v3, pv_U] [.ref 169] _
      refine mv_get (M := mX11_shortest) (v := .ref 170) dX11_shortest_24 FX3 0 wd980 (by decide) (tc169 hC) rfl rfl 27 rfl ?_
      refine pv_astore (M := mX11_shortest) (lo2 := [.ref 0, .int x0, .int x1, .int v3, .ref 170]) dX11_shortest_27 29 rfl (by decide) rfl rfl ?_
      refine pv_iload_n (M := mX11_shortest) 2 dX11_shortest_29 30 rfl rfl rfl ?_
      refine pv_iconst (M := mX11_shortest) (v := (-1)) dX11_shortest_30 31 rfl (by decide) ?_
      refine pv_icmp_ne (M := mX11_shortest) (tgt := 42) dX11_shortest_31 34 rfl (by decide) (fun c11 => ?_) (fun c11 => ?_)
      · have c11 := iv_ne (X := x1.toInt) (Y := (-1)) c11 rfl (by decide)
        refine pv_aload (M := mX11_shortest) dX11_shortest_42 44 rfl rfl ?_
        refine pv_iload_n (M := mX11_shortest) 2 dX11_shortest_44 45 rfl rfl rfl ?_
        refine pv_callv (M := mX11_shortest) (as := [.int x1]) (st := []) (kc2 := 0) (ks2 := 0) dX11_shortest_45 wd704 YX8_at ⟨wd705, wd706⟩ (mk_get (tc170 hC)) rfl rfl (s_X8_at g hT I8 170 48 (row170 hC) x1) rfl rfl (Nat.le_of_ble_eq_true rfl) (by decide) rfl rfl 48 rfl (fun rv h1 q12 => ?_)
        obtain ⟨v13, rfl, rfl, pv13, qv13, rv13⟩ := q12
        replace rv13 : v13.toInt = atv m6 170 x1.toInt := rv13
        show PV _ _ _ _ _ _ _ 48 [.ref 0, .int x0, .int x1, .int v3, .ref 170] [.int v13] _
        exact pv_iret (M := mX11_shortest) dX11_shortest_48 rfl rfl ⟨_, _, _, _, rfl, rfl, I8, K9, or10, (iv_rng v13).1, (iv_rng v13).2, trivial⟩
      · have c11 := iv_eq (X := x1.toInt) (Y := (-1)) c11 rfl (by decide)
        refine pv_aload (M := mX11_shortest) dX11_shortest_34 36 rfl rfl ?_
        refine iv_get (M := mX11_shortest) (l1 := 0) (l2 := 48) dX11_shortest_36 FX8 1 wd200 (by decide) (tc170 hC) rfl I8 rfl 39 rfl (fun v14 ev14 pv14 qv14 => ?_)
        refine pv_goto (M := mX11_shortest) (tgt := 48) dX11_shortest_39 (by decide) ?_
        exact pv_iret (M := mX11_shortest) dX11_shortest_48 rfl rfl ⟨_, _, _, _, rfl, rfl, I8, K9, or10, (iv_rng v14).1, (iv_rng v14).2, trivial⟩
    · have c4 := iv_ne (X := v3.toInt) (Y := 0) c4 rfl (by decide)
      refine pv_iload_n (M := mX11_shortest) 3 dX11_shortest_17 18 rfl rfl rfl ?_
      exact pv_iret (M := mX11_shortest) dX11_shortest_18 rfl rfl ⟨_, _, _, _, rfl, rfl, I, Kp, (rn.rf hc20), (iv_rng v3).1, (iv_rng v3).2, trivial⟩
  · have c1 := iv_nle (X := (-1)) (Y := x1.toInt) c1 (by decide) rfl
    refine pv_iconst (M := mX11_shortest) (v := (-1)) dX11_shortest_5 6 rfl (by decide) ?_
    exact pv_iret (M := mX11_shortest) dX11_shortest_6 rfl rfl ⟨_, _, _, _, rfl, rfl, I, Kp, (rn.rf hc20), by decide, by decide, trivial⟩

set_option maxHeartbeats 2000000 in
set_option maxRecDepth 20000 in
theorem s_X11_shortestMany_vc (g : pv_G) {T : List mv_T} {m : Nat → Nat → Int32} {n : Nat → Nat → Int64} {r : Nat → Value} {la lb : Nat} (hT : TX T) (I : IV BB m) (R : RX T r la lb) (hC : TC T) (hc2 : r 2 = .ref 169) (x0 : Int32) : PM g mX11_shortestMany yX11_shortestMany (sqJr T BB wN rn r m (fun m' r' => True)) 6 0 0 [.ref 0, .int x0] (mk T m n r) := by
  have Kp : fr wN m m := fr.rf
  have R0 := R
  have zR := R.2.2.2.2.1.1
  have zR2 := R.2.2.2.2.2.1
  have hc20 := hc2
  refine PM.of 1 (lo := [.ref 0, .int x0, pv_U]) rfl (by decide) rfl rfl (Nat.le_of_ble_eq_true rfl) ?_
  refine pv_aload_n (M := mX11_shortestMany) 0 dX11_shortestMany_0 1 rfl rfl rfl ?_
  refine pv_iload_n (M := mX11_shortestMany) 1 dX11_shortestMany_1 2 rfl rfl rfl ?_
  refine pv_callv (M := mX11_shortestMany) (as := [.int x0]) (st := []) (kc2 := 0) (ks2 := 0) dX11_shortestMany_2 wd959 YX11_refuseCover ⟨wd961, wd38⟩ (mk_get (tl0 hT)) rfl rfl (s_X11_refuseCover g hT I R x0) rfl rfl (Nat.le_of_ble_eq_true rfl) (by decide) rfl rfl 5 rfl (fun rv h1 q1 => ?_)
  obtain ⟨v2, rfl, rfl, pv2, qv2, rv2⟩ := q1
  replace rv2 : RFZ m x0 v2 := rv2
  show PV _ _ _ _ _ _ _ 5 [.ref 0, .int x0, pv_U] [.int v2] _
  refine pv_istore_n (M := mX11_shortestMany) 2 (lo2 := [.ref 0, .int x0, .int v2]) dX11_shortestMany_5 6 rfl rfl (by decide) rfl rfl ?_
  refine pv_iload_n (M := mX11_shortestMany) 2 dX11_shortestMany_6 7 rfl rfl rfl ?_
  refine pv_if_eq (M := mX11_shortestMany) (tgt := 13) dX11_shortestMany_7 10 rfl (by decide) (fun c3 => ?_) (fun c3 => ?_)
  · have c3 := iv_eq (X := v2.toInt) (Y := 0) c3 rfl (by decide)
    refine pv_aload_n (M := mX11_shortestMany) 0 dX11_shortestMany_13 14 rfl rfl rfl ?_
    refine pv_iload_n (M := mX11_shortestMany) 1 dX11_shortestMany_14 15 rfl rfl rfl ?_
    refine pv_callv (M := mX11_shortestMany) (as := [.int x0]) (st := []) (kc2 := 0) (ks2 := 0) dX11_shortestMany_15 wd963 YX11_coverFor ⟨wd965, wd39⟩ (mk_get (tl0 hT)) rfl rfl (s_X11_coverFor g hT I R hC hc2 x0) rfl rfl (Nat.le_of_ble_eq_true rfl) (by decide) rfl rfl 18 rfl (fun rv h1 q4 => ?_)
    obtain ⟨m5, n6, r9, rfl, rfl, I7, K8, qr9, rm5⟩ := q4
    have or9 := rn.trans (rn.rf hc20) qr9
    have R := RX_rn R qr9
    have zR := R.2.2.2.2.1.1
    have zR2 := R.2.2.2.2.2.1
    have hc2 : r9 2 = .ref 169 := or9.1
    have K8c := K8
    have K8 := Kp.trans (K8.sub (by first | exact wg_l (by decide) | exact wg_g (by decide) | exact WX_wg | exact la7_wg zR (by decide) | exact wsL_wg zR (by decide)))
    show PV _ _ _ _ _ _ _ 18 [.ref 0, .int x0, .int v2] [.ref 169] _
    refine pv_callv (M := mX11_shortestMany) (as := []) (st := []) (kc2 := 0) (ks2 := 0) dX11_shortestMany_18 wd1048 YX3_howMany ⟨wd1049, wd1050⟩ (mk_get (tc169 hC)) rfl rfl (s_X3_howMany g hT I7 hC) rfl rfl (Nat.le_of_ble_eq_true rfl) (by decide) rfl rfl 21 rfl (fun rv h1 q10 => ?_)
    obtain ⟨v11, rfl, rfl⟩ := q10
    show PV _ _ _ _ _ _ _ 21 [.ref 0, .int x0, .int v2] [.long v11] _
    exact pv_lret (M := mX11_shortestMany) dX11_shortestMany_21 rfl ⟨_, _, _, _, rfl, rfl, I7, K8, or9, trivial⟩
  · have c3 := iv_ne (X := v2.toInt) (Y := 0) c3 rfl (by decide)
    refine pv_iload_n (M := mX11_shortestMany) 2 dX11_shortestMany_10 11 rfl rfl rfl ?_
    refine iv_i2l (M := mX11_shortestMany) dX11_shortestMany_11 12 rfl (fun v12 ev12 => ?_)
    exact pv_lret (M := mX11_shortestMany) dX11_shortestMany_12 rfl ⟨_, _, _, _, rfl, rfl, I, Kp, (rn.rf hc20), trivial⟩

set_option maxHeartbeats 2000000 in
set_option maxRecDepth 20000 in
theorem s_X11_bound_vc (g : pv_G) {T : List mv_T} {m : Nat → Nat → Int32} {n : Nat → Nat → Int64} {r : Nat → Value} {la lb : Nat} (hT : TX T) (I : IV BB m) (R : RX T r la lb) (hC : TC T) (hc2 : r 2 = .ref 169) (x0 : Int32) : PM g mX11_bound yX11_bound (sqIr T BB wN rn r m (-2147483648) 2147483647 (fun m' r' v => True)) 6 0 0 [.ref 0, .int x0] (mk T m n r) := by
  have Kp : fr wN m m := fr.rf
  have R0 := R
  have zR := R.2.2.2.2.1.1
  have zR2 := R.2.2.2.2.2.1
  have hc20 := hc2
  refine PM.of 4 (lo := [.ref 0, .int x0, pv_U, pv_U, pv_U, pv_U]) rfl (by decide) rfl rfl (Nat.le_of_ble_eq_true rfl) ?_
  refine pv_aload_n (M := mX11_bound) 0 dX11_bound_0 1 rfl rfl rfl ?_
  refine pv_iload_n (M := mX11_bound) 1 dX11_bound_1 2 rfl rfl rfl ?_
  refine pv_callv (M := mX11_bound) (as := [.int x0]) (st := []) (kc2 := 0) (ks2 := 0) dX11_bound_2 wd959 YX11_refuseCover ⟨wd961, wd38⟩ (mk_get (tl0 hT)) rfl rfl (s_X11_refuseCover g hT I R x0) rfl rfl (Nat.le_of_ble_eq_true rfl) (by decide) rfl rfl 5 rfl (fun rv h1 q1 => ?_)
  obtain ⟨v2, rfl, rfl, pv2, qv2, rv2⟩ := q1
  replace rv2 : RFZ m x0 v2 := rv2
  show PV _ _ _ _ _ _ _ 5 [.ref 0, .int x0, pv_U, pv_U, pv_U, pv_U] [.int v2] _
  refine pv_istore_n (M := mX11_bound) 2 (lo2 := [.ref 0, .int x0, .int v2, pv_U, pv_U, pv_U]) dX11_bound_5 6 rfl rfl (by decide) rfl rfl ?_
  refine pv_iload_n (M := mX11_bound) 2 dX11_bound_6 7 rfl rfl rfl ?_
  refine pv_if_eq (M := mX11_bound) (tgt := 12) dX11_bound_7 10 rfl (by decide) (fun c3 => ?_) (fun c3 => ?_)
  · have c3 := iv_eq (X := v2.toInt) (Y := 0) c3 rfl (by decide)
    refine pv_iconst (M := mX11_bound) (v := 0) dX11_bound_12 13 rfl (by decide) ?_
    refine pv_istore_n (M := mX11_bound) 3 (lo2 := [.ref 0, .int x0, .int v2, .int 0, pv_U, pv_U]) dX11_bound_13 14 rfl rfl (by decide) rfl rfl ?_
    refine pv_iconst (M := mX11_bound) (v := 0) dX11_bound_14 15 rfl (by decide) ?_
    refine pv_istore (M := mX11_bound) (lo2 := [.ref 0, .int x0, .int v2, .int 0, .int 0, pv_U]) dX11_bound_15 17 rfl (by decide) rfl rfl ?_
    have lp11 : ∀ (fuel10 : Nat) (y4 : Int32) (y5 : Int32) (m6 : Nat → Nat → Int32) (n7 : Nat → Nat → Int64) (r17 : Nat → Value), (0 ≤ y4.toInt) → (y4.toInt ≤ 48) → (0 ≤ y5.toInt) → (y5.toInt ≤ 8) → IV BB m6 → fr wN m m6 → rn r r17 → ((8 - y5.toInt) : Int).toNat < fuel10 → PV none g mX11_bound (sqIr T BB wN rn r m (-2147483648) 2147483647 (fun m' r' v => True)) 6 0 0 17 [.ref 0, .int x0, .int v2, .int y4, .int y5, pv_U] [] (mk T m6 n7 r17) := by
      intro fuel10
      induction fuel10 with
      | zero => intro y4 y5 m6 n7 r17 b13 b14 b15 b16 I8 K9 or17 z18; omega
      | succ fuel10 ih12 =>
        intro y4 y5 m6 n7 r17 b13 b14 b15 b16 I8 K9 or17 z18
        have hc2 := or17.1
        have R := RX_rn R0 or17
        have zR := R.2.2.2.2.1.1
        have zR2 := R.2.2.2.2.2.1
        refine pv_iload (M := mX11_bound) dX11_bound_17 19 rfl rfl ?_
        refine pv_bipush (M := mX11_bound) (v := 8) dX11_bound_19 21 rfl (by decide) ?_
        refine pv_icmp_ge (M := mX11_bound) (tgt := 91) dX11_bound_21 24 rfl (by decide) (fun c19 => ?_) (fun c19 => ?_)
        · have c19 := iv_le (X := 8) (Y := y5.toInt) c19 (by decide) rfl
          refine pv_iload_n (M := mX11_bound) 3 dX11_bound_91 92 rfl rfl rfl ?_
          exact pv_iret (M := mX11_bound) dX11_bound_92 rfl rfl ⟨_, _, _, _, rfl, rfl, I8, K9, or17, (iv_rng y4).1, (iv_rng y4).2, trivial⟩
        · have c19 := iv_nle (X := 8) (Y := y5.toInt) c19 (by decide) rfl
          refine pv_iload (M := mX11_bound) dX11_bound_24 26 rfl rfl ?_
          refine pv_iconst (M := mX11_bound) (v := 1) dX11_bound_26 27 rfl (by decide) ?_
          refine iv_iadd (M := mX11_bound) (X := y5.toInt) (Y := 1) dX11_bound_27 28 rfl rfl (by decide) (by omega) (by omega) (fun v20 ev20 => ?_)
          refine pv_istore (M := mX11_bound) (lo2 := [.ref 0, .int x0, .int v2, .int y4, .int y5, .int v20]) dX11_bound_28 30 rfl (by decide) rfl rfl ?_
          have lp28 : ∀ (fuel27 : Nat) (y21 : Int32) (y22 : Int32) (m23 : Nat → Nat → Int32) (n24 : Nat → Nat → Int64) (r34 : Nat → Value), (0 ≤ y21.toInt) → (y21.toInt ≤ 48) → (1 ≤ y22.toInt) → (y22.toInt ≤ 8) → IV BB m23 → fr wN m m23 → rn r r34 → ((8 - y22.toInt) : Int).toNat < fuel27 → PV none g mX11_bound (sqIr T BB wN rn r m (-2147483648) 2147483647 (fun m' r' v => True)) 6 0 0 30 [.ref 0, .int x0, .int v2, .int y21, .int y5, .int y22] [] (mk T m23 n24 r34) := by
            intro fuel27
            induction fuel27 with
            | zero => intro y21 y22 m23 n24 r34 b30 b31 b32 b33 I25 K26 or34 z35; omega
            | succ fuel27 ih29 =>
              intro y21 y22 m23 n24 r34 b30 b31 b32 b33 I25 K26 or34 z35
              have hc2 := or34.1
              have R := RX_rn R0 or34
              have zR := R.2.2.2.2.1.1
              have zR2 := R.2.2.2.2.2.1
              refine pv_iload (M := mX11_bound) dX11_bound_30 32 rfl rfl ?_
              refine pv_bipush (M := mX11_bound) (v := 8) dX11_bound_32 34 rfl (by decide) ?_
              refine pv_icmp_ge (M := mX11_bound) (tgt := 85) dX11_bound_34 37 rfl (by decide) (fun c36 => ?_) (fun c36 => ?_)
              · have c36 := iv_le (X := 8) (Y := y22.toInt) c36 (by decide) rfl
                refine iv_inc (M := mX11_bound) (C := 1) dX11_bound_85 88 rfl rfl (by decide) rfl rfl (by decide) (by omega) (by omega) (fun v37 ev37 => ?_)
                show PV _ _ _ _ _ _ _ 88 [.ref 0, .int x0, .int v2, .int y21, .int v37, .int y22] [] _
                refine pv_goto (M := mX11_bound) (tgt := 17) dX11_bound_88 (by decide) ?_
                refine pv_fg (lo2 := [.ref 0, .int x0, .int v2, .int y21, .int v37, pv_U]) ⟨Or.inr rfl, ⟨Or.inr rfl, ⟨Or.inr rfl, ⟨Or.inr rfl, ⟨Or.inr rfl, ⟨Or.inl rfl, trivial⟩⟩⟩⟩⟩⟩ ?_
                exact ih12 y21 v37 m23 n24 r34 (by first | omega | assumption | exact (iv_rng _).2 | exact (iv_rng _).1 | decide) (by first | omega | assumption | exact (iv_rng _).2 | exact (iv_rng _).1 | decide) (by first | omega | assumption | exact (iv_rng _).2 | exact (iv_rng _).1 | decide) (by first | omega | assumption | exact (iv_rng _).2 | exact (iv_rng _).1 | decide) I25 K26 or34 (by omega)
              · have c36 := iv_nle (X := 8) (Y := y22.toInt) c36 (by decide) rfl
                refine pv_iload_n (M := mX11_bound) 1 dX11_bound_37 38 rfl rfl rfl ?_
                refine pv_iload (M := mX11_bound) dX11_bound_38 40 rfl rfl ?_
                refine pv_calls (M := mX11_bound) (as := [.int x0, .int y5]) (st := []) (kc2 := 0) (ks2 := 0) dX11_bound_40 wd931 YX11_isAmong wd932 (s_X11_isAmong g hT I25 x0 y5) rfl rfl (Nat.le_of_ble_eq_true rfl) (by decide) rfl rfl 43 rfl (fun rv h1 q38 => ?_)
                obtain ⟨v39, rfl, rfl, pv39, qv39, rv39⟩ := q38
                replace rv39 : v39 = amv x0 y5 := rv39
                show PV _ _ _ _ _ _ _ 43 [.ref 0, .int x0, .int v2, .int y21, .int y5, .int y22] [.int v39] _
                refine pv_if_eq (M := mX11_bound) (tgt := 79) dX11_bound_43 46 rfl (by decide) (fun c40 => ?_) (fun c40 => ?_)
                · have c40 := iv_eq (X := v39.toInt) (Y := 0) c40 rfl (by decide)
                  refine iv_inc (M := mX11_bound) (C := 1) dX11_bound_79 82 rfl rfl (by decide) rfl rfl (by decide) (by omega) (by omega) (fun v41 ev41 => ?_)
                  show PV _ _ _ _ _ _ _ 82 [.ref 0, .int x0, .int v2, .int y21, .int y5, .int v41] [] _
                  refine pv_goto (M := mX11_bound) (tgt := 30) dX11_bound_82 (by decide) ?_
                  exact ih29 y21 v41 m23 n24 r34 (by first | omega | assumption | exact (iv_rng _).2 | exact (iv_rng _).1 | decide) (by first | omega | assumption | exact (iv_rng _).2 | exact (iv_rng _).1 | decide) (by first | omega | assumption | exact (iv_rng _).2 | exact (iv_rng _).1 | decide) (by first | omega | assumption | exact (iv_rng _).2 | exact (iv_rng _).1 | decide) I25 K26 or34 (by omega)
                · have c40 := iv_ne (X := v39.toInt) (Y := 0) c40 rfl (by decide)
                  refine pv_iload_n (M := mX11_bound) 1 dX11_bound_46 47 rfl rfl rfl ?_
                  refine pv_iload (M := mX11_bound) dX11_bound_47 49 rfl rfl ?_
                  refine pv_calls (M := mX11_bound) (as := [.int x0, .int y22]) (st := []) (kc2 := 0) (ks2 := 0) dX11_bound_49 wd931 YX11_isAmong wd932 (s_X11_isAmong g hT I25 x0 y22) rfl rfl (Nat.le_of_ble_eq_true rfl) (by decide) rfl rfl 52 rfl (fun rv h1 q42 => ?_)
                  obtain ⟨v43, rfl, rfl, pv43, qv43, rv43⟩ := q42
                  replace rv43 : v43 = amv x0 y22 := rv43
                  show PV _ _ _ _ _ _ _ 52 [.ref 0, .int x0, .int v2, .int y21, .int y5, .int y22] [.int v43] _
                  refine pv_if_eq (M := mX11_bound) (tgt := 79) dX11_bound_52 55 rfl (by decide) (fun c44 => ?_) (fun c44 => ?_)
                  · have c44 := iv_eq (X := v43.toInt) (Y := 0) c44 rfl (by decide)
                    refine iv_inc (M := mX11_bound) (C := 1) dX11_bound_79 82 rfl rfl (by decide) rfl rfl (by decide) (by omega) (by omega) (fun v45 ev45 => ?_)
                    show PV _ _ _ _ _ _ _ 82 [.ref 0, .int x0, .int v2, .int y21, .int y5, .int v45] [] _
                    refine pv_goto (M := mX11_bound) (tgt := 30) dX11_bound_82 (by decide) ?_
                    exact ih29 y21 v45 m23 n24 r34 (by first | omega | assumption | exact (iv_rng _).2 | exact (iv_rng _).1 | decide) (by first | omega | assumption | exact (iv_rng _).2 | exact (iv_rng _).1 | decide) (by first | omega | assumption | exact (iv_rng _).2 | exact (iv_rng _).1 | decide) (by first | omega | assumption | exact (iv_rng _).2 | exact (iv_rng _).1 | decide) I25 K26 or34 (by omega)
                  · have c44 := iv_ne (X := v43.toInt) (Y := 0) c44 rfl (by decide)
                    refine pv_iload_n (M := mX11_bound) 3 dX11_bound_55 56 rfl rfl rfl ?_
                    refine pv_aload_n (M := mX11_bound) 0 dX11_bound_56 57 rfl rfl rfl ?_
                    refine pv_iconst (M := mX11_bound) (v := 1) dX11_bound_57 58 rfl (by decide) ?_
                    refine pv_iload (M := mX11_bound) dX11_bound_58 60 rfl rfl ?_
                    refine iv_shlU (M := mX11_bound) dX11_bound_60 61 rfl (fun v46 ev46 => ?_)
                    have pv46 : 1 ≤ v46.toInt ∧ v46.toInt ≤ 128 := by rw [ev46]; exact iv_sh17 (by omega) (by omega)
                    refine pv_iconst (M := mX11_bound) (v := 1) dX11_bound_61 62 rfl (by decide) ?_
                    refine pv_iload (M := mX11_bound) dX11_bound_62 64 rfl rfl ?_
                    refine iv_shlU (M := mX11_bound) dX11_bound_64 65 rfl (fun v47 ev47 => ?_)
                    have pv47 : 1 ≤ v47.toInt ∧ v47.toInt ≤ 128 := by rw [ev47]; exact iv_sh17 (by omega) (by omega)
                    refine iv_orU (M := mX11_bound) dX11_bound_65 66 rfl (fun v48 ev48 => ?_)
                    have pv48 : 0 ≤ v48.toInt ∧ v48.toInt ≤ 255 := by rw [ev48]; exact iv_or8 (by omega) (by omega) (by omega) (by omega)
                    refine pv_callv (M := mX11_bound) (as := [.int v48]) (st := [.int y21]) (kc2 := 0) (ks2 := 0) dX11_bound_66 wd963 YX11_coverFor ⟨wd965, wd39⟩ (mk_get (tl0 hT)) rfl rfl (s_X11_coverFor g hT I25 R hC hc2 v48) rfl rfl (Nat.le_of_ble_eq_true rfl) (by decide) rfl rfl 69 rfl (fun rv h1 q49 => ?_)
                    obtain ⟨m50, n51, r54, rfl, rfl, I52, K53, qr54, rm50⟩ := q49
                    have or54 := rn.trans or34 qr54
                    have R := RX_rn R qr54
                    have zR := R.2.2.2.2.1.1
                    have zR2 := R.2.2.2.2.2.1
                    have hc2 : r54 2 = .ref 169 := or54.1
                    have K53c := K53
                    have K53 := K26.trans (K53.sub (by first | exact wg_l (by decide) | exact wg_g (by decide) | exact WX_wg | exact la7_wg zR (by decide) | exact wsL_wg zR (by decide)))
                    show PV _ _ _ _ _ _ _ 69 [.ref 0, .int x0, .int v2, .int y21, .int y5, .int y22] [.ref 169, .int y21] _
                    refine mv_get (M := mX11_bound) (v := .ref 170) dX11_bound_69 FX3 0 wd980 (by decide) (tc169 hC) rfl rfl 72 rfl ?_
                    refine iv_get (M := mX11_bound) (l1 := 0) (l2 := 48) dX11_bound_72 FX8 1 wd200 (by decide) (tc170 hC) rfl I52 rfl 75 rfl (fun v55 ev55 pv55 qv55 => ?_)
                    refine iv_max (M := mX11_bound) (X := y21.toInt) (Y := v55.toInt) dX11_bound_75 wd883 Wmmax (Nat.le_of_ble_eq_true rfl) (by decide) rfl rfl 78 rfl (fun v56 ev56 fv56 gv56 => ?_)
                    refine pv_istore_n (M := mX11_bound) 3 (lo2 := [.ref 0, .int x0, .int v2, .int v56, .int y5, .int y22]) dX11_bound_78 79 rfl rfl (by decide) rfl rfl ?_
                    refine iv_inc (M := mX11_bound) (C := 1) dX11_bound_79 82 rfl rfl (by decide) rfl rfl (by decide) (by omega) (by omega) (fun v57 ev57 => ?_)
                    show PV _ _ _ _ _ _ _ 82 [.ref 0, .int x0, .int v2, .int v56, .int y5, .int v57] [] _
                    refine pv_goto (M := mX11_bound) (tgt := 30) dX11_bound_82 (by decide) ?_
                    exact ih29 v56 v57 m50 n51 r54 (by first | omega | assumption | exact (iv_rng _).2 | exact (iv_rng _).1 | decide) (by first | omega | assumption | exact (iv_rng _).2 | exact (iv_rng _).1 | decide) (by first | omega | assumption | exact (iv_rng _).2 | exact (iv_rng _).1 | decide) (by first | omega | assumption | exact (iv_rng _).2 | exact (iv_rng _).1 | decide) I52 K53 or54 (by omega)
          exact lp28 (((8 - v20.toInt) : Int).toNat + 1) y4 v20 m6 n7 r17 (by first | omega | assumption | exact (iv_rng _).2 | exact (iv_rng _).1 | decide) (by first | omega | assumption | exact (iv_rng _).2 | exact (iv_rng _).1 | decide) (by first | omega | assumption | exact (iv_rng _).2 | exact (iv_rng _).1 | decide) (by first | omega | assumption | exact (iv_rng _).2 | exact (iv_rng _).1 | decide) I8 K9 or17 (by omega)
    have z58 : (0 : Int32).toInt = 0 := by decide
    have z59 : (0 : Int32).toInt = 0 := by decide
    exact lp11 (((8 - 0) : Int).toNat + 1) 0 0 m n r (by first | omega | assumption | exact (iv_rng _).2 | exact (iv_rng _).1 | decide) (by first | omega | assumption | exact (iv_rng _).2 | exact (iv_rng _).1 | decide) (by first | omega | assumption | exact (iv_rng _).2 | exact (iv_rng _).1 | decide) (by first | omega | assumption | exact (iv_rng _).2 | exact (iv_rng _).1 | decide) I Kp (rn.rf hc20) (by omega)
  · have c3 := iv_ne (X := v2.toInt) (Y := 0) c3 rfl (by decide)
    refine pv_iload_n (M := mX11_bound) 2 dX11_bound_10 11 rfl rfl rfl ?_
    exact pv_iret (M := mX11_bound) dX11_bound_11 rfl rfl ⟨_, _, _, _, rfl, rfl, I, Kp, (rn.rf hc20), (iv_rng v2).1, (iv_rng v2).2, trivial⟩

set_option maxHeartbeats 2000000 in
set_option maxRecDepth 20000 in
theorem s_X11_shortest_vr (g : pv_G) {T : List mv_T} {m : Nat → Nat → Int32} {n : Nat → Nat → Int64} {r : Nat → Value} {la lb : Nat} (hT : TX T) (I : IV BB m) (R : RX T r la lb) (x0 : Int32) (x1 : Int32) (hp0 : x1.toInt < -1 ∨ ¬ cOK m x0) : PM g mX11_shortest yX11_shortest (sqP (mk T m n r) (-2147483648) 2147483647 (fun v => True)) 5 0 0 [.ref 0, .int x0, .int x1] (mk T m n r) := by
  have Kp : fr (wl []) m m := fr.rf
  have R0 := R
  have zR := R.2.2.2.2.1.1
  have zR2 := R.2.2.2.2.2.1
  refine PM.of 2 (lo := [.ref 0, .int x0, .int x1, pv_U, pv_U]) rfl (by decide) rfl rfl (Nat.le_of_ble_eq_true rfl) ?_
  refine pv_iload_n (M := mX11_shortest) 2 dX11_shortest_0 1 rfl rfl rfl ?_
  refine pv_iconst (M := mX11_shortest) (v := (-1)) dX11_shortest_1 2 rfl (by decide) ?_
  refine pv_icmp_ge (M := mX11_shortest) (tgt := 7) dX11_shortest_2 5 rfl (by decide) (fun c1 => ?_) (fun c1 => ?_)
  · have c1 := iv_le (X := (-1)) (Y := x1.toInt) c1 (by decide) rfl
    refine pv_aload_n (M := mX11_shortest) 0 dX11_shortest_7 8 rfl rfl rfl ?_
    refine pv_iload_n (M := mX11_shortest) 1 dX11_shortest_8 9 rfl rfl rfl ?_
    refine pv_callv (M := mX11_shortest) (as := [.int x0]) (st := []) (kc2 := 0) (ks2 := 0) dX11_shortest_9 wd959 YX11_refuseCover ⟨wd961, wd38⟩ (mk_get (tl0 hT)) rfl rfl (s_X11_refuseCover g hT I R x0) rfl rfl (Nat.le_of_ble_eq_true rfl) (by decide) rfl rfl 12 rfl (fun rv h1 q2 => ?_)
    obtain ⟨v3, rfl, rfl, pv3, qv3, rv3⟩ := q2
    replace rv3 : RFZ m x0 v3 := rv3
    show PV _ _ _ _ _ _ _ 12 [.ref 0, .int x0, .int x1, pv_U, pv_U] [.int v3] _
    have kr : RFZ m x0 v3 := rv3
    refine pv_istore_n (M := mX11_shortest) 3 (lo2 := [.ref 0, .int x0, .int x1, .int v3, pv_U]) dX11_shortest_12 13 rfl rfl (by decide) rfl rfl ?_
    refine pv_iload_n (M := mX11_shortest) 3 dX11_shortest_13 14 rfl rfl rfl ?_
    refine pv_if_eq (M := mX11_shortest) (tgt := 19) dX11_shortest_14 17 rfl (by decide) (fun c5 => ?_) (fun c5 => ?_)
    · have c5 := iv_eq (X := v3.toInt) (Y := 0) c5 rfl (by decide)
      exact absurd (Iff.mp kr (by omega)) (hp0.resolve_left (by omega))
    · have c5 := iv_ne (X := v3.toInt) (Y := 0) c5 rfl (by decide)
      refine pv_iload_n (M := mX11_shortest) 3 dX11_shortest_17 18 rfl rfl rfl ?_
      exact pv_iret (M := mX11_shortest) dX11_shortest_18 rfl rfl ⟨_, rfl, rfl, (iv_rng v3).1, (iv_rng v3).2, trivial⟩
  · have c1 := iv_nle (X := (-1)) (Y := x1.toInt) c1 (by decide) rfl
    refine pv_iconst (M := mX11_shortest) (v := (-1)) dX11_shortest_5 6 rfl (by decide) ?_
    exact pv_iret (M := mX11_shortest) dX11_shortest_6 rfl rfl ⟨_, rfl, rfl, by decide, by decide, trivial⟩

set_option maxHeartbeats 2000000 in
set_option maxRecDepth 20000 in
theorem s_X11_shortestMany_vr (g : pv_G) {T : List mv_T} {m : Nat → Nat → Int32} {n : Nat → Nat → Int64} {r : Nat → Value} {la lb : Nat} (hT : TX T) (I : IV BB m) (R : RX T r la lb) (x0 : Int32) (hp0 : ¬ cOK m x0) : PM g mX11_shortestMany yX11_shortestMany (sqPJ (mk T m n r)) 5 0 0 [.ref 0, .int x0] (mk T m n r) := by
  have Kp : fr (wl []) m m := fr.rf
  have R0 := R
  have zR := R.2.2.2.2.1.1
  have zR2 := R.2.2.2.2.2.1
  refine PM.of 1 (lo := [.ref 0, .int x0, pv_U]) rfl (by decide) rfl rfl (Nat.le_of_ble_eq_true rfl) ?_
  refine pv_aload_n (M := mX11_shortestMany) 0 dX11_shortestMany_0 1 rfl rfl rfl ?_
  refine pv_iload_n (M := mX11_shortestMany) 1 dX11_shortestMany_1 2 rfl rfl rfl ?_
  refine pv_callv (M := mX11_shortestMany) (as := [.int x0]) (st := []) (kc2 := 0) (ks2 := 0) dX11_shortestMany_2 wd959 YX11_refuseCover ⟨wd961, wd38⟩ (mk_get (tl0 hT)) rfl rfl (s_X11_refuseCover g hT I R x0) rfl rfl (Nat.le_of_ble_eq_true rfl) (by decide) rfl rfl 5 rfl (fun rv h1 q1 => ?_)
  obtain ⟨v2, rfl, rfl, pv2, qv2, rv2⟩ := q1
  replace rv2 : RFZ m x0 v2 := rv2
  show PV _ _ _ _ _ _ _ 5 [.ref 0, .int x0, pv_U] [.int v2] _
  have kr : RFZ m x0 v2 := rv2
  refine pv_istore_n (M := mX11_shortestMany) 2 (lo2 := [.ref 0, .int x0, .int v2]) dX11_shortestMany_5 6 rfl rfl (by decide) rfl rfl ?_
  refine pv_iload_n (M := mX11_shortestMany) 2 dX11_shortestMany_6 7 rfl rfl rfl ?_
  refine pv_if_eq (M := mX11_shortestMany) (tgt := 13) dX11_shortestMany_7 10 rfl (by decide) (fun c4 => ?_) (fun c4 => ?_)
  · have c4 := iv_eq (X := v2.toInt) (Y := 0) c4 rfl (by decide)
    exact absurd (Iff.mp kr (by omega)) hp0
  · have c4 := iv_ne (X := v2.toInt) (Y := 0) c4 rfl (by decide)
    refine pv_iload_n (M := mX11_shortestMany) 2 dX11_shortestMany_10 11 rfl rfl rfl ?_
    refine iv_i2l (M := mX11_shortestMany) dX11_shortestMany_11 12 rfl (fun v6 ev6 => ?_)
    exact pv_lret (M := mX11_shortestMany) dX11_shortestMany_12 rfl ⟨_, rfl, rfl⟩

set_option maxHeartbeats 2000000 in
set_option maxRecDepth 20000 in
theorem s_X11_bound_vr (g : pv_G) {T : List mv_T} {m : Nat → Nat → Int32} {n : Nat → Nat → Int64} {r : Nat → Value} {la lb : Nat} (hT : TX T) (I : IV BB m) (R : RX T r la lb) (x0 : Int32) (hp0 : cOK m x0 → (∀ i j : Nat, i < j → j < 8 → (amv x0 (Int32.ofInt i)).toInt = 0 ∨ (amv x0 (Int32.ofInt j)).toInt = 0)) : PM g mX11_bound yX11_bound (sqP (mk T m n r) (-2147483648) 2147483647 (fun v => True)) 5 0 0 [.ref 0, .int x0] (mk T m n r) := by
  have Kp : fr (wl []) m m := fr.rf
  have R0 := R
  have zR := R.2.2.2.2.1.1
  have zR2 := R.2.2.2.2.2.1
  refine PM.of 4 (lo := [.ref 0, .int x0, pv_U, pv_U, pv_U, pv_U]) rfl (by decide) rfl rfl (Nat.le_of_ble_eq_true rfl) ?_
  refine pv_aload_n (M := mX11_bound) 0 dX11_bound_0 1 rfl rfl rfl ?_
  refine pv_iload_n (M := mX11_bound) 1 dX11_bound_1 2 rfl rfl rfl ?_
  refine pv_callv (M := mX11_bound) (as := [.int x0]) (st := []) (kc2 := 0) (ks2 := 0) dX11_bound_2 wd959 YX11_refuseCover ⟨wd961, wd38⟩ (mk_get (tl0 hT)) rfl rfl (s_X11_refuseCover g hT I R x0) rfl rfl (Nat.le_of_ble_eq_true rfl) (by decide) rfl rfl 5 rfl (fun rv h1 q1 => ?_)
  obtain ⟨v2, rfl, rfl, pv2, qv2, rv2⟩ := q1
  replace rv2 : RFZ m x0 v2 := rv2
  show PV _ _ _ _ _ _ _ 5 [.ref 0, .int x0, pv_U, pv_U, pv_U, pv_U] [.int v2] _
  have kr : RFZ m x0 v2 := rv2
  refine pv_istore_n (M := mX11_bound) 2 (lo2 := [.ref 0, .int x0, .int v2, pv_U, pv_U, pv_U]) dX11_bound_5 6 rfl rfl (by decide) rfl rfl ?_
  refine pv_iload_n (M := mX11_bound) 2 dX11_bound_6 7 rfl rfl rfl ?_
  refine pv_if_eq (M := mX11_bound) (tgt := 12) dX11_bound_7 10 rfl (by decide) (fun c4 => ?_) (fun c4 => ?_)
  · have c4 := iv_eq (X := v2.toInt) (Y := 0) c4 rfl (by decide)
    refine pv_iconst (M := mX11_bound) (v := 0) dX11_bound_12 13 rfl (by decide) ?_
    refine pv_istore_n (M := mX11_bound) 3 (lo2 := [.ref 0, .int x0, .int v2, .int 0, pv_U, pv_U]) dX11_bound_13 14 rfl rfl (by decide) rfl rfl ?_
    refine pv_iconst (M := mX11_bound) (v := 0) dX11_bound_14 15 rfl (by decide) ?_
    refine pv_istore (M := mX11_bound) (lo2 := [.ref 0, .int x0, .int v2, .int 0, .int 0, pv_U]) dX11_bound_15 17 rfl (by decide) rfl rfl ?_
    have lp12 : ∀ (fuel11 : Nat) (y5 : Int32) (y6 : Int32), (0 ≤ y5.toInt) → (y5.toInt ≤ 0) → (0 ≤ y6.toInt) → (y6.toInt ≤ 8) → ((8 - y6.toInt) : Int).toNat < fuel11 → PV none g mX11_bound (sqP (mk T m n r) (-2147483648) 2147483647 (fun v => True)) 5 0 0 17 [.ref 0, .int x0, .int v2, .int y5, .int y6, pv_U] [] (mk T m n r) := by
      intro fuel11
      induction fuel11 with
      | zero => intro y5 y6 b14 b15 b16 b17 z18; omega
      | succ fuel11 ih13 =>
        intro y5 y6 b14 b15 b16 b17 z18
        refine pv_iload (M := mX11_bound) dX11_bound_17 19 rfl rfl ?_
        refine pv_bipush (M := mX11_bound) (v := 8) dX11_bound_19 21 rfl (by decide) ?_
        refine pv_icmp_ge (M := mX11_bound) (tgt := 91) dX11_bound_21 24 rfl (by decide) (fun c19 => ?_) (fun c19 => ?_)
        · have c19 := iv_le (X := 8) (Y := y6.toInt) c19 (by decide) rfl
          refine pv_iload_n (M := mX11_bound) 3 dX11_bound_91 92 rfl rfl rfl ?_
          exact pv_iret (M := mX11_bound) dX11_bound_92 rfl rfl ⟨_, rfl, rfl, (iv_rng y5).1, (iv_rng y5).2, trivial⟩
        · have c19 := iv_nle (X := 8) (Y := y6.toInt) c19 (by decide) rfl
          refine pv_iload (M := mX11_bound) dX11_bound_24 26 rfl rfl ?_
          refine pv_iconst (M := mX11_bound) (v := 1) dX11_bound_26 27 rfl (by decide) ?_
          refine iv_iadd (M := mX11_bound) (X := y6.toInt) (Y := 1) dX11_bound_27 28 rfl rfl (by decide) (by omega) (by omega) (fun v20 ev20 => ?_)
          refine pv_istore (M := mX11_bound) (lo2 := [.ref 0, .int x0, .int v2, .int y5, .int y6, .int v20]) dX11_bound_28 30 rfl (by decide) rfl rfl ?_
          have lp28 : ∀ (fuel27 : Nat) (y21 : Int32) (y22 : Int32), (0 ≤ y21.toInt) → (y21.toInt ≤ 0) → (1 ≤ y22.toInt) → (y22.toInt ≤ 8) → (y6.toInt < y22.toInt) → ((8 - y22.toInt) : Int).toNat < fuel27 → PV none g mX11_bound (sqP (mk T m n r) (-2147483648) 2147483647 (fun v => True)) 5 0 0 30 [.ref 0, .int x0, .int v2, .int y21, .int y6, .int y22] [] (mk T m n r) := by
            intro fuel27
            induction fuel27 with
            | zero => intro y21 y22 b30 b31 b32 b33 b34 z35; omega
            | succ fuel27 ih29 =>
              intro y21 y22 b30 b31 b32 b33 b34 z35
              refine pv_iload (M := mX11_bound) dX11_bound_30 32 rfl rfl ?_
              refine pv_bipush (M := mX11_bound) (v := 8) dX11_bound_32 34 rfl (by decide) ?_
              refine pv_icmp_ge (M := mX11_bound) (tgt := 85) dX11_bound_34 37 rfl (by decide) (fun c36 => ?_) (fun c36 => ?_)
              · have c36 := iv_le (X := 8) (Y := y22.toInt) c36 (by decide) rfl
                refine iv_inc (M := mX11_bound) (C := 1) dX11_bound_85 88 rfl rfl (by decide) rfl rfl (by decide) (by omega) (by omega) (fun v37 ev37 => ?_)
                show PV _ _ _ _ _ _ _ 88 [.ref 0, .int x0, .int v2, .int y21, .int v37, .int y22] [] _
                refine pv_goto (M := mX11_bound) (tgt := 17) dX11_bound_88 (by decide) ?_
                refine pv_fg (lo2 := [.ref 0, .int x0, .int v2, .int y21, .int v37, pv_U]) ⟨Or.inr rfl, ⟨Or.inr rfl, ⟨Or.inr rfl, ⟨Or.inr rfl, ⟨Or.inr rfl, ⟨Or.inl rfl, trivial⟩⟩⟩⟩⟩⟩ ?_
                exact ih13 y21 v37 (by first | omega | assumption | exact (iv_rng _).2 | exact (iv_rng _).1 | decide) (by first | omega | assumption | exact (iv_rng _).2 | exact (iv_rng _).1 | decide) (by first | omega | assumption | exact (iv_rng _).2 | exact (iv_rng _).1 | decide) (by first | omega | assumption | exact (iv_rng _).2 | exact (iv_rng _).1 | decide) (by omega)
              · have c36 := iv_nle (X := 8) (Y := y22.toInt) c36 (by decide) rfl
                refine pv_iload_n (M := mX11_bound) 1 dX11_bound_37 38 rfl rfl rfl ?_
                refine pv_iload (M := mX11_bound) dX11_bound_38 40 rfl rfl ?_
                refine pv_calls (M := mX11_bound) (as := [.int x0, .int y6]) (st := []) (kc2 := 0) (ks2 := 0) dX11_bound_40 wd931 YX11_isAmong wd932 (s_X11_isAmong g hT I x0 y6) rfl rfl (Nat.le_of_ble_eq_true rfl) (by decide) rfl rfl 43 rfl (fun rv h1 q38 => ?_)
                obtain ⟨v39, rfl, rfl, pv39, qv39, rv39⟩ := q38
                replace rv39 : v39 = amv x0 y6 := rv39
                show PV _ _ _ _ _ _ _ 43 [.ref 0, .int x0, .int v2, .int y21, .int y6, .int y22] [.int v39] _
                have k43 : (amv x0 (Int32.ofInt (y6.toInt.toNat : Nat))).toInt = v39.toInt := by rw [ofn (by omega), rv39]
                refine pv_if_eq (M := mX11_bound) (tgt := 79) dX11_bound_43 46 rfl (by decide) (fun c41 => ?_) (fun c41 => ?_)
                · have c41 := iv_eq (X := v39.toInt) (Y := 0) c41 rfl (by decide)
                  refine iv_inc (M := mX11_bound) (C := 1) dX11_bound_79 82 rfl rfl (by decide) rfl rfl (by decide) (by omega) (by omega) (fun v42 ev42 => ?_)
                  show PV _ _ _ _ _ _ _ 82 [.ref 0, .int x0, .int v2, .int y21, .int y6, .int v42] [] _
                  refine pv_goto (M := mX11_bound) (tgt := 30) dX11_bound_82 (by decide) ?_
                  exact ih29 y21 v42 (by first | omega | assumption | exact (iv_rng _).2 | exact (iv_rng _).1 | decide) (by first | omega | assumption | exact (iv_rng _).2 | exact (iv_rng _).1 | decide) (by first | omega | assumption | exact (iv_rng _).2 | exact (iv_rng _).1 | decide) (by first | omega | assumption | exact (iv_rng _).2 | exact (iv_rng _).1 | decide) (by first | omega | assumption | (show y6.toInt < v42.toInt; omega) | decide) (by omega)
                · have c41 := iv_ne (X := v39.toInt) (Y := 0) c41 rfl (by decide)
                  refine pv_iload_n (M := mX11_bound) 1 dX11_bound_46 47 rfl rfl rfl ?_
                  refine pv_iload (M := mX11_bound) dX11_bound_47 49 rfl rfl ?_
                  refine pv_calls (M := mX11_bound) (as := [.int x0, .int y22]) (st := []) (kc2 := 0) (ks2 := 0) dX11_bound_49 wd931 YX11_isAmong wd932 (s_X11_isAmong g hT I x0 y22) rfl rfl (Nat.le_of_ble_eq_true rfl) (by decide) rfl rfl 52 rfl (fun rv h1 q43 => ?_)
                  obtain ⟨v44, rfl, rfl, pv44, qv44, rv44⟩ := q43
                  replace rv44 : v44 = amv x0 y22 := rv44
                  show PV _ _ _ _ _ _ _ 52 [.ref 0, .int x0, .int v2, .int y21, .int y6, .int y22] [.int v44] _
                  have k52 : (amv x0 (Int32.ofInt (y22.toInt.toNat : Nat))).toInt = v44.toInt := by rw [ofn (by omega), rv44]
                  refine pv_if_eq (M := mX11_bound) (tgt := 79) dX11_bound_52 55 rfl (by decide) (fun c46 => ?_) (fun c46 => ?_)
                  · have c46 := iv_eq (X := v44.toInt) (Y := 0) c46 rfl (by decide)
                    refine iv_inc (M := mX11_bound) (C := 1) dX11_bound_79 82 rfl rfl (by decide) rfl rfl (by decide) (by omega) (by omega) (fun v47 ev47 => ?_)
                    show PV _ _ _ _ _ _ _ 82 [.ref 0, .int x0, .int v2, .int y21, .int y6, .int v47] [] _
                    refine pv_goto (M := mX11_bound) (tgt := 30) dX11_bound_82 (by decide) ?_
                    exact ih29 y21 v47 (by first | omega | assumption | exact (iv_rng _).2 | exact (iv_rng _).1 | decide) (by first | omega | assumption | exact (iv_rng _).2 | exact (iv_rng _).1 | decide) (by first | omega | assumption | exact (iv_rng _).2 | exact (iv_rng _).1 | decide) (by first | omega | assumption | exact (iv_rng _).2 | exact (iv_rng _).1 | decide) (by first | omega | assumption | (show y6.toInt < v47.toInt; omega) | decide) (by omega)
                  · have c46 := iv_ne (X := v44.toInt) (Y := 0) c46 rfl (by decide)
                    exact absurd (hp0 (Iff.mp kr (by omega)) y6.toInt.toNat y22.toInt.toNat (by omega) (by omega)) (by omega)
          exact lp28 (((8 - v20.toInt) : Int).toNat + 1) y5 v20 (by first | omega | assumption | exact (iv_rng _).2 | exact (iv_rng _).1 | decide) (by first | omega | assumption | exact (iv_rng _).2 | exact (iv_rng _).1 | decide) (by first | omega | assumption | exact (iv_rng _).2 | exact (iv_rng _).1 | decide) (by first | omega | assumption | exact (iv_rng _).2 | exact (iv_rng _).1 | decide) (by first | omega | assumption | (show y6.toInt < v20.toInt; omega) | decide) (by omega)
    have z49 : (0 : Int32).toInt = 0 := by decide
    have z50 : (0 : Int32).toInt = 0 := by decide
    exact lp12 (((8 - 0) : Int).toNat + 1) 0 0 (by first | omega | assumption | exact (iv_rng _).2 | exact (iv_rng _).1 | decide) (by first | omega | assumption | exact (iv_rng _).2 | exact (iv_rng _).1 | decide) (by first | omega | assumption | exact (iv_rng _).2 | exact (iv_rng _).1 | decide) (by first | omega | assumption | exact (iv_rng _).2 | exact (iv_rng _).1 | decide) (by omega)
  · have c4 := iv_ne (X := v2.toInt) (Y := 0) c4 rfl (by decide)
    refine pv_iload_n (M := mX11_bound) 2 dX11_bound_10 11 rfl rfl rfl ?_
    exact pv_iret (M := mX11_bound) dX11_bound_11 rfl rfl ⟨_, rfl, rfl, (iv_rng v2).1, (iv_rng v2).2, trivial⟩

set_option maxHeartbeats 2000000 in
set_option maxRecDepth 20000 in
theorem s_X11_shortest_vn (g : pv_G) {T : List mv_T} {m : Nat → Nat → Int32} {n : Nat → Nat → Int64} {r : Nat → Value} {la lb : Nat} (hT : TX T) (I : IV BB m) (R : RX T r la lb) (hTL : T = TL) (hc0 : r 2 = .null) (x0 : Int32) (x1 : Int32) (hp0 : -1 ≤ x1.toInt) (hp1 : cOK m x0) : PM g mX11_shortest yX11_shortest (sqIr TL2 BB wN rn r m (-2147483648) 2147483647 (fun m' r' v => True)) 6 11 57200 [.ref 0, .int x0, .int x1] (mk T m n r) := by
  have Kp : fr wN m m := fr.rf
  have R0 := R
  have zR := R.2.2.2.2.1.1
  have zR2 := R.2.2.2.2.2.1
  refine PM.of 2 (lo := [.ref 0, .int x0, .int x1, pv_U, pv_U]) rfl (by decide) rfl rfl (Nat.le_of_ble_eq_true rfl) ?_
  refine pv_iload_n (M := mX11_shortest) 2 dX11_shortest_0 1 rfl rfl rfl ?_
  refine pv_iconst (M := mX11_shortest) (v := (-1)) dX11_shortest_1 2 rfl (by decide) ?_
  refine pv_icmp_ge (M := mX11_shortest) (tgt := 7) dX11_shortest_2 5 rfl (by decide) (fun c1 => ?_) (fun c1 => ?_)
  · have c1 := iv_le (X := (-1)) (Y := x1.toInt) c1 (by decide) rfl
    refine pv_aload_n (M := mX11_shortest) 0 dX11_shortest_7 8 rfl rfl rfl ?_
    refine pv_iload_n (M := mX11_shortest) 1 dX11_shortest_8 9 rfl rfl rfl ?_
    refine pv_callv (M := mX11_shortest) (as := [.int x0]) (st := []) (kc2 := 11) (ks2 := 57200) dX11_shortest_9 wd959 YX11_refuseCover ⟨wd961, wd38⟩ (mk_get (tl0 hT)) rfl rfl (s_X11_refuseCover g hT I R x0) rfl rfl (Nat.le_of_ble_eq_true rfl) (by decide) rfl rfl 12 rfl (fun rv h1 q2 => ?_)
    obtain ⟨v3, rfl, rfl, pv3, qv3, rv3⟩ := q2
    replace rv3 : RFZ m x0 v3 := rv3
    show PV _ _ _ _ _ _ _ 12 [.ref 0, .int x0, .int x1, pv_U, pv_U] [.int v3] _
    have kr : RFZ m x0 v3 := rv3
    refine pv_istore_n (M := mX11_shortest) 3 (lo2 := [.ref 0, .int x0, .int x1, .int v3, pv_U]) dX11_shortest_12 13 rfl rfl (by decide) rfl rfl ?_
    refine pv_iload_n (M := mX11_shortest) 3 dX11_shortest_13 14 rfl rfl rfl ?_
    refine pv_if_eq (M := mX11_shortest) (tgt := 19) dX11_shortest_14 17 rfl (by decide) (fun c5 => ?_) (fun c5 => ?_)
    · have c5 := iv_eq (X := v3.toInt) (Y := 0) c5 rfl (by decide)
      refine pv_aload_n (M := mX11_shortest) 0 dX11_shortest_19 20 rfl rfl rfl ?_
      refine pv_iload_n (M := mX11_shortest) 1 dX11_shortest_20 21 rfl rfl rfl ?_
      refine pv_callv (M := mX11_shortest) (as := [.int x0]) (st := []) (kc2 := 0) (ks2 := 0) dX11_shortest_21 wd963 YX11_coverFor ⟨wd965, wd39⟩ (mk_get (tl0 hT)) rfl rfl (k_coverFor_n g hTL I R hc0 x0) rfl rfl (Nat.le_of_ble_eq_true rfl) (by decide) rfl rfl 24 rfl (fun rv h1 q6 => ?_)
      generalize hG : TL2 = T2 at q6 ⊢
      obtain ⟨m7, n8, r11, rfl, rfl, I9, K10, or11, _⟩ := q6
      have hC : TC T2 := hG.symm
      have hT : TX T2 := TC_TX hC
      have hc2 := or11.1
      have R := RX_rnT R or11
      rw [hG] at R
      have zR := R.2.2.2.2.1.1
      have zR2 := R.2.2.2.2.2.1
      have K10 := Kp.trans (K10.sub WX_wN)
      show PV _ _ _ _ _ _ _ 24 [.ref 0, .int x0, .int x1, .int v3, pv_U] [.ref 169] _
      refine mv_get (M := mX11_shortest) (v := .ref 170) dX11_shortest_24 FX3 0 wd980 (by decide) (tc169 hC) rfl rfl 27 rfl ?_
      refine pv_astore (M := mX11_shortest) (lo2 := [.ref 0, .int x0, .int x1, .int v3, .ref 170]) dX11_shortest_27 29 rfl (by decide) rfl rfl ?_
      refine pv_iload_n (M := mX11_shortest) 2 dX11_shortest_29 30 rfl rfl rfl ?_
      refine pv_iconst (M := mX11_shortest) (v := (-1)) dX11_shortest_30 31 rfl (by decide) ?_
      refine pv_icmp_ne (M := mX11_shortest) (tgt := 42) dX11_shortest_31 34 rfl (by decide) (fun c12 => ?_) (fun c12 => ?_)
      · have c12 := iv_ne (X := x1.toInt) (Y := (-1)) c12 rfl (by decide)
        refine pv_aload (M := mX11_shortest) dX11_shortest_42 44 rfl rfl ?_
        refine pv_iload_n (M := mX11_shortest) 2 dX11_shortest_44 45 rfl rfl rfl ?_
        refine pv_callv (M := mX11_shortest) (as := [.int x1]) (st := []) (kc2 := 0) (ks2 := 0) dX11_shortest_45 wd704 YX8_at ⟨wd705, wd706⟩ (mk_get (tc170 hC)) rfl rfl (s_X8_at g hT I9 170 48 (row170 hC) x1) rfl rfl (Nat.le_of_ble_eq_true rfl) (by decide) rfl rfl 48 rfl (fun rv h1 q13 => ?_)
        obtain ⟨v14, rfl, rfl, pv14, qv14, rv14⟩ := q13
        replace rv14 : v14.toInt = atv m7 170 x1.toInt := rv14
        show PV _ _ _ _ _ _ _ 48 [.ref 0, .int x0, .int x1, .int v3, .ref 170] [.int v14] _
        exact pv_iret (M := mX11_shortest) dX11_shortest_48 rfl rfl ⟨_, _, _, _, rfl, rfl, I9, K10, or11, (iv_rng v14).1, (iv_rng v14).2, trivial⟩
      · have c12 := iv_eq (X := x1.toInt) (Y := (-1)) c12 rfl (by decide)
        refine pv_aload (M := mX11_shortest) dX11_shortest_34 36 rfl rfl ?_
        refine iv_get (M := mX11_shortest) (l1 := 0) (l2 := 48) dX11_shortest_36 FX8 1 wd200 (by decide) (tc170 hC) rfl I9 rfl 39 rfl (fun v15 ev15 pv15 qv15 => ?_)
        refine pv_goto (M := mX11_shortest) (tgt := 48) dX11_shortest_39 (by decide) ?_
        exact pv_iret (M := mX11_shortest) dX11_shortest_48 rfl rfl ⟨_, _, _, _, rfl, rfl, I9, K10, or11, (iv_rng v15).1, (iv_rng v15).2, trivial⟩
    · have c5 := iv_ne (X := v3.toInt) (Y := 0) c5 rfl (by decide)
      exact absurd (Iff.mpr kr hp1) (by omega)
  · have c1 := iv_nle (X := (-1)) (Y := x1.toInt) c1 (by decide) rfl
    omega

set_option maxHeartbeats 2000000 in
set_option maxRecDepth 20000 in
theorem s_X11_shortestMany_vn (g : pv_G) {T : List mv_T} {m : Nat → Nat → Int32} {n : Nat → Nat → Int64} {r : Nat → Value} {la lb : Nat} (hT : TX T) (I : IV BB m) (R : RX T r la lb) (hTL : T = TL) (hc0 : r 2 = .null) (x0 : Int32) (hp0 : cOK m x0) : PM g mX11_shortestMany yX11_shortestMany (sqJr TL2 BB wN rn r m (fun m' r' => True)) 6 11 57200 [.ref 0, .int x0] (mk T m n r) := by
  have Kp : fr wN m m := fr.rf
  have R0 := R
  have zR := R.2.2.2.2.1.1
  have zR2 := R.2.2.2.2.2.1
  refine PM.of 1 (lo := [.ref 0, .int x0, pv_U]) rfl (by decide) rfl rfl (Nat.le_of_ble_eq_true rfl) ?_
  refine pv_aload_n (M := mX11_shortestMany) 0 dX11_shortestMany_0 1 rfl rfl rfl ?_
  refine pv_iload_n (M := mX11_shortestMany) 1 dX11_shortestMany_1 2 rfl rfl rfl ?_
  refine pv_callv (M := mX11_shortestMany) (as := [.int x0]) (st := []) (kc2 := 11) (ks2 := 57200) dX11_shortestMany_2 wd959 YX11_refuseCover ⟨wd961, wd38⟩ (mk_get (tl0 hT)) rfl rfl (s_X11_refuseCover g hT I R x0) rfl rfl (Nat.le_of_ble_eq_true rfl) (by decide) rfl rfl 5 rfl (fun rv h1 q1 => ?_)
  obtain ⟨v2, rfl, rfl, pv2, qv2, rv2⟩ := q1
  replace rv2 : RFZ m x0 v2 := rv2
  show PV _ _ _ _ _ _ _ 5 [.ref 0, .int x0, pv_U] [.int v2] _
  have kr : RFZ m x0 v2 := rv2
  refine pv_istore_n (M := mX11_shortestMany) 2 (lo2 := [.ref 0, .int x0, .int v2]) dX11_shortestMany_5 6 rfl rfl (by decide) rfl rfl ?_
  refine pv_iload_n (M := mX11_shortestMany) 2 dX11_shortestMany_6 7 rfl rfl rfl ?_
  refine pv_if_eq (M := mX11_shortestMany) (tgt := 13) dX11_shortestMany_7 10 rfl (by decide) (fun c4 => ?_) (fun c4 => ?_)
  · have c4 := iv_eq (X := v2.toInt) (Y := 0) c4 rfl (by decide)
    refine pv_aload_n (M := mX11_shortestMany) 0 dX11_shortestMany_13 14 rfl rfl rfl ?_
    refine pv_iload_n (M := mX11_shortestMany) 1 dX11_shortestMany_14 15 rfl rfl rfl ?_
    refine pv_callv (M := mX11_shortestMany) (as := [.int x0]) (st := []) (kc2 := 0) (ks2 := 0) dX11_shortestMany_15 wd963 YX11_coverFor ⟨wd965, wd39⟩ (mk_get (tl0 hT)) rfl rfl (k_coverFor_n g hTL I R hc0 x0) rfl rfl (Nat.le_of_ble_eq_true rfl) (by decide) rfl rfl 18 rfl (fun rv h1 q5 => ?_)
    generalize hG : TL2 = T2 at q5 ⊢
    obtain ⟨m6, n7, r10, rfl, rfl, I8, K9, or10, _⟩ := q5
    have hC : TC T2 := hG.symm
    have hT : TX T2 := TC_TX hC
    have hc2 := or10.1
    have R := RX_rnT R or10
    rw [hG] at R
    have zR := R.2.2.2.2.1.1
    have zR2 := R.2.2.2.2.2.1
    have K9 := Kp.trans (K9.sub WX_wN)
    show PV _ _ _ _ _ _ _ 18 [.ref 0, .int x0, .int v2] [.ref 169] _
    refine pv_callv (M := mX11_shortestMany) (as := []) (st := []) (kc2 := 0) (ks2 := 0) dX11_shortestMany_18 wd1048 YX3_howMany ⟨wd1049, wd1050⟩ (mk_get (tc169 hC)) rfl rfl (s_X3_howMany g hT I8 hC) rfl rfl (Nat.le_of_ble_eq_true rfl) (by decide) rfl rfl 21 rfl (fun rv h1 q11 => ?_)
    obtain ⟨v12, rfl, rfl⟩ := q11
    show PV _ _ _ _ _ _ _ 21 [.ref 0, .int x0, .int v2] [.long v12] _
    exact pv_lret (M := mX11_shortestMany) dX11_shortestMany_21 rfl ⟨_, _, _, _, rfl, rfl, I8, K9, or10, trivial⟩
  · have c4 := iv_ne (X := v2.toInt) (Y := 0) c4 rfl (by decide)
    exact absurd (Iff.mpr kr hp0) (by omega)

set_option maxHeartbeats 2000000 in
set_option maxRecDepth 20000 in
theorem s_X11_bound_vs17 (g : pv_G) {T : List mv_T} {m : Nat → Nat → Int32} {n : Nat → Nat → Int64} {r : Nat → Value} {m0 : Nat → Nat → Int32} {r0 : Nat → Value} {la lb : Nat} (hT : TX T) (I : IV BB m) (Kp : fr wN m0 m) (or : rn r0 r) (R : RX T r la lb) (hC : TC T) (hc2 : r 2 = .ref 169) (x0 : Int32) (y3 : Int32) (y4 : Int32) (hy4 : 0 ≤ y4.toInt) (hz4 : y4.toInt ≤ 8) : PV none g mX11_bound (sqIr T BB wN rn r0 m0 (-2147483648) 2147483647 (fun m' r' v => True)) 6 0 0 17 [.ref 0, .int x0, pv_U, .int y3, .int y4, pv_U] [] (mk T m n r) := by
  have R0 := R
  have zR := R.2.2.2.2.1.1
  have zR2 := R.2.2.2.2.2.1
  have hc20 := hc2
  have lp8 : ∀ (fuel7 : Nat) (y1 : Int32) (y2 : Int32) (m3 : Nat → Nat → Int32) (n4 : Nat → Nat → Int64) (r12 : Nat → Value), (0 ≤ y2.toInt) → (y2.toInt ≤ 8) → IV BB m3 → fr wN m0 m3 → rn r0 r12 → ((8 - y2.toInt) : Int).toNat < fuel7 → PV none g mX11_bound (sqIr T BB wN rn r0 m0 (-2147483648) 2147483647 (fun m' r' v => True)) 6 0 0 17 [.ref 0, .int x0, pv_U, .int y1, .int y2, pv_U] [] (mk T m3 n4 r12) := by
    intro fuel7
    induction fuel7 with
    | zero => intro y1 y2 m3 n4 r12 b10 b11 I5 K6 or12 z13; omega
    | succ fuel7 ih9 =>
      intro y1 y2 m3 n4 r12 b10 b11 I5 K6 or12 z13
      have hc2 := or12.1
      have R := RX_rn2 R0 or or12
      have zR := R.2.2.2.2.1.1
      have zR2 := R.2.2.2.2.2.1
      refine pv_iload (M := mX11_bound) dX11_bound_17 19 rfl rfl ?_
      refine pv_bipush (M := mX11_bound) (v := 8) dX11_bound_19 21 rfl (by decide) ?_
      refine pv_icmp_ge (M := mX11_bound) (tgt := 91) dX11_bound_21 24 rfl (by decide) (fun c14 => ?_) (fun c14 => ?_)
      · have c14 := iv_le (X := 8) (Y := y2.toInt) c14 (by decide) rfl
        refine pv_iload_n (M := mX11_bound) 3 dX11_bound_91 92 rfl rfl rfl ?_
        exact pv_iret (M := mX11_bound) dX11_bound_92 rfl rfl ⟨_, _, _, _, rfl, rfl, I5, K6, or12, (iv_rng y1).1, (iv_rng y1).2, trivial⟩
      · have c14 := iv_nle (X := 8) (Y := y2.toInt) c14 (by decide) rfl
        refine pv_iload (M := mX11_bound) dX11_bound_24 26 rfl rfl ?_
        refine pv_iconst (M := mX11_bound) (v := 1) dX11_bound_26 27 rfl (by decide) ?_
        refine iv_iadd (M := mX11_bound) (X := y2.toInt) (Y := 1) dX11_bound_27 28 rfl rfl (by decide) (by omega) (by omega) (fun v15 ev15 => ?_)
        refine pv_istore (M := mX11_bound) (lo2 := [.ref 0, .int x0, pv_U, .int y1, .int y2, .int v15]) dX11_bound_28 30 rfl (by decide) rfl rfl ?_
        have lp23 : ∀ (fuel22 : Nat) (y16 : Int32) (y17 : Int32) (m18 : Nat → Nat → Int32) (n19 : Nat → Nat → Int64) (r27 : Nat → Value), (1 ≤ y17.toInt) → (y17.toInt ≤ 8) → IV BB m18 → fr wN m0 m18 → rn r0 r27 → ((8 - y17.toInt) : Int).toNat < fuel22 → PV none g mX11_bound (sqIr T BB wN rn r0 m0 (-2147483648) 2147483647 (fun m' r' v => True)) 6 0 0 30 [.ref 0, .int x0, pv_U, .int y16, .int y2, .int y17] [] (mk T m18 n19 r27) := by
          intro fuel22
          induction fuel22 with
          | zero => intro y16 y17 m18 n19 r27 b25 b26 I20 K21 or27 z28; omega
          | succ fuel22 ih24 =>
            intro y16 y17 m18 n19 r27 b25 b26 I20 K21 or27 z28
            have hc2 := or27.1
            have R := RX_rn2 R0 or or27
            have zR := R.2.2.2.2.1.1
            have zR2 := R.2.2.2.2.2.1
            refine pv_iload (M := mX11_bound) dX11_bound_30 32 rfl rfl ?_
            refine pv_bipush (M := mX11_bound) (v := 8) dX11_bound_32 34 rfl (by decide) ?_
            refine pv_icmp_ge (M := mX11_bound) (tgt := 85) dX11_bound_34 37 rfl (by decide) (fun c29 => ?_) (fun c29 => ?_)
            · have c29 := iv_le (X := 8) (Y := y17.toInt) c29 (by decide) rfl
              refine iv_inc (M := mX11_bound) (C := 1) dX11_bound_85 88 rfl rfl (by decide) rfl rfl (by decide) (by omega) (by omega) (fun v30 ev30 => ?_)
              show PV _ _ _ _ _ _ _ 88 [.ref 0, .int x0, pv_U, .int y16, .int v30, .int y17] [] _
              refine pv_goto (M := mX11_bound) (tgt := 17) dX11_bound_88 (by decide) ?_
              refine pv_fg (lo2 := [.ref 0, .int x0, pv_U, .int y16, .int v30, pv_U]) ⟨Or.inr rfl, ⟨Or.inr rfl, ⟨Or.inl rfl, ⟨Or.inr rfl, ⟨Or.inr rfl, ⟨Or.inl rfl, trivial⟩⟩⟩⟩⟩⟩ ?_
              exact ih9 y16 v30 m18 n19 r27 (by first | omega | assumption | exact (iv_rng _).2 | exact (iv_rng _).1 | decide) (by first | omega | assumption | exact (iv_rng _).2 | exact (iv_rng _).1 | decide) I20 K21 or27 (by omega)
            · have c29 := iv_nle (X := 8) (Y := y17.toInt) c29 (by decide) rfl
              refine pv_iload_n (M := mX11_bound) 1 dX11_bound_37 38 rfl rfl rfl ?_
              refine pv_iload (M := mX11_bound) dX11_bound_38 40 rfl rfl ?_
              refine pv_calls (M := mX11_bound) (as := [.int x0, .int y2]) (st := []) (kc2 := 0) (ks2 := 0) dX11_bound_40 wd931 YX11_isAmong wd932 (s_X11_isAmong g hT I20 x0 y2) rfl rfl (Nat.le_of_ble_eq_true rfl) (by decide) rfl rfl 43 rfl (fun rv h1 q31 => ?_)
              obtain ⟨v32, rfl, rfl, pv32, qv32, rv32⟩ := q31
              replace rv32 : v32 = amv x0 y2 := rv32
              show PV _ _ _ _ _ _ _ 43 [.ref 0, .int x0, pv_U, .int y16, .int y2, .int y17] [.int v32] _
              refine pv_if_eq (M := mX11_bound) (tgt := 79) dX11_bound_43 46 rfl (by decide) (fun c33 => ?_) (fun c33 => ?_)
              · have c33 := iv_eq (X := v32.toInt) (Y := 0) c33 rfl (by decide)
                refine iv_inc (M := mX11_bound) (C := 1) dX11_bound_79 82 rfl rfl (by decide) rfl rfl (by decide) (by omega) (by omega) (fun v34 ev34 => ?_)
                show PV _ _ _ _ _ _ _ 82 [.ref 0, .int x0, pv_U, .int y16, .int y2, .int v34] [] _
                refine pv_goto (M := mX11_bound) (tgt := 30) dX11_bound_82 (by decide) ?_
                exact ih24 y16 v34 m18 n19 r27 (by first | omega | assumption | exact (iv_rng _).2 | exact (iv_rng _).1 | decide) (by first | omega | assumption | exact (iv_rng _).2 | exact (iv_rng _).1 | decide) I20 K21 or27 (by omega)
              · have c33 := iv_ne (X := v32.toInt) (Y := 0) c33 rfl (by decide)
                refine pv_iload_n (M := mX11_bound) 1 dX11_bound_46 47 rfl rfl rfl ?_
                refine pv_iload (M := mX11_bound) dX11_bound_47 49 rfl rfl ?_
                refine pv_calls (M := mX11_bound) (as := [.int x0, .int y17]) (st := []) (kc2 := 0) (ks2 := 0) dX11_bound_49 wd931 YX11_isAmong wd932 (s_X11_isAmong g hT I20 x0 y17) rfl rfl (Nat.le_of_ble_eq_true rfl) (by decide) rfl rfl 52 rfl (fun rv h1 q35 => ?_)
                obtain ⟨v36, rfl, rfl, pv36, qv36, rv36⟩ := q35
                replace rv36 : v36 = amv x0 y17 := rv36
                show PV _ _ _ _ _ _ _ 52 [.ref 0, .int x0, pv_U, .int y16, .int y2, .int y17] [.int v36] _
                refine pv_if_eq (M := mX11_bound) (tgt := 79) dX11_bound_52 55 rfl (by decide) (fun c37 => ?_) (fun c37 => ?_)
                · have c37 := iv_eq (X := v36.toInt) (Y := 0) c37 rfl (by decide)
                  refine iv_inc (M := mX11_bound) (C := 1) dX11_bound_79 82 rfl rfl (by decide) rfl rfl (by decide) (by omega) (by omega) (fun v38 ev38 => ?_)
                  show PV _ _ _ _ _ _ _ 82 [.ref 0, .int x0, pv_U, .int y16, .int y2, .int v38] [] _
                  refine pv_goto (M := mX11_bound) (tgt := 30) dX11_bound_82 (by decide) ?_
                  exact ih24 y16 v38 m18 n19 r27 (by first | omega | assumption | exact (iv_rng _).2 | exact (iv_rng _).1 | decide) (by first | omega | assumption | exact (iv_rng _).2 | exact (iv_rng _).1 | decide) I20 K21 or27 (by omega)
                · have c37 := iv_ne (X := v36.toInt) (Y := 0) c37 rfl (by decide)
                  refine pv_iload_n (M := mX11_bound) 3 dX11_bound_55 56 rfl rfl rfl ?_
                  refine pv_aload_n (M := mX11_bound) 0 dX11_bound_56 57 rfl rfl rfl ?_
                  refine pv_iconst (M := mX11_bound) (v := 1) dX11_bound_57 58 rfl (by decide) ?_
                  refine pv_iload (M := mX11_bound) dX11_bound_58 60 rfl rfl ?_
                  refine iv_shlU (M := mX11_bound) dX11_bound_60 61 rfl (fun v39 ev39 => ?_)
                  have pv39 : 1 ≤ v39.toInt ∧ v39.toInt ≤ 128 := by rw [ev39]; exact iv_sh17 (by omega) (by omega)
                  refine pv_iconst (M := mX11_bound) (v := 1) dX11_bound_61 62 rfl (by decide) ?_
                  refine pv_iload (M := mX11_bound) dX11_bound_62 64 rfl rfl ?_
                  refine iv_shlU (M := mX11_bound) dX11_bound_64 65 rfl (fun v40 ev40 => ?_)
                  have pv40 : 1 ≤ v40.toInt ∧ v40.toInt ≤ 128 := by rw [ev40]; exact iv_sh17 (by omega) (by omega)
                  refine iv_orU (M := mX11_bound) dX11_bound_65 66 rfl (fun v41 ev41 => ?_)
                  have pv41 : 0 ≤ v41.toInt ∧ v41.toInt ≤ 255 := by rw [ev41]; exact iv_or8 (by omega) (by omega) (by omega) (by omega)
                  refine pv_callv (M := mX11_bound) (as := [.int v41]) (st := [.int y16]) (kc2 := 0) (ks2 := 0) dX11_bound_66 wd963 YX11_coverFor ⟨wd965, wd39⟩ (mk_get (tl0 hT)) rfl rfl (s_X11_coverFor g hT I20 R hC hc2 v41) rfl rfl (Nat.le_of_ble_eq_true rfl) (by decide) rfl rfl 69 rfl (fun rv h1 q42 => ?_)
                  obtain ⟨m43, n44, r47, rfl, rfl, I45, K46, qr47, rm43⟩ := q42
                  have or47 := rn.trans or27 qr47
                  have R := RX_rn R qr47
                  have zR := R.2.2.2.2.1.1
                  have zR2 := R.2.2.2.2.2.1
                  have hc2 : r47 2 = .ref 169 := or47.1
                  have K46c := K46
                  have K46 := K21.trans (K46.sub (by first | exact wg_l (by decide) | exact wg_g (by decide) | exact WX_wg | exact la7_wg zR (by decide) | exact wsL_wg zR (by decide)))
                  show PV _ _ _ _ _ _ _ 69 [.ref 0, .int x0, pv_U, .int y16, .int y2, .int y17] [.ref 169, .int y16] _
                  refine mv_get (M := mX11_bound) (v := .ref 170) dX11_bound_69 FX3 0 wd980 (by decide) (tc169 hC) rfl rfl 72 rfl ?_
                  refine iv_get (M := mX11_bound) (l1 := 0) (l2 := 48) dX11_bound_72 FX8 1 wd200 (by decide) (tc170 hC) rfl I45 rfl 75 rfl (fun v48 ev48 pv48 qv48 => ?_)
                  refine iv_max (M := mX11_bound) (X := y16.toInt) (Y := v48.toInt) dX11_bound_75 wd883 Wmmax (Nat.le_of_ble_eq_true rfl) (by decide) rfl rfl 78 rfl (fun v49 ev49 fv49 gv49 => ?_)
                  refine pv_istore_n (M := mX11_bound) 3 (lo2 := [.ref 0, .int x0, pv_U, .int v49, .int y2, .int y17]) dX11_bound_78 79 rfl rfl (by decide) rfl rfl ?_
                  refine iv_inc (M := mX11_bound) (C := 1) dX11_bound_79 82 rfl rfl (by decide) rfl rfl (by decide) (by omega) (by omega) (fun v50 ev50 => ?_)
                  show PV _ _ _ _ _ _ _ 82 [.ref 0, .int x0, pv_U, .int v49, .int y2, .int v50] [] _
                  refine pv_goto (M := mX11_bound) (tgt := 30) dX11_bound_82 (by decide) ?_
                  exact ih24 v49 v50 m43 n44 r47 (by first | omega | assumption | exact (iv_rng _).2 | exact (iv_rng _).1 | decide) (by first | omega | assumption | exact (iv_rng _).2 | exact (iv_rng _).1 | decide) I45 K46 or47 (by omega)
        exact lp23 (((8 - v15.toInt) : Int).toNat + 1) y1 v15 m3 n4 r12 (by first | omega | assumption | exact (iv_rng _).2 | exact (iv_rng _).1 | decide) (by first | omega | assumption | exact (iv_rng _).2 | exact (iv_rng _).1 | decide) I5 K6 or12 (by omega)
  exact lp8 (((8 - y4.toInt) : Int).toNat + 1) y3 y4 m n r (by first | omega | assumption | exact (iv_rng _).2 | exact (iv_rng _).1 | decide) (by first | omega | assumption | exact (iv_rng _).2 | exact (iv_rng _).1 | decide) I Kp or (by omega)

set_option maxHeartbeats 2000000 in
set_option maxRecDepth 20000 in
theorem s_X11_bound_vs30 (g : pv_G) {T : List mv_T} {m : Nat → Nat → Int32} {n : Nat → Nat → Int64} {r : Nat → Value} {m0 : Nat → Nat → Int32} {r0 : Nat → Value} {la lb : Nat} (hT : TX T) (I : IV BB m) (Kp : fr wN m0 m) (or : rn r0 r) (R : RX T r la lb) (hC : TC T) (hc2 : r 2 = .ref 169) (x0 : Int32) (y3 : Int32) (y4 : Int32) (hy4 : 0 ≤ y4.toInt) (hz4 : y4.toInt ≤ 7) (y5 : Int32) (hy5 : 1 ≤ y5.toInt) (hz5 : y5.toInt ≤ 8) : PV none g mX11_bound (sqIr T BB wN rn r0 m0 (-2147483648) 2147483647 (fun m' r' v => True)) 6 0 0 30 [.ref 0, .int x0, pv_U, .int y3, .int y4, .int y5] [] (mk T m n r) := by
  have R0 := R
  have zR := R.2.2.2.2.1.1
  have zR2 := R.2.2.2.2.2.1
  have hc20 := hc2
  have lp8 : ∀ (fuel7 : Nat) (y1 : Int32) (y2 : Int32) (m3 : Nat → Nat → Int32) (n4 : Nat → Nat → Int64) (r12 : Nat → Value), (1 ≤ y2.toInt) → (y2.toInt ≤ 8) → IV BB m3 → fr wN m0 m3 → rn r0 r12 → ((8 - y2.toInt) : Int).toNat < fuel7 → PV none g mX11_bound (sqIr T BB wN rn r0 m0 (-2147483648) 2147483647 (fun m' r' v => True)) 6 0 0 30 [.ref 0, .int x0, pv_U, .int y1, .int y4, .int y2] [] (mk T m3 n4 r12) := by
    intro fuel7
    induction fuel7 with
    | zero => intro y1 y2 m3 n4 r12 b10 b11 I5 K6 or12 z13; omega
    | succ fuel7 ih9 =>
      intro y1 y2 m3 n4 r12 b10 b11 I5 K6 or12 z13
      have hc2 := or12.1
      have R := RX_rn2 R0 or or12
      have zR := R.2.2.2.2.1.1
      have zR2 := R.2.2.2.2.2.1
      refine pv_iload (M := mX11_bound) dX11_bound_30 32 rfl rfl ?_
      refine pv_bipush (M := mX11_bound) (v := 8) dX11_bound_32 34 rfl (by decide) ?_
      refine pv_icmp_ge (M := mX11_bound) (tgt := 85) dX11_bound_34 37 rfl (by decide) (fun c14 => ?_) (fun c14 => ?_)
      · have c14 := iv_le (X := 8) (Y := y2.toInt) c14 (by decide) rfl
        refine iv_inc (M := mX11_bound) (C := 1) dX11_bound_85 88 rfl rfl (by decide) rfl rfl (by decide) (by omega) (by omega) (fun v15 ev15 => ?_)
        show PV _ _ _ _ _ _ _ 88 [.ref 0, .int x0, pv_U, .int y1, .int v15, .int y2] [] _
        refine pv_goto (M := mX11_bound) (tgt := 17) dX11_bound_88 (by decide) ?_
        exact pv_fg (lo2 := [.ref 0, .int x0, pv_U, .int y1, .int v15, pv_U]) ⟨Or.inr rfl, Or.inr rfl, Or.inr rfl, Or.inr rfl, Or.inr rfl, Or.inl rfl, trivial⟩ (s_X11_bound_vs17 g hT I5 K6 or12 R hC hc2 x0 y1 v15 (by omega) (by omega))
      · have c14 := iv_nle (X := 8) (Y := y2.toInt) c14 (by decide) rfl
        refine pv_iload_n (M := mX11_bound) 1 dX11_bound_37 38 rfl rfl rfl ?_
        refine pv_iload (M := mX11_bound) dX11_bound_38 40 rfl rfl ?_
        refine pv_calls (M := mX11_bound) (as := [.int x0, .int y4]) (st := []) (kc2 := 0) (ks2 := 0) dX11_bound_40 wd931 YX11_isAmong wd932 (s_X11_isAmong g hT I5 x0 y4) rfl rfl (Nat.le_of_ble_eq_true rfl) (by decide) rfl rfl 43 rfl (fun rv h1 q17 => ?_)
        obtain ⟨v18, rfl, rfl, pv18, qv18, rv18⟩ := q17
        replace rv18 : v18 = amv x0 y4 := rv18
        show PV _ _ _ _ _ _ _ 43 [.ref 0, .int x0, pv_U, .int y1, .int y4, .int y2] [.int v18] _
        refine pv_if_eq (M := mX11_bound) (tgt := 79) dX11_bound_43 46 rfl (by decide) (fun c19 => ?_) (fun c19 => ?_)
        · have c19 := iv_eq (X := v18.toInt) (Y := 0) c19 rfl (by decide)
          refine iv_inc (M := mX11_bound) (C := 1) dX11_bound_79 82 rfl rfl (by decide) rfl rfl (by decide) (by omega) (by omega) (fun v20 ev20 => ?_)
          show PV _ _ _ _ _ _ _ 82 [.ref 0, .int x0, pv_U, .int y1, .int y4, .int v20] [] _
          refine pv_goto (M := mX11_bound) (tgt := 30) dX11_bound_82 (by decide) ?_
          exact ih9 y1 v20 m3 n4 r12 (by first | omega | assumption | exact (iv_rng _).2 | exact (iv_rng _).1 | decide) (by first | omega | assumption | exact (iv_rng _).2 | exact (iv_rng _).1 | decide) I5 K6 or12 (by omega)
        · have c19 := iv_ne (X := v18.toInt) (Y := 0) c19 rfl (by decide)
          refine pv_iload_n (M := mX11_bound) 1 dX11_bound_46 47 rfl rfl rfl ?_
          refine pv_iload (M := mX11_bound) dX11_bound_47 49 rfl rfl ?_
          refine pv_calls (M := mX11_bound) (as := [.int x0, .int y2]) (st := []) (kc2 := 0) (ks2 := 0) dX11_bound_49 wd931 YX11_isAmong wd932 (s_X11_isAmong g hT I5 x0 y2) rfl rfl (Nat.le_of_ble_eq_true rfl) (by decide) rfl rfl 52 rfl (fun rv h1 q21 => ?_)
          obtain ⟨v22, rfl, rfl, pv22, qv22, rv22⟩ := q21
          replace rv22 : v22 = amv x0 y2 := rv22
          show PV _ _ _ _ _ _ _ 52 [.ref 0, .int x0, pv_U, .int y1, .int y4, .int y2] [.int v22] _
          refine pv_if_eq (M := mX11_bound) (tgt := 79) dX11_bound_52 55 rfl (by decide) (fun c23 => ?_) (fun c23 => ?_)
          · have c23 := iv_eq (X := v22.toInt) (Y := 0) c23 rfl (by decide)
            refine iv_inc (M := mX11_bound) (C := 1) dX11_bound_79 82 rfl rfl (by decide) rfl rfl (by decide) (by omega) (by omega) (fun v24 ev24 => ?_)
            show PV _ _ _ _ _ _ _ 82 [.ref 0, .int x0, pv_U, .int y1, .int y4, .int v24] [] _
            refine pv_goto (M := mX11_bound) (tgt := 30) dX11_bound_82 (by decide) ?_
            exact ih9 y1 v24 m3 n4 r12 (by first | omega | assumption | exact (iv_rng _).2 | exact (iv_rng _).1 | decide) (by first | omega | assumption | exact (iv_rng _).2 | exact (iv_rng _).1 | decide) I5 K6 or12 (by omega)
          · have c23 := iv_ne (X := v22.toInt) (Y := 0) c23 rfl (by decide)
            refine pv_iload_n (M := mX11_bound) 3 dX11_bound_55 56 rfl rfl rfl ?_
            refine pv_aload_n (M := mX11_bound) 0 dX11_bound_56 57 rfl rfl rfl ?_
            refine pv_iconst (M := mX11_bound) (v := 1) dX11_bound_57 58 rfl (by decide) ?_
            refine pv_iload (M := mX11_bound) dX11_bound_58 60 rfl rfl ?_
            refine iv_shlU (M := mX11_bound) dX11_bound_60 61 rfl (fun v25 ev25 => ?_)
            have pv25 : 1 ≤ v25.toInt ∧ v25.toInt ≤ 128 := by rw [ev25]; exact iv_sh17 (by omega) (by omega)
            refine pv_iconst (M := mX11_bound) (v := 1) dX11_bound_61 62 rfl (by decide) ?_
            refine pv_iload (M := mX11_bound) dX11_bound_62 64 rfl rfl ?_
            refine iv_shlU (M := mX11_bound) dX11_bound_64 65 rfl (fun v26 ev26 => ?_)
            have pv26 : 1 ≤ v26.toInt ∧ v26.toInt ≤ 128 := by rw [ev26]; exact iv_sh17 (by omega) (by omega)
            refine iv_orU (M := mX11_bound) dX11_bound_65 66 rfl (fun v27 ev27 => ?_)
            have pv27 : 0 ≤ v27.toInt ∧ v27.toInt ≤ 255 := by rw [ev27]; exact iv_or8 (by omega) (by omega) (by omega) (by omega)
            refine pv_callv (M := mX11_bound) (as := [.int v27]) (st := [.int y1]) (kc2 := 0) (ks2 := 0) dX11_bound_66 wd963 YX11_coverFor ⟨wd965, wd39⟩ (mk_get (tl0 hT)) rfl rfl (s_X11_coverFor g hT I5 R hC hc2 v27) rfl rfl (Nat.le_of_ble_eq_true rfl) (by decide) rfl rfl 69 rfl (fun rv h1 q28 => ?_)
            obtain ⟨m29, n30, r33, rfl, rfl, I31, K32, qr33, rm29⟩ := q28
            have or33 := rn.trans or12 qr33
            have R := RX_rn R qr33
            have zR := R.2.2.2.2.1.1
            have zR2 := R.2.2.2.2.2.1
            have hc2 : r33 2 = .ref 169 := or33.1
            have K32c := K32
            have K32 := K6.trans (K32.sub (by first | exact wg_l (by decide) | exact wg_g (by decide) | exact WX_wg | exact la7_wg zR (by decide) | exact wsL_wg zR (by decide)))
            show PV _ _ _ _ _ _ _ 69 [.ref 0, .int x0, pv_U, .int y1, .int y4, .int y2] [.ref 169, .int y1] _
            refine mv_get (M := mX11_bound) (v := .ref 170) dX11_bound_69 FX3 0 wd980 (by decide) (tc169 hC) rfl rfl 72 rfl ?_
            refine iv_get (M := mX11_bound) (l1 := 0) (l2 := 48) dX11_bound_72 FX8 1 wd200 (by decide) (tc170 hC) rfl I31 rfl 75 rfl (fun v34 ev34 pv34 qv34 => ?_)
            refine iv_max (M := mX11_bound) (X := y1.toInt) (Y := v34.toInt) dX11_bound_75 wd883 Wmmax (Nat.le_of_ble_eq_true rfl) (by decide) rfl rfl 78 rfl (fun v35 ev35 fv35 gv35 => ?_)
            refine pv_istore_n (M := mX11_bound) 3 (lo2 := [.ref 0, .int x0, pv_U, .int v35, .int y4, .int y2]) dX11_bound_78 79 rfl rfl (by decide) rfl rfl ?_
            refine iv_inc (M := mX11_bound) (C := 1) dX11_bound_79 82 rfl rfl (by decide) rfl rfl (by decide) (by omega) (by omega) (fun v36 ev36 => ?_)
            show PV _ _ _ _ _ _ _ 82 [.ref 0, .int x0, pv_U, .int v35, .int y4, .int v36] [] _
            refine pv_goto (M := mX11_bound) (tgt := 30) dX11_bound_82 (by decide) ?_
            exact ih9 v35 v36 m29 n30 r33 (by first | omega | assumption | exact (iv_rng _).2 | exact (iv_rng _).1 | decide) (by first | omega | assumption | exact (iv_rng _).2 | exact (iv_rng _).1 | decide) I31 K32 or33 (by omega)
  exact lp8 (((8 - y5.toInt) : Int).toNat + 1) y3 y5 m n r (by first | omega | assumption | exact (iv_rng _).2 | exact (iv_rng _).1 | decide) (by first | omega | assumption | exact (iv_rng _).2 | exact (iv_rng _).1 | decide) I Kp or (by omega)

set_option maxHeartbeats 2000000 in
set_option maxRecDepth 20000 in
theorem s_X11_bound_vn (g : pv_G) {T : List mv_T} {m : Nat → Nat → Int32} {n : Nat → Nat → Int64} {r : Nat → Value} {la lb : Nat} (hT : TX T) (I : IV BB m) (R : RX T r la lb) (hTL : T = TL) (hc0 : r 2 = .null) (x0 : Int32) (hp0 : cOK m x0) (hp1 : ¬ (∀ i j : Nat, i < j → j < 8 → (amv x0 (Int32.ofInt i)).toInt = 0 ∨ (amv x0 (Int32.ofInt j)).toInt = 0)) : PM g mX11_bound yX11_bound (sqIr TL2 BB wN rn r m (-2147483648) 2147483647 (fun m' r' v => True)) 6 11 57200 [.ref 0, .int x0] (mk T m n r) := by
  have Kp : fr wN m m := fr.rf
  have R0 := R
  have zR := R.2.2.2.2.1.1
  have zR2 := R.2.2.2.2.2.1
  refine PM.of 4 (lo := [.ref 0, .int x0, pv_U, pv_U, pv_U, pv_U]) rfl (by decide) rfl rfl (Nat.le_of_ble_eq_true rfl) ?_
  refine pv_aload_n (M := mX11_bound) 0 dX11_bound_0 1 rfl rfl rfl ?_
  refine pv_iload_n (M := mX11_bound) 1 dX11_bound_1 2 rfl rfl rfl ?_
  refine pv_callv (M := mX11_bound) (as := [.int x0]) (st := []) (kc2 := 11) (ks2 := 57200) dX11_bound_2 wd959 YX11_refuseCover ⟨wd961, wd38⟩ (mk_get (tl0 hT)) rfl rfl (s_X11_refuseCover g hT I R x0) rfl rfl (Nat.le_of_ble_eq_true rfl) (by decide) rfl rfl 5 rfl (fun rv h1 q1 => ?_)
  obtain ⟨v2, rfl, rfl, pv2, qv2, rv2⟩ := q1
  replace rv2 : RFZ m x0 v2 := rv2
  show PV _ _ _ _ _ _ _ 5 [.ref 0, .int x0, pv_U, pv_U, pv_U, pv_U] [.int v2] _
  have kr : RFZ m x0 v2 := rv2
  refine pv_istore_n (M := mX11_bound) 2 (lo2 := [.ref 0, .int x0, .int v2, pv_U, pv_U, pv_U]) dX11_bound_5 6 rfl rfl (by decide) rfl rfl ?_
  refine pv_iload_n (M := mX11_bound) 2 dX11_bound_6 7 rfl rfl rfl ?_
  refine pv_if_eq (M := mX11_bound) (tgt := 12) dX11_bound_7 10 rfl (by decide) (fun c4 => ?_) (fun c4 => ?_)
  · have c4 := iv_eq (X := v2.toInt) (Y := 0) c4 rfl (by decide)
    refine pv_iconst (M := mX11_bound) (v := 0) dX11_bound_12 13 rfl (by decide) ?_
    refine pv_istore_n (M := mX11_bound) 3 (lo2 := [.ref 0, .int x0, .int v2, .int 0, pv_U, pv_U]) dX11_bound_13 14 rfl rfl (by decide) rfl rfl ?_
    refine pv_iconst (M := mX11_bound) (v := 0) dX11_bound_14 15 rfl (by decide) ?_
    refine pv_istore (M := mX11_bound) (lo2 := [.ref 0, .int x0, .int v2, .int 0, .int 0, pv_U]) dX11_bound_15 17 rfl (by decide) rfl rfl ?_
    have lp12 : ∀ (fuel11 : Nat) (y5 : Int32) (y6 : Int32) (m7 : Nat → Nat → Int32) (n8 : Nat → Nat → Int64), (0 ≤ y5.toInt) → (y5.toInt ≤ 48) → (0 ≤ y6.toInt) → (y6.toInt ≤ 8) → (∀ i j : Nat, i < j → j < 8 → (i : Int) < y6.toInt → (amv x0 (Int32.ofInt i)).toInt = 0 ∨ (amv x0 (Int32.ofInt j)).toInt = 0) → IV BB m7 → fr wN m m7 → ((8 - y6.toInt) : Int).toNat < fuel11 → PV none g mX11_bound (sqIr TL2 BB wN rn r m (-2147483648) 2147483647 (fun m' r' v => True)) 6 11 57200 17 [.ref 0, .int x0, .int v2, .int y5, .int y6, pv_U] [] (mk T m7 n8 r) := by
      intro fuel11
      induction fuel11 with
      | zero => intro y5 y6 m7 n8 b14 b15 b16 b17 b18 I9 K10 z19; omega
      | succ fuel11 ih13 =>
        intro y5 y6 m7 n8 b14 b15 b16 b17 b18 I9 K10 z19
        have kf17 := (show ∀ i j : Nat, i < j → j < 8 → (i : Int) < y6.toInt → (amv x0 (Int32.ofInt i)).toInt = 0 ∨ (amv x0 (Int32.ofInt j)).toInt = 0 by assumption)
        refine pv_iload (M := mX11_bound) dX11_bound_17 19 rfl rfl ?_
        refine pv_bipush (M := mX11_bound) (v := 8) dX11_bound_19 21 rfl (by decide) ?_
        refine pv_icmp_ge (M := mX11_bound) (tgt := 91) dX11_bound_21 24 rfl (by decide) (fun c21 => ?_) (fun c21 => ?_)
        · have c21 := iv_le (X := 8) (Y := y6.toInt) c21 (by decide) rfl
          exact absurd (fun i j h h8 => kf17 i j h h8 (by omega)) hp1
        · have c21 := iv_nle (X := 8) (Y := y6.toInt) c21 (by decide) rfl
          refine pv_iload (M := mX11_bound) dX11_bound_24 26 rfl rfl ?_
          refine pv_iconst (M := mX11_bound) (v := 1) dX11_bound_26 27 rfl (by decide) ?_
          refine iv_iadd (M := mX11_bound) (X := y6.toInt) (Y := 1) dX11_bound_27 28 rfl rfl (by decide) (by omega) (by omega) (fun v23 ev23 => ?_)
          refine pv_istore (M := mX11_bound) (lo2 := [.ref 0, .int x0, .int v2, .int y5, .int y6, .int v23]) dX11_bound_28 30 rfl (by decide) rfl rfl ?_
          have lp31 : ∀ (fuel30 : Nat) (y24 : Int32) (y25 : Int32) (m26 : Nat → Nat → Int32) (n27 : Nat → Nat → Int64), (0 ≤ y24.toInt) → (y24.toInt ≤ 48) → (1 ≤ y25.toInt) → (y25.toInt ≤ 8) → (y6.toInt < y25.toInt) → (∀ j : Nat, y6.toInt < (j : Int) → (j : Int) < y25.toInt → (amv x0 (Int32.ofInt (y6.toInt.toNat : Nat))).toInt = 0 ∨ (amv x0 (Int32.ofInt j)).toInt = 0) → IV BB m26 → fr wN m m26 → ((8 - y25.toInt) : Int).toNat < fuel30 → PV none g mX11_bound (sqIr TL2 BB wN rn r m (-2147483648) 2147483647 (fun m' r' v => True)) 6 11 57200 30 [.ref 0, .int x0, .int v2, .int y24, .int y6, .int y25] [] (mk T m26 n27 r) := by
            intro fuel30
            induction fuel30 with
            | zero => intro y24 y25 m26 n27 b33 b34 b35 b36 b37 b38 I28 K29 z39; omega
            | succ fuel30 ih32 =>
              intro y24 y25 m26 n27 b33 b34 b35 b36 b37 b38 I28 K29 z39
              have kf30 := (show ∀ j : Nat, y6.toInt < (j : Int) → (j : Int) < y25.toInt → (amv x0 (Int32.ofInt (y6.toInt.toNat : Nat))).toInt = 0 ∨ (amv x0 (Int32.ofInt j)).toInt = 0 by assumption)
              refine pv_iload (M := mX11_bound) dX11_bound_30 32 rfl rfl ?_
              refine pv_bipush (M := mX11_bound) (v := 8) dX11_bound_32 34 rfl (by decide) ?_
              refine pv_icmp_ge (M := mX11_bound) (tgt := 85) dX11_bound_34 37 rfl (by decide) (fun c41 => ?_) (fun c41 => ?_)
              · have c41 := iv_le (X := 8) (Y := y25.toInt) c41 (by decide) rfl
                refine iv_inc (M := mX11_bound) (C := 1) dX11_bound_85 88 rfl rfl (by decide) rfl rfl (by decide) (by omega) (by omega) (fun v42 ev42 => ?_)
                show PV _ _ _ _ _ _ _ 88 [.ref 0, .int x0, .int v2, .int y24, .int v42, .int y25] [] _
                refine pv_goto (M := mX11_bound) (tgt := 17) dX11_bound_88 (by decide) ?_
                refine pv_fg (lo2 := [.ref 0, .int x0, .int v2, .int y24, .int v42, pv_U]) ⟨Or.inr rfl, ⟨Or.inr rfl, ⟨Or.inr rfl, ⟨Or.inr rfl, ⟨Or.inr rfl, ⟨Or.inl rfl, trivial⟩⟩⟩⟩⟩⟩ ?_
                have kb17 : ∀ i j : Nat, i < j → j < 8 → (i : Int) < v42.toInt → (amv x0 (Int32.ofInt i)).toInt = 0 ∨ (amv x0 (Int32.ofInt j)).toInt = 0 := fun i j h h8 a => if z : (i : Int) = y6.toInt then (by rw [show i = (y6.toInt).toNat by omega]; exact kf30 j (by omega) (by omega)) else kf17 i j h h8 (by omega)
                exact ih13 y24 v42 m26 n27 (by first | omega | assumption | exact (iv_rng _).2 | exact (iv_rng _).1 | decide) (by first | omega | assumption | exact (iv_rng _).2 | exact (iv_rng _).1 | decide) (by first | omega | assumption | exact (iv_rng _).2 | exact (iv_rng _).1 | decide) (by first | omega | assumption | exact (iv_rng _).2 | exact (iv_rng _).1 | decide) kb17 I28 K29 (by omega)
              · have c41 := iv_nle (X := 8) (Y := y25.toInt) c41 (by decide) rfl
                refine pv_iload_n (M := mX11_bound) 1 dX11_bound_37 38 rfl rfl rfl ?_
                refine pv_iload (M := mX11_bound) dX11_bound_38 40 rfl rfl ?_
                refine pv_calls (M := mX11_bound) (as := [.int x0, .int y6]) (st := []) (kc2 := 11) (ks2 := 57200) dX11_bound_40 wd931 YX11_isAmong wd932 (s_X11_isAmong g hT I28 x0 y6) rfl rfl (Nat.le_of_ble_eq_true rfl) (by decide) rfl rfl 43 rfl (fun rv h1 q44 => ?_)
                obtain ⟨v45, rfl, rfl, pv45, qv45, rv45⟩ := q44
                replace rv45 : v45 = amv x0 y6 := rv45
                show PV _ _ _ _ _ _ _ 43 [.ref 0, .int x0, .int v2, .int y24, .int y6, .int y25] [.int v45] _
                have k43 : (amv x0 (Int32.ofInt (y6.toInt.toNat : Nat))).toInt = v45.toInt := by rw [ofn (by omega), rv45]
                refine pv_if_eq (M := mX11_bound) (tgt := 79) dX11_bound_43 46 rfl (by decide) (fun c47 => ?_) (fun c47 => ?_)
                · have c47 := iv_eq (X := v45.toInt) (Y := 0) c47 rfl (by decide)
                  refine iv_inc (M := mX11_bound) (C := 1) dX11_bound_79 82 rfl rfl (by decide) rfl rfl (by decide) (by omega) (by omega) (fun v48 ev48 => ?_)
                  show PV _ _ _ _ _ _ _ 82 [.ref 0, .int x0, .int v2, .int y24, .int y6, .int v48] [] _
                  refine pv_goto (M := mX11_bound) (tgt := 30) dX11_bound_82 (by decide) ?_
                  have kb30 : ∀ j : Nat, y6.toInt < (j : Int) → (j : Int) < v48.toInt → (amv x0 (Int32.ofInt (y6.toInt.toNat : Nat))).toInt = 0 ∨ (amv x0 (Int32.ofInt j)).toInt = 0 := fun j a b => if z : (j : Int) = y25.toInt then (by rw [show j = (y25.toInt).toNat by omega]; omega) else kf30 j a (by omega)
                  exact ih32 y24 v48 m26 n27 (by first | omega | assumption | exact (iv_rng _).2 | exact (iv_rng _).1 | decide) (by first | omega | assumption | exact (iv_rng _).2 | exact (iv_rng _).1 | decide) (by first | omega | assumption | exact (iv_rng _).2 | exact (iv_rng _).1 | decide) (by first | omega | assumption | exact (iv_rng _).2 | exact (iv_rng _).1 | decide) (by first | omega | assumption | (show y6.toInt < v48.toInt; omega) | decide) kb30 I28 K29 (by omega)
                · have c47 := iv_ne (X := v45.toInt) (Y := 0) c47 rfl (by decide)
                  refine pv_iload_n (M := mX11_bound) 1 dX11_bound_46 47 rfl rfl rfl ?_
                  refine pv_iload (M := mX11_bound) dX11_bound_47 49 rfl rfl ?_
                  refine pv_calls (M := mX11_bound) (as := [.int x0, .int y25]) (st := []) (kc2 := 11) (ks2 := 57200) dX11_bound_49 wd931 YX11_isAmong wd932 (s_X11_isAmong g hT I28 x0 y25) rfl rfl (Nat.le_of_ble_eq_true rfl) (by decide) rfl rfl 52 rfl (fun rv h1 q50 => ?_)
                  obtain ⟨v51, rfl, rfl, pv51, qv51, rv51⟩ := q50
                  replace rv51 : v51 = amv x0 y25 := rv51
                  show PV _ _ _ _ _ _ _ 52 [.ref 0, .int x0, .int v2, .int y24, .int y6, .int y25] [.int v51] _
                  have k52 : (amv x0 (Int32.ofInt (y25.toInt.toNat : Nat))).toInt = v51.toInt := by rw [ofn (by omega), rv51]
                  refine pv_if_eq (M := mX11_bound) (tgt := 79) dX11_bound_52 55 rfl (by decide) (fun c53 => ?_) (fun c53 => ?_)
                  · have c53 := iv_eq (X := v51.toInt) (Y := 0) c53 rfl (by decide)
                    refine iv_inc (M := mX11_bound) (C := 1) dX11_bound_79 82 rfl rfl (by decide) rfl rfl (by decide) (by omega) (by omega) (fun v54 ev54 => ?_)
                    show PV _ _ _ _ _ _ _ 82 [.ref 0, .int x0, .int v2, .int y24, .int y6, .int v54] [] _
                    refine pv_goto (M := mX11_bound) (tgt := 30) dX11_bound_82 (by decide) ?_
                    have kb30 : ∀ j : Nat, y6.toInt < (j : Int) → (j : Int) < v54.toInt → (amv x0 (Int32.ofInt (y6.toInt.toNat : Nat))).toInt = 0 ∨ (amv x0 (Int32.ofInt j)).toInt = 0 := fun j a b => if z : (j : Int) = y25.toInt then (by rw [show j = (y25.toInt).toNat by omega]; omega) else kf30 j a (by omega)
                    exact ih32 y24 v54 m26 n27 (by first | omega | assumption | exact (iv_rng _).2 | exact (iv_rng _).1 | decide) (by first | omega | assumption | exact (iv_rng _).2 | exact (iv_rng _).1 | decide) (by first | omega | assumption | exact (iv_rng _).2 | exact (iv_rng _).1 | decide) (by first | omega | assumption | exact (iv_rng _).2 | exact (iv_rng _).1 | decide) (by first | omega | assumption | (show y6.toInt < v54.toInt; omega) | decide) kb30 I28 K29 (by omega)
                  · have c53 := iv_ne (X := v51.toInt) (Y := 0) c53 rfl (by decide)
                    refine pv_iload_n (M := mX11_bound) 3 dX11_bound_55 56 rfl rfl rfl ?_
                    refine pv_aload_n (M := mX11_bound) 0 dX11_bound_56 57 rfl rfl rfl ?_
                    refine pv_iconst (M := mX11_bound) (v := 1) dX11_bound_57 58 rfl (by decide) ?_
                    refine pv_iload (M := mX11_bound) dX11_bound_58 60 rfl rfl ?_
                    refine iv_shlU (M := mX11_bound) dX11_bound_60 61 rfl (fun v56 ev56 => ?_)
                    have pv56 : 1 ≤ v56.toInt ∧ v56.toInt ≤ 128 := by rw [ev56]; exact iv_sh17 (by omega) (by omega)
                    refine pv_iconst (M := mX11_bound) (v := 1) dX11_bound_61 62 rfl (by decide) ?_
                    refine pv_iload (M := mX11_bound) dX11_bound_62 64 rfl rfl ?_
                    refine iv_shlU (M := mX11_bound) dX11_bound_64 65 rfl (fun v57 ev57 => ?_)
                    have pv57 : 1 ≤ v57.toInt ∧ v57.toInt ≤ 128 := by rw [ev57]; exact iv_sh17 (by omega) (by omega)
                    refine iv_orU (M := mX11_bound) dX11_bound_65 66 rfl (fun v58 ev58 => ?_)
                    have pv58 : 0 ≤ v58.toInt ∧ v58.toInt ≤ 255 := by rw [ev58]; exact iv_or8 (by omega) (by omega) (by omega) (by omega)
                    refine pv_callv (M := mX11_bound) (as := [.int v58]) (st := [.int y24]) (kc2 := 0) (ks2 := 0) dX11_bound_66 wd963 YX11_coverFor ⟨wd965, wd39⟩ (mk_get (tl0 hT)) rfl rfl (k_coverFor_n g hTL I28 R hc0 v58) rfl rfl (Nat.le_of_ble_eq_true rfl) (by decide) rfl rfl 69 rfl (fun rv h1 q59 => ?_)
                    generalize hG : TL2 = T2 at q59 ⊢
                    obtain ⟨m60, n61, r64, rfl, rfl, I62, K63, or64, _⟩ := q59
                    have hC : TC T2 := hG.symm
                    have hT : TX T2 := TC_TX hC
                    have hc2 := or64.1
                    have R := RX_rnT R or64
                    rw [hG] at R
                    have zR := R.2.2.2.2.1.1
                    have zR2 := R.2.2.2.2.2.1
                    have K63 := K29.trans (K63.sub WX_wN)
                    show PV _ _ _ _ _ _ _ 69 [.ref 0, .int x0, .int v2, .int y24, .int y6, .int y25] [.ref 169, .int y24] _
                    refine mv_get (M := mX11_bound) (v := .ref 170) dX11_bound_69 FX3 0 wd980 (by decide) (tc169 hC) rfl rfl 72 rfl ?_
                    refine iv_get (M := mX11_bound) (l1 := 0) (l2 := 48) dX11_bound_72 FX8 1 wd200 (by decide) (tc170 hC) rfl I62 rfl 75 rfl (fun v65 ev65 pv65 qv65 => ?_)
                    refine iv_max (M := mX11_bound) (X := y24.toInt) (Y := v65.toInt) dX11_bound_75 wd883 Wmmax (Nat.le_of_ble_eq_true rfl) (by decide) rfl rfl 78 rfl (fun v66 ev66 fv66 gv66 => ?_)
                    refine pv_istore_n (M := mX11_bound) 3 (lo2 := [.ref 0, .int x0, .int v2, .int v66, .int y6, .int y25]) dX11_bound_78 79 rfl rfl (by decide) rfl rfl ?_
                    refine iv_inc (M := mX11_bound) (C := 1) dX11_bound_79 82 rfl rfl (by decide) rfl rfl (by decide) (by omega) (by omega) (fun v67 ev67 => ?_)
                    show PV _ _ _ _ _ _ _ 82 [.ref 0, .int x0, .int v2, .int v66, .int y6, .int v67] [] _
                    refine pv_goto (M := mX11_bound) (tgt := 30) dX11_bound_82 (by decide) ?_
                    exact pv_fg (lo2 := [.ref 0, .int x0, pv_U, .int v66, .int y6, .int v67]) ⟨Or.inr rfl, Or.inr rfl, Or.inl rfl, Or.inr rfl, Or.inr rfl, Or.inr rfl, trivial⟩ (s_X11_bound_vs30 g hT I62 K63 or64 R hC hc2 x0 v66 y6 (by omega) (by omega) v67 (by omega) (by omega))
          exact lp31 (((8 - v23.toInt) : Int).toNat + 1) y5 v23 m7 n8 (by first | omega | assumption | exact (iv_rng _).2 | exact (iv_rng _).1 | decide) (by first | omega | assumption | exact (iv_rng _).2 | exact (iv_rng _).1 | decide) (by first | omega | assumption | exact (iv_rng _).2 | exact (iv_rng _).1 | decide) (by first | omega | assumption | exact (iv_rng _).2 | exact (iv_rng _).1 | decide) (by first | omega | assumption | (show y6.toInt < v23.toInt; omega) | decide) (fun j a b => by omega) I9 K10 (by omega)
    have z69 : (0 : Int32).toInt = 0 := by decide
    have z70 : (0 : Int32).toInt = 0 := by decide
    exact lp12 (((8 - 0) : Int).toNat + 1) 0 0 m n (by first | omega | assumption | exact (iv_rng _).2 | exact (iv_rng _).1 | decide) (by first | omega | assumption | exact (iv_rng _).2 | exact (iv_rng _).1 | decide) (by first | omega | assumption | exact (iv_rng _).2 | exact (iv_rng _).1 | decide) (by first | omega | assumption | exact (iv_rng _).2 | exact (iv_rng _).1 | decide) (fun i j _ _ a => by rw [Int32.toInt_zero] at a; omega) I Kp (by omega)
  · have c4 := iv_ne (X := v2.toInt) (Y := 0) c4 rfl (by decide)
    exact absurd (Iff.mpr kr hp0) (by omega)

set_option maxHeartbeats 2000000 in
set_option maxRecDepth 20000 in
theorem s_X7_exchange (g : pv_G) {T : List mv_T} {m : Nat → Nat → Int32} {n : Nat → Nat → Int64} {r : Nat → Value} {la lb : Nat} (hT : TX T) (I : IV BB m) (R : RX T r la lb) (hK : TK T) (a0 : Nat) (ha0 : LawAt T a0) : PM g mX7_exchange yX7_exchange (sqAr T BB (wl []) rl r m lb (fun m' r' => r' = up1 r 3 (.ref a0))) 1 0 0 [.ref 86, .ref a0] (mk T m n r) := by
  have Kp : fr (wl []) m m := fr.rf
  have R0 := R
  have zR := R.2.2.2.2.1.1
  have zR2 := R.2.2.2.2.2.1
  have zw0 := ha0.1
  refine PM.of 1 (lo := [.ref 86, .ref a0, pv_U]) rfl (by decide) rfl rfl (Nat.le_of_ble_eq_true rfl) ?_
  refine pv_aload_n (M := mX7_exchange) 0 dX7_exchange_0 1 rfl rfl rfl ?_
  refine mv_get (M := mX7_exchange) (v := .ref lb) dX7_exchange_1 FX7 1 wd281 (by decide) (tl86 hT) rfl R.2.2.2.1 4 rfl ?_
  refine pv_astore_n (M := mX7_exchange) 2 (lo2 := [.ref 86, .ref a0, .ref lb]) dX7_exchange_4 5 rfl rfl (by decide) rfl rfl ?_
  refine pv_aload_n (M := mX7_exchange) 0 dX7_exchange_5 6 rfl rfl rfl ?_
  refine pv_aload_n (M := mX7_exchange) 1 dX7_exchange_6 7 rfl rfl rfl ?_
  refine mv_putr (M := mX7_exchange) (j := 3) (v := .ref a0) dX7_exchange_7 FX7 1 wd281 (by decide) rfl (tl86 hT) rfl (hu_of (by decide)) (NM3k hK) (fun _ => rfl) (fun _ => rfl) 10 rfl (fun r1 er1 => ?_)
  have or1 := rl.set rl.rf er1 (by decide)
  refine pv_aload_n (M := mX7_exchange) 2 dX7_exchange_10 11 rfl rfl rfl ?_
  exact pv_aret (M := mX7_exchange) dX7_exchange_11 rfl ⟨_, _, _, rfl, rfl, I, Kp, or1, er1⟩

set_option maxHeartbeats 2000000 in
set_option maxRecDepth 20000 in
theorem s_X11_forgetSolved_v0 (g : pv_G) {T : List mv_T} {m : Nat → Nat → Int32} {n : Nat → Nat → Int64} {r : Nat → Value} {la lb : Nat} (hT : TX T) (I : IV BB m) (R : RX T r la lb) (hc0 : r 2 = .null) : PM g mX11_forgetSolved yX11_forgetSolved (sqV T BB wN r m (fun m' => True)) 1 0 0 [.ref 0] (mk T m n r) := by
  have Kp : fr wN m m := fr.rf
  have R0 := R
  have zR := R.2.2.2.2.1.1
  have zR2 := R.2.2.2.2.2.1
  refine PM.of 0 (lo := [.ref 0]) rfl (by decide) rfl rfl (Nat.le_of_ble_eq_true rfl) ?_
  refine pv_aload_n (M := mX11_forgetSolved) 0 dX11_forgetSolved_0 1 rfl rfl rfl ?_
  refine mv_get (M := mX11_forgetSolved) (v := .ref 112) dX11_forgetSolved_1 FX11 11 wd418 (by decide) (tl0 hT) rfl rfl 4 rfl ?_
  refine pv_iconst (M := mX11_forgetSolved) (v := 0) dX11_forgetSolved_4 5 rfl (by decide) ?_
  refine iv_put (M := mX11_forgetSolved) (l1 := (-2147483648)) (l2 := 2147483647) dX11_forgetSolved_5 FX5 1 wd373 (by decide) rfl (tl112 hT) rfl rfl rfl I rfl (by decide) (by decide) 8 rfl (fun m1 e4 I2 => ?_)
  have K3 := Kp.set e4 (by first | rfl | decide)
  refine pv_aload_n (M := mX11_forgetSolved) 0 dX11_forgetSolved_8 9 rfl rfl rfl ?_
  refine mv_get (M := mX11_forgetSolved) (v := .null) dX11_forgetSolved_9 FX11 12 wd419 (by decide) (tl0 hT) rfl hc0 12 rfl ?_
  refine pv_ifnullN (M := mX11_forgetSolved) (tgt := 23) dX11_forgetSolved_12 (by decide) ?_
  exact pv_vret (M := mX11_forgetSolved) dX11_forgetSolved_23 rfl ⟨_, _, rfl, rfl, I2, K3, trivial⟩

set_option maxHeartbeats 2000000 in
set_option maxRecDepth 20000 in
theorem s_X11_forgetSolved_vc (g : pv_G) {T : List mv_T} {m : Nat → Nat → Int32} {n : Nat → Nat → Int64} {r : Nat → Value} {la lb : Nat} (hT : TX T) (I : IV BB m) (R : RX T r la lb) (hC : TC T) (hc2 : r 2 = .ref 169) : PM g mX11_forgetSolved yX11_forgetSolved (sqV T BB wN r m (fun m' => True)) 1 0 0 [.ref 0] (mk T m n r) := by
  have Kp : fr wN m m := fr.rf
  have R0 := R
  have zR := R.2.2.2.2.1.1
  have zR2 := R.2.2.2.2.2.1
  have hc20 := hc2
  refine PM.of 0 (lo := [.ref 0]) rfl (by decide) rfl rfl (Nat.le_of_ble_eq_true rfl) ?_
  refine pv_aload_n (M := mX11_forgetSolved) 0 dX11_forgetSolved_0 1 rfl rfl rfl ?_
  refine mv_get (M := mX11_forgetSolved) (v := .ref 112) dX11_forgetSolved_1 FX11 11 wd418 (by decide) (tl0 hT) rfl rfl 4 rfl ?_
  refine pv_iconst (M := mX11_forgetSolved) (v := 0) dX11_forgetSolved_4 5 rfl (by decide) ?_
  refine iv_put (M := mX11_forgetSolved) (l1 := (-2147483648)) (l2 := 2147483647) dX11_forgetSolved_5 FX5 1 wd373 (by decide) rfl (tl112 hT) rfl rfl rfl I rfl (by decide) (by decide) 8 rfl (fun m1 e4 I2 => ?_)
  have K3 := Kp.set e4 (by first | rfl | decide)
  refine pv_aload_n (M := mX11_forgetSolved) 0 dX11_forgetSolved_8 9 rfl rfl rfl ?_
  refine mv_get (M := mX11_forgetSolved) (v := .ref 169) dX11_forgetSolved_9 FX11 12 wd419 (by decide) (tl0 hT) rfl hc2 12 rfl ?_
  refine pv_ifnull (M := mX11_forgetSolved) dX11_forgetSolved_12 15 rfl ?_
  refine pv_aload_n (M := mX11_forgetSolved) 0 dX11_forgetSolved_15 16 rfl rfl rfl ?_
  refine mv_get (M := mX11_forgetSolved) (v := .ref 169) dX11_forgetSolved_16 FX11 12 wd419 (by decide) (tl0 hT) rfl hc2 19 rfl ?_
  refine pv_iconst (M := mX11_forgetSolved) (v := 0) dX11_forgetSolved_19 20 rfl (by decide) ?_
  refine iv_put (M := mX11_forgetSolved) (l1 := (-2147483648)) (l2 := 2147483647) dX11_forgetSolved_20 FX3 1 wd982 (by decide) rfl (tc169 hC) rfl rfl rfl I2 rfl (by decide) (by decide) 23 rfl (fun m5 e8 I6 => ?_)
  have K7 := K3.set e8 (by first | rfl | decide)
  exact pv_vret (M := mX11_forgetSolved) dX11_forgetSolved_23 rfl ⟨_, _, rfl, rfl, I6, K7, trivial⟩
