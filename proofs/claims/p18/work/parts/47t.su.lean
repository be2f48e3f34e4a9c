set_option maxHeartbeats 2000000 in
set_option maxRecDepth 20000 in
theorem s_X11_shortest_vce (g : pv_G) {T : List mv_T} {m : Nat → Nat → Int32} {n : Nat → Nat → Int64} {r : Nat → Value} {la lb : Nat} (hT : TX T) (I : IV BB m) (R : RX T r la lb) (hC : TC T) (hc2 : r 2 = .ref 169) (x0 : Int32) (x1 : Int32) (hp0 : CCH m) : PM g mX11_shortest yX11_shortest (sqIr T BB wF rn r m (-2147483648) 2147483647 (fun m' r' v => CCH m')) 6 0 0 [.ref 0, .int x0, .int x1] (mk T m n r) := by
  have Kp : fr wF m m := fr.rf
  have R0 := R
  have zR := R.2.2.2.2.1.1
  have zR2 := R.2.2.2.2.2.1
  have hc20 := hc2
  refine PM.of 2 (lo := [.ref 0, .int x0, .int x1, pv_U, pv_U]) rfl (by decide) rfl rfl (Nat.le_of_ble_eq_true rfl) ?_
  refine pv_iload_n (M := mX11_shortest) 2 dX11_shortest_0 1 rfl rfl rfl ?_
  refine pv_iconst (M := mX11_shortest) (v := (-1)) dX11_shortest_1 2 rfl (by decide) ?_
  refine pv_icmp_ge (M := mX11_shortest) (tgt := 7) dX11_shortest_2 5 rfl (by decide) (fun c1 => ?_) (fun c1 => ?_)
  · have c1 := iv_le (X := (-1)) (Y := x1.toInt) c1 (by decide) rfl
    refine pv_aload_n (M := mX11_shortest) 0 dX11_shortest_7 8 rfl rfl rfl ?_
    refine pv_iload_n (M := mX11_shortest) 1 dX11_shortest_8 9 rfl rfl rfl ?_
    refine pv_callv (M := mX11_shortest) (as := [.int x0]) (st := []) (kc2 := 0) (ks2 := 0) dX11_shortest_9 wd959 YX11_refuseCover ⟨wd961, wd38⟩ (mk_get (tl0 hT)) rfl rfl (s_X11_refuseCover g hT I R x0) rfl rfl (Nat.le_of_ble_eq_true rfl) (by decide) rfl rfl 12 rfl (fun rv h1 q2 => ?_)
    obtain ⟨v3, rfl, rfl, pv3, qv3, rv3⟩ := q2
    replace rv3 : RFZ m x0 v3 := rv3
    show PV _ _ _ _ _ _ _ 12 [.ref 0, .int x0, .int x1, pv_U, pv_U] [.int v3] _
    have kr : RFZ m x0 v3 := rv3
    refine pv_istore_n (M := mX11_shortest) 3 (lo2 := [.ref 0, .int x0, .int x1, .int v3, pv_U]) dX11_shortest_12 13 rfl rfl (by decide) rfl rfl ?_
    refine pv_iload_n (M := mX11_shortest) 3 dX11_shortest_13 14 rfl rfl rfl ?_
    refine pv_if_eq (M := mX11_shortest) (tgt := 19) dX11_shortest_14 17 rfl (by decide) (fun c5 => ?_) (fun c5 => ?_)
    · have c5 := iv_eq (X := v3.toInt) (Y := 0) c5 rfl (by decide)
      refine pv_aload_n (M := mX11_shortest) 0 dX11_shortest_19 20 rfl rfl rfl ?_
      refine pv_iload_n (M := mX11_shortest) 1 dX11_shortest_20 21 rfl rfl rfl ?_
      have kO := cOK_mbs (Iff.mp kr (by omega))
      refine pv_callv (M := mX11_shortest) (as := [.int x0]) (st := []) (kc2 := 0) (ks2 := 0) dX11_shortest_21 wd963 YX11_coverFor ⟨wd965, wd39⟩ (mk_get (tl0 hT)) rfl rfl (s_X11_coverFor_ve g hT I R hC hc2 x0 kO.1 kO.2.1 kO.2.2 hp0) rfl rfl (Nat.le_of_ble_eq_true rfl) (by decide) rfl rfl 24 rfl (fun rv h1 q7 => ?_)
      obtain ⟨m8, n9, r12, rfl, rfl, I10, K11, qr12, rm8⟩ := q7
      replace rm8 : m8 169 1 = x0 ∧ SHC m8 x0 (m8 170 1).toInt := rm8
      have or12 := rn.trans (rn.rf hc20) qr12
      have R := RX_rn R qr12
      have zR := R.2.2.2.2.1.1
      have zR2 := R.2.2.2.2.2.1
      have hc2 : r12 2 = .ref 169 := or12.1
      have K11c := K11
      have K11 := Kp.trans (K11.sub WX_wF)
      show PV _ _ _ _ _ _ _ 24 [.ref 0, .int x0, .int x1, .int v3, pv_U] [.ref 169] _
      have kCC := CCH_of rm8
      refine mv_get (M := mX11_shortest) (v := .ref 170) dX11_shortest_24 FX3 0 wd980 (by decide) (tc169 hC) rfl rfl 27 rfl ?_
      refine pv_astore (M := mX11_shortest) (lo2 := [.ref 0, .int x0, .int x1, .int v3, .ref 170]) dX11_shortest_27 29 rfl (by decide) rfl rfl ?_
      refine pv_iload_n (M := mX11_shortest) 2 dX11_shortest_29 30 rfl rfl rfl ?_
      refine pv_iconst (M := mX11_shortest) (v := (-1)) dX11_shortest_30 31 rfl (by decide) ?_
      refine pv_icmp_ne (M := mX11_shortest) (tgt := 42) dX11_shortest_31 34 rfl (by decide) (fun c14 => ?_) (fun c14 => ?_)
      · have c14 := iv_ne (X := x1.toInt) (Y := (-1)) c14 rfl (by decide)
        refine pv_aload (M := mX11_shortest) dX11_shortest_42 44 rfl rfl ?_
        refine pv_iload_n (M := mX11_shortest) 2 dX11_shortest_44 45 rfl rfl rfl ?_
        refine pv_callv (M := mX11_shortest) (as := [.int x1]) (st := []) (kc2 := 0) (ks2 := 0) dX11_shortest_45 wd704 YX8_at ⟨wd705, wd706⟩ (mk_get (tc170 hC)) rfl rfl (s_X8_at g hT I10 170 48 (row170 hC) x1) rfl rfl (Nat.le_of_ble_eq_true rfl) (by decide) rfl rfl 48 rfl (fun rv h1 q15 => ?_)
        obtain ⟨v16, rfl, rfl, pv16, qv16, rv16⟩ := q15
        replace rv16 : v16.toInt = atv m8 170 x1.toInt := rv16
        show PV _ _ _ _ _ _ _ 48 [.ref 0, .int x0, .int x1, .int v3, .ref 170] [.int v16] _
        exact pv_iret (M := mX11_shortest) dX11_shortest_48 rfl rfl ⟨_, _, _, _, rfl, rfl, I10, K11, or12, (iv_rng v16).1, (iv_rng v16).2, (by first | exact hp0 | exact kCC)⟩
      · have c14 := iv_eq (X := x1.toInt) (Y := (-1)) c14 rfl (by decide)
        refine pv_aload (M := mX11_shortest) dX11_shortest_34 36 rfl rfl ?_
        refine iv_get (M := mX11_shortest) (l1 := 0) (l2 := 48) dX11_shortest_36 FX8 1 wd200 (by decide) (tc170 hC) rfl I10 rfl 39 rfl (fun v17 ev17 pv17 qv17 => ?_)
        refine pv_goto (M := mX11_shortest) (tgt := 48) dX11_shortest_39 (by decide) ?_
        exact pv_iret (M := mX11_shortest) dX11_shortest_48 rfl rfl ⟨_, _, _, _, rfl, rfl, I10, K11, or12, (iv_rng v17).1, (iv_rng v17).2, (by first | exact hp0 | exact kCC)⟩
    · have c5 := iv_ne (X := v3.toInt) (Y := 0) c5 rfl (by decide)
      refine pv_iload_n (M := mX11_shortest) 3 dX11_shortest_17 18 rfl rfl rfl ?_
      exact pv_iret (M := mX11_shortest) dX11_shortest_18 rfl rfl ⟨_, _, _, _, rfl, rfl, I, Kp, (rn.rf hc20), (iv_rng v3).1, (iv_rng v3).2, (by first | exact hp0 | exact kCC)⟩
  · have c1 := iv_nle (X := (-1)) (Y := x1.toInt) c1 (by decide) rfl
    refine pv_iconst (M := mX11_shortest) (v := (-1)) dX11_shortest_5 6 rfl (by decide) ?_
    have z18 : ((-1) : Int32).toInt = (-1) := by decide
    exact pv_iret (M := mX11_shortest) dX11_shortest_6 rfl rfl ⟨_, _, _, _, rfl, rfl, I, Kp, (rn.rf hc20), by decide, by decide, (by first | exact hp0 | exact kCC)⟩

set_option maxHeartbeats 2000000 in
set_option maxRecDepth 20000 in
theorem s_X11_shortestMany_vce (g : pv_G) {T : List mv_T} {m : Nat → Nat → Int32} {n : Nat → Nat → Int64} {r : Nat → Value} {la lb : Nat} (hT : TX T) (I : IV BB m) (R : RX T r la lb) (hC : TC T) (hc2 : r 2 = .ref 169) (x0 : Int32) (hp0 : CCH m) : PM g mX11_shortestMany yX11_shortestMany (sqJr T BB wF rn r m (fun m' r' => CCH m')) 6 0 0 [.ref 0, .int x0] (mk T m n r) := by
  have Kp : fr wF m m := fr.rf
  have R0 := R
  have zR := R.2.2.2.2.1.1
  have zR2 := R.2.2.2.2.2.1
  have hc20 := hc2
  refine PM.of 1 (lo := [.ref 0, .int x0, pv_U]) rfl (by decide) rfl rfl (Nat.le_of_ble_eq_true rfl) ?_
  refine pv_aload_n (M := mX11_shortestMany) 0 dX11_shortestMany_0 1 rfl rfl rfl ?_
  refine pv_iload_n (M := mX11_shortestMany) 1 dX11_shortestMany_1 2 rfl rfl rfl ?_
  refine pv_callv (M := mX11_shortestMany) (as := [.int x0]) (st := []) (kc2 := 0) (ks2 := 0) dX11_shortestMany_2 wd959 YX11_refuseCover ⟨wd961, wd38⟩ (mk_get (tl0 hT)) rfl rfl (s_X11_refuseCover g hT I R x0) rfl rfl (Nat.le_of_ble_eq_true rfl) (by decide) rfl rfl 5 rfl (fun rv h1 q1 => ?_)
  obtain ⟨v2, rfl, rfl, pv2, qv2, rv2⟩ := q1
  replace rv2 : RFZ m x0 v2 := rv2
  show PV _ _ _ _ _ _ _ 5 [.ref 0, .int x0, pv_U] [.int v2] _
  have kr : RFZ m x0 v2 := rv2
  refine pv_istore_n (M := mX11_shortestMany) 2 (lo2 := [.ref 0, .int x0, .int v2]) dX11_shortestMany_5 6 rfl rfl (by decide) rfl rfl ?_
  refine pv_iload_n (M := mX11_shortestMany) 2 dX11_shortestMany_6 7 rfl rfl rfl ?_
  refine pv_if_eq (M := mX11_shortestMany) (tgt := 13) dX11_shortestMany_7 10 rfl (by decide) (fun c4 => ?_) (fun c4 => ?_)
  · have c4 := iv_eq (X := v2.toInt) (Y := 0) c4 rfl (by decide)
    refine pv_aload_n (M := mX11_shortestMany) 0 dX11_shortestMany_13 14 rfl rfl rfl ?_
    refine pv_iload_n (M := mX11_shortestMany) 1 dX11_shortestMany_14 15 rfl rfl rfl ?_
    have kO := cOK_mbs (Iff.mp kr (by omega))
    refine pv_callv (M := mX11_shortestMany) (as := [.int x0]) (st := []) (kc2 := 0) (ks2 := 0) dX11_shortestMany_15 wd963 YX11_coverFor ⟨wd965, wd39⟩ (mk_get (tl0 hT)) rfl rfl (s_X11_coverFor_ve g hT I R hC hc2 x0 kO.1 kO.2.1 kO.2.2 hp0) rfl rfl (Nat.le_of_ble_eq_true rfl) (by decide) rfl rfl 18 rfl (fun rv h1 q6 => ?_)
    obtain ⟨m7, n8, r11, rfl, rfl, I9, K10, qr11, rm7⟩ := q6
    replace rm7 : m7 169 1 = x0 ∧ SHC m7 x0 (m7 170 1).toInt := rm7
    have or11 := rn.trans (rn.rf hc20) qr11
    have R := RX_rn R qr11
    have zR := R.2.2.2.2.1.1
    have zR2 := R.2.2.2.2.2.1
    have hc2 : r11 2 = .ref 169 := or11.1
    have K10c := K10
    have K10 := Kp.trans (K10.sub WX_wF)
    show PV _ _ _ _ _ _ _ 18 [.ref 0, .int x0, .int v2] [.ref 169] _
    have kCC := CCH_of rm7
    refine pv_callv (M := mX11_shortestMany) (as := []) (st := []) (kc2 := 0) (ks2 := 0) dX11_shortestMany_18 wd1048 YX3_howMany ⟨wd1049, wd1050⟩ (mk_get (tc169 hC)) rfl rfl (s_X3_howMany g hT I9 hC) rfl rfl (Nat.le_of_ble_eq_true rfl) (by decide) rfl rfl 21 rfl (fun rv h1 q13 => ?_)
    obtain ⟨v14, rfl, rfl⟩ := q13
    show PV _ _ _ _ _ _ _ 21 [.ref 0, .int x0, .int v2] [.long v14] _
    try have kCD : CCH m7 := by first | exact kCC | exact CCH_eq kCC (K10c 169 1 rfl) (K10c 170 1 rfl) (fun a j h1 h2 => K10c a j (wr_out (by omega)))
    exact pv_lret (M := mX11_shortestMany) dX11_shortestMany_21 rfl ⟨_, _, _, _, rfl, rfl, I9, K10, or11, (by first | exact hp0 | exact kCC | exact kCD)⟩
  · have c4 := iv_ne (X := v2.toInt) (Y := 0) c4 rfl (by decide)
    refine pv_iload_n (M := mX11_shortestMany) 2 dX11_shortestMany_10 11 rfl rfl rfl ?_
    refine iv_i2l (M := mX11_shortestMany) dX11_shortestMany_11 12 rfl (fun v16 ev16 => ?_)
    exact pv_lret (M := mX11_shortestMany) dX11_shortestMany_12 rfl ⟨_, _, _, _, rfl, rfl, I, Kp, (rn.rf hc20), (by first | exact hp0 | exact kCC | exact kCD)⟩

set_option maxHeartbeats 2000000 in
set_option maxRecDepth 20000 in
theorem s_X11_shortest_vne (g : pv_G) {T : List mv_T} {m : Nat → Nat → Int32} {n : Nat → Nat → Int64} {r : Nat → Value} {la lb : Nat} (hT : TX T) (I : IV BB m) (R : RX T r la lb) (hTL : T = TL) (hc0 : r 2 = .null) (x0 : Int32) (x1 : Int32) (hp0 : -1 ≤ x1.toInt) (hp1 : cOK m x0) : PM g mX11_shortest yX11_shortest (sqIr TL2 BB wF rn r m (-2147483648) 2147483647 (fun m' r' v => CCH m')) 6 11 57200 [.ref 0, .int x0, .int x1] (mk T m n r) := by
  have Kp : fr wF m m := fr.rf
  have R0 := R
  have zR := R.2.2.2.2.1.1
  have zR2 := R.2.2.2.2.2.1
  refine PM.of 2 (lo := [.ref 0, .int x0, .int x1, pv_U, pv_U]) rfl (by decide) rfl rfl (Nat.le_of_ble_eq_true rfl) ?_
  refine pv_iload_n (M := mX11_shortest) 2 dX11_shortest_0 1 rfl rfl rfl ?_
  refine pv_iconst (M := mX11_shortest) (v := (-1)) dX11_shortest_1 2 rfl (by decide) ?_
  refine pv_icmp_ge (M := mX11_shortest) (tgt := 7) dX11_shortest_2 5 rfl (by decide) (fun c1 => ?_) (fun c1 => ?_)
  · have c1 := iv_le (X := (-1)) (Y := x1.toInt) c1 (by decide) rfl
    refine pv_aload_n (M := mX11_shortest) 0 dX11_shortest_7 8 rfl rfl rfl ?_
    refine pv_iload_n (M := mX11_shortest) 1 dX11_shortest_8 9 rfl rfl rfl ?_
    refine pv_callv (M := mX11_shortest) (as := [.int x0]) (st := []) (kc2 := 11) (ks2 := 57200) dX11_shortest_9 wd959 YX11_refuseCover ⟨wd961, wd38⟩ (mk_get (tl0 hT)) rfl rfl (s_X11_refuseCover g hT I R x0) rfl rfl (Nat.le_of_ble_eq_true rfl) (by decide) rfl rfl 12 rfl (fun rv h1 q2 => ?_)
    obtain ⟨v3, rfl, rfl, pv3, qv3, rv3⟩ := q2
    replace rv3 : RFZ m x0 v3 := rv3
    show PV _ _ _ _ _ _ _ 12 [.ref 0, .int x0, .int x1, pv_U, pv_U] [.int v3] _
    have kr : RFZ m x0 v3 := rv3
    refine pv_istore_n (M := mX11_shortest) 3 (lo2 := [.ref 0, .int x0, .int x1, .int v3, pv_U]) dX11_shortest_12 13 rfl rfl (by decide) rfl rfl ?_
    refine pv_iload_n (M := mX11_shortest) 3 dX11_shortest_13 14 rfl rfl rfl ?_
    refine pv_if_eq (M := mX11_shortest) (tgt := 19) dX11_shortest_14 17 rfl (by decide) (fun c5 => ?_) (fun c5 => ?_)
    · have c5 := iv_eq (X := v3.toInt) (Y := 0) c5 rfl (by decide)
      refine pv_aload_n (M := mX11_shortest) 0 dX11_shortest_19 20 rfl rfl rfl ?_
      refine pv_iload_n (M := mX11_shortest) 1 dX11_shortest_20 21 rfl rfl rfl ?_
      have kO := cOK_mbs hp1
      refine pv_callv (M := mX11_shortest) (as := [.int x0]) (st := []) (kc2 := 0) (ks2 := 0) dX11_shortest_21 wd963 YX11_coverFor ⟨wd965, wd39⟩ (mk_get (tl0 hT)) rfl rfl (k_coverFor_ne g hTL I R hc0 x0 kO.1 kO.2.1 kO.2.2) rfl rfl (Nat.le_of_ble_eq_true rfl) (by decide) rfl rfl 24 rfl (fun rv h1 q7 => ?_)
      generalize hG : TL2 = T2 at q7 ⊢
      obtain ⟨m8, n9, r12, rfl, rfl, I10, K11, or12, kCv⟩ := q7
      have hC : TC T2 := hG.symm
      have hT : TX T2 := TC_TX hC
      have hc2 := or12.1
      have R := RX_rnT R or12
      rw [hG] at R
      have zR := R.2.2.2.2.1.1
      have zR2 := R.2.2.2.2.2.1
      have K11 := Kp.trans (K11.sub WX_wF)
      show PV _ _ _ _ _ _ _ 24 [.ref 0, .int x0, .int x1, .int v3, pv_U] [.ref 169] _
      have kCC := CCH_of kCv
      refine mv_get (M := mX11_shortest) (v := .ref 170) dX11_shortest_24 FX3 0 wd980 (by decide) (tc169 hC) rfl rfl 27 rfl ?_
      refine pv_astore (M := mX11_shortest) (lo2 := [.ref 0, .int x0, .int x1, .int v3, .ref 170]) dX11_shortest_27 29 rfl (by decide) rfl rfl ?_
      refine pv_iload_n (M := mX11_shortest) 2 dX11_shortest_29 30 rfl rfl rfl ?_
      refine pv_iconst (M := mX11_shortest) (v := (-1)) dX11_shortest_30 31 rfl (by decide) ?_
      refine pv_icmp_ne (M := mX11_shortest) (tgt := 42) dX11_shortest_31 34 rfl (by decide) (fun c14 => ?_) (fun c14 => ?_)
      · have c14 := iv_ne (X := x1.toInt) (Y := (-1)) c14 rfl (by decide)
        refine pv_aload (M := mX11_shortest) dX11_shortest_42 44 rfl rfl ?_
        refine pv_iload_n (M := mX11_shortest) 2 dX11_shortest_44 45 rfl rfl rfl ?_
        refine pv_callv (M := mX11_shortest) (as := [.int x1]) (st := []) (kc2 := 0) (ks2 := 0) dX11_shortest_45 wd704 YX8_at ⟨wd705, wd706⟩ (mk_get (tc170 hC)) rfl rfl (s_X8_at g hT I10 170 48 (row170 hC) x1) rfl rfl (Nat.le_of_ble_eq_true rfl) (by decide) rfl rfl 48 rfl (fun rv h1 q15 => ?_)
        obtain ⟨v16, rfl, rfl, pv16, qv16, rv16⟩ := q15
        replace rv16 : v16.toInt = atv m8 170 x1.toInt := rv16
        show PV _ _ _ _ _ _ _ 48 [.ref 0, .int x0, .int x1, .int v3, .ref 170] [.int v16] _
        exact pv_iret (M := mX11_shortest) dX11_shortest_48 rfl rfl ⟨_, _, _, _, rfl, rfl, I10, K11, or12, (iv_rng v16).1, (iv_rng v16).2, kCC⟩
      · have c14 := iv_eq (X := x1.toInt) (Y := (-1)) c14 rfl (by decide)
        refine pv_aload (M := mX11_shortest) dX11_shortest_34 36 rfl rfl ?_
        refine iv_get (M := mX11_shortest) (l1 := 0) (l2 := 48) dX11_shortest_36 FX8 1 wd200 (by decide) (tc170 hC) rfl I10 rfl 39 rfl (fun v17 ev17 pv17 qv17 => ?_)
        refine pv_goto (M := mX11_shortest) (tgt := 48) dX11_shortest_39 (by decide) ?_
        exact pv_iret (M := mX11_shortest) dX11_shortest_48 rfl rfl ⟨_, _, _, _, rfl, rfl, I10, K11, or12, (iv_rng v17).1, (iv_rng v17).2, kCC⟩
    · have c5 := iv_ne (X := v3.toInt) (Y := 0) c5 rfl (by decide)
      exact absurd (Iff.mpr kr hp1) (by omega)
  · have c1 := iv_nle (X := (-1)) (Y := x1.toInt) c1 (by decide) rfl
    omega

set_option maxHeartbeats 2000000 in
set_option maxRecDepth 20000 in
theorem s_X11_shortestMany_vne (g : pv_G) {T : List mv_T} {m : Nat → Nat → Int32} {n : Nat → Nat → Int64} {r : Nat → Value} {la lb : Nat} (hT : TX T) (I : IV BB m) (R : RX T r la lb) (hTL : T = TL) (hc0 : r 2 = .null) (x0 : Int32) (hp0 : cOK m x0) : PM g mX11_shortestMany yX11_shortestMany (sqJr TL2 BB wF rn r m (fun m' r' => CCH m')) 6 11 57200 [.ref 0, .int x0] (mk T m n r) := by
  have Kp : fr wF m m := fr.rf
  have R0 := R
  have zR := R.2.2.2.2.1.1
  have zR2 := R.2.2.2.2.2.1
  refine PM.of 1 (lo := [.ref 0, .int x0, pv_U]) rfl (by decide) rfl rfl (Nat.le_of_ble_eq_true rfl) ?_
  refine pv_aload_n (M := mX11_shortestMany) 0 dX11_shortestMany_0 1 rfl rfl rfl ?_
  refine pv_iload_n (M := mX11_shortestMany) 1 dX11_shortestMany_1 2 rfl rfl rfl ?_
  refine pv_callv (M := mX11_shortestMany) (as := [.int x0]) (st := []) (kc2 := 11) (ks2 := 57200) dX11_shortestMany_2 wd959 YX11_refuseCover ⟨wd961, wd38⟩ (mk_get (tl0 hT)) rfl rfl (s_X11_refuseCover g hT I R x0) rfl rfl (Nat.le_of_ble_eq_true rfl) (by decide) rfl rfl 5 rfl (fun rv h1 q1 => ?_)
  obtain ⟨v2, rfl, rfl, pv2, qv2, rv2⟩ := q1
  replace rv2 : RFZ m x0 v2 := rv2
  show PV _ _ _ _ _ _ _ 5 [.ref 0, .int x0, pv_U] [.int v2] _
  have kr : RFZ m x0 v2 := rv2
  refine pv_istore_n (M := mX11_shortestMany) 2 (lo2 := [.ref 0, .int x0, .int v2]) dX11_shortestMany_5 6 rfl rfl (by decide) rfl rfl ?_
  refine pv_iload_n (M := mX11_shortestMany) 2 dX11_shortestMany_6 7 rfl rfl rfl ?_
  refine pv_if_eq (M := mX11_shortestMany) (tgt := 13) dX11_shortestMany_7 10 rfl (by decide) (fun c4 => ?_) (fun c4 => ?_)
  · have c4 := iv_eq (X := v2.toInt) (Y := 0) c4 rfl (by decide)
    refine pv_aload_n (M := mX11_shortestMany) 0 dX11_shortestMany_13 14 rfl rfl rfl ?_
    refine pv_iload_n (M := mX11_shortestMany) 1 dX11_shortestMany_14 15 rfl rfl rfl ?_
    have kO := cOK_mbs hp0
    refine pv_callv (M := mX11_shortestMany) (as := [.int x0]) (st := []) (kc2 := 0) (ks2 := 0) dX11_shortestMany_15 wd963 YX11_coverFor ⟨wd965, wd39⟩ (mk_get (tl0 hT)) rfl rfl (k_coverFor_ne g hTL I R hc0 x0 kO.1 kO.2.1 kO.2.2) rfl rfl (Nat.le_of_ble_eq_true rfl) (by decide) rfl rfl 18 rfl (fun rv h1 q6 => ?_)
    generalize hG : TL2 = T2 at q6 ⊢
    obtain ⟨m7, n8, r11, rfl, rfl, I9, K10, or11, kCv⟩ := q6
    have hC : TC T2 := hG.symm
    have hT : TX T2 := TC_TX hC
    have hc2 := or11.1
    have R := RX_rnT R or11
    rw [hG] at R
    have zR := R.2.2.2.2.1.1
    have zR2 := R.2.2.2.2.2.1
    have K10 := Kp.trans (K10.sub WX_wF)
    show PV _ _ _ _ _ _ _ 18 [.ref 0, .int x0, .int v2] [.ref 169] _
    have kCC := CCH_of kCv
    refine pv_callv (M := mX11_shortestMany) (as := []) (st := []) (kc2 := 0) (ks2 := 0) dX11_shortestMany_18 wd1048 YX3_howMany ⟨wd1049, wd1050⟩ (mk_get (tc169 hC)) rfl rfl (s_X3_howMany g hT I9 hC) rfl rfl (Nat.le_of_ble_eq_true rfl) (by decide) rfl rfl 21 rfl (fun rv h1 q13 => ?_)
    obtain ⟨v14, rfl, rfl⟩ := q13
    show PV _ _ _ _ _ _ _ 21 [.ref 0, .int x0, .int v2] [.long v14] _
    try have kCD : CCH m7 := by first | exact kCC | exact CCH_eq kCC (noE 169 1 rfl) (noE 170 1 rfl) (fun a j h1 h2 => noE a j (wr_out (by omega)))
    exact pv_lret (M := mX11_shortestMany) dX11_shortestMany_21 rfl ⟨_, _, _, _, rfl, rfl, I9, K10, or11, (by first | exact kCC | exact kCD)⟩
  · have c4 := iv_ne (X := v2.toInt) (Y := 0) c4 rfl (by decide)
    exact absurd (Iff.mpr kr hp0) (by omega)

set_option maxHeartbeats 2000000 in
set_option maxRecDepth 20000 in
theorem s_X11_bound_vre (g : pv_G) {T : List mv_T} {m : Nat → Nat → Int32} {n : Nat → Nat → Int64} {r : Nat → Value} {la lb : Nat} (hT : TX T) (I : IV BB m) (R : RX T r la lb) (x0 : Int32) (hp0 : cOK m x0 → (∀ i j : Nat, i < j → j < 8 → (amv x0 (Int32.ofInt i)).toInt = 0 ∨ (amv x0 (Int32.ofInt j)).toInt = 0)) : PM g mX11_bound yX11_bound (sqP (mk T m n r) (-2147483648) 2147483647 (fun v => BDV (G1 m x0) (G2 m x0) (SHC m) x0 v.toInt)) 5 0 0 [.ref 0, .int x0] (mk T m n r) := by
  have Kp : fr (wl []) m m := fr.rf
  have R0 := R
  have zR := R.2.2.2.2.1.1
  have zR2 := R.2.2.2.2.2.1
  refine PM.of 4 (lo := [.ref 0, .int x0, pv_U, pv_U, pv_U, pv_U]) rfl (by decide) rfl rfl (Nat.le_of_ble_eq_true rfl) ?_
  refine pv_aload_n (M := mX11_bound) 0 dX11_bound_0 1 rfl rfl rfl ?_
  refine pv_iload_n (M := mX11_bound) 1 dX11_bound_1 2 rfl rfl rfl ?_
  refine pv_callv (M := mX11_bound) (as := [.int x0]) (st := []) (kc2 := 0) (ks2 := 0) dX11_bound_2 wd959 YX11_refuseCover ⟨wd961, wd38⟩ (mk_get (tl0 hT)) rfl rfl (s_X11_refuseCover_ve g hT I R x0) rfl rfl (Nat.le_of_ble_eq_true rfl) (by decide) rfl rfl 5 rfl (fun rv h1 q1 => ?_)
  obtain ⟨v2, rfl, rfl, pv2, qv2, rv2⟩ := q1
  replace rv2 : RFV m x0 v2.toInt := rv2
  show PV _ _ _ _ _ _ _ 5 [.ref 0, .int x0, pv_U, pv_U, pv_U, pv_U] [.int v2] _
  have ke := rv2
  have kr : RFZ m x0 v2 := RFV_Z ke
  refine pv_istore_n (M := mX11_bound) 2 (lo2 := [.ref 0, .int x0, .int v2, pv_U, pv_U, pv_U]) dX11_bound_5 6 rfl rfl (by decide) rfl rfl ?_
  refine pv_iload_n (M := mX11_bound) 2 dX11_bound_6 7 rfl rfl rfl ?_
  refine pv_if_eq (M := mX11_bound) (tgt := 12) dX11_bound_7 10 rfl (by decide) (fun c5 => ?_) (fun c5 => ?_)
  · have c5 := iv_eq (X := v2.toInt) (Y := 0) c5 rfl (by decide)
    refine pv_iconst (M := mX11_bound) (v := 0) dX11_bound_12 13 rfl (by decide) ?_
    refine pv_istore_n (M := mX11_bound) 3 (lo2 := [.ref 0, .int x0, .int v2, .int 0, pv_U, pv_U]) dX11_bound_13 14 rfl rfl (by decide) rfl rfl ?_
    refine pv_iconst (M := mX11_bound) (v := 0) dX11_bound_14 15 rfl (by decide) ?_
    refine pv_istore (M := mX11_bound) (lo2 := [.ref 0, .int x0, .int v2, .int 0, .int 0, pv_U]) dX11_bound_15 17 rfl (by decide) rfl rfl ?_
    have lp13 : ∀ (fuel12 : Nat) (y6 : Int32) (y7 : Int32), (0 ≤ y6.toInt) → (y6.toInt ≤ 0) → (0 ≤ y7.toInt) → (y7.toInt ≤ 8) → (y6.toInt = 0) → ((8 - y7.toInt) : Int).toNat < fuel12 → PV none g mX11_bound (sqP (mk T m n r) (-2147483648) 2147483647 (fun v => BDV (G1 m x0) (G2 m x0) (SHC m) x0 v.toInt)) 5 0 0 17 [.ref 0, .int x0, .int v2, .int y6, .int y7, pv_U] [] (mk T m n r) := by
      intro fuel12
      induction fuel12 with
      | zero => intro y6 y7 b15 b16 b17 b18 b19 z20; omega
      | succ fuel12 ih14 =>
        intro y6 y7 b15 b16 b17 b18 b19 z20
        refine pv_iload (M := mX11_bound) dX11_bound_17 19 rfl rfl ?_
        refine pv_bipush (M := mX11_bound) (v := 8) dX11_bound_19 21 rfl (by decide) ?_
        refine pv_icmp_ge (M := mX11_bound) (tgt := 91) dX11_bound_21 24 rfl (by decide) (fun c21 => ?_) (fun c21 => ?_)
        · have c21 := iv_le (X := 8) (Y := y7.toInt) c21 (by decide) rfl
          refine pv_iload_n (M := mX11_bound) 3 dX11_bound_91 92 rfl rfl rfl ?_
          exact pv_iret (M := mX11_bound) dX11_bound_92 rfl rfl ⟨_, rfl, rfl, (iv_rng y6).1, (iv_rng y6).2, (Or.inr (Or.inr ⟨(cOK_G.mp (Iff.mp kr (by omega))).1, (cOK_G.mp (Iff.mp kr (by omega))).2, (by rw [show y6.toInt = 0 by omega]; exact BMX_none (hp0 (Iff.mp kr (by omega))))⟩))⟩
        · have c21 := iv_nle (X := 8) (Y := y7.toInt) c21 (by decide) rfl
          refine pv_iload (M := mX11_bound) dX11_bound_24 26 rfl rfl ?_
          refine pv_iconst (M := mX11_bound) (v := 1) dX11_bound_26 27 rfl (by decide) ?_
          refine iv_iadd (M := mX11_bound) (X := y7.toInt) (Y := 1) dX11_bound_27 28 rfl rfl (by decide) (by omega) (by omega) (fun v22 ev22 => ?_)
          refine pv_istore (M := mX11_bound) (lo2 := [.ref 0, .int x0, .int v2, .int y6, .int y7, .int v22]) dX11_bound_28 30 rfl (by decide) rfl rfl ?_
          have lp30 : ∀ (fuel29 : Nat) (y23 : Int32) (y24 : Int32), (0 ≤ y23.toInt) → (y23.toInt ≤ 0) → (1 ≤ y24.toInt) → (y24.toInt ≤ 8) → (y7.toInt < y24.toInt) → (y23.toInt = 0) → ((8 - y24.toInt) : Int).toNat < fuel29 → PV none g mX11_bound (sqP (mk T m n r) (-2147483648) 2147483647 (fun v => BDV (G1 m x0) (G2 m x0) (SHC m) x0 v.toInt)) 5 0 0 30 [.ref 0, .int x0, .int v2, .int y23, .int y7, .int y24] [] (mk T m n r) := by
            intro fuel29
            induction fuel29 with
            | zero => intro y23 y24 b32 b33 b34 b35 b36 b37 z38; omega
            | succ fuel29 ih31 =>
              intro y23 y24 b32 b33 b34 b35 b36 b37 z38
              refine pv_iload (M := mX11_bound) dX11_bound_30 32 rfl rfl ?_
              refine pv_bipush (M := mX11_bound) (v := 8) dX11_bound_32 34 rfl (by decide) ?_
              refine pv_icmp_ge (M := mX11_bound) (tgt := 85) dX11_bound_34 37 rfl (by decide) (fun c39 => ?_) (fun c39 => ?_)
              · have c39 := iv_le (X := 8) (Y := y24.toInt) c39 (by decide) rfl
                refine iv_inc (M := mX11_bound) (C := 1) dX11_bound_85 88 rfl rfl (by decide) rfl rfl (by decide) (by omega) (by omega) (fun v40 ev40 => ?_)
                show PV _ _ _ _ _ _ _ 88 [.ref 0, .int x0, .int v2, .int y23, .int v40, .int y24] [] _
                refine pv_goto (M := mX11_bound) (tgt := 17) dX11_bound_88 (by decide) ?_
                refine pv_fg (lo2 := [.ref 0, .int x0, .int v2, .int y23, .int v40, pv_U]) ⟨Or.inr rfl, ⟨Or.inr rfl, ⟨Or.inr rfl, ⟨Or.inr rfl, ⟨Or.inr rfl, ⟨Or.inl rfl, trivial⟩⟩⟩⟩⟩⟩ ?_
                exact ih14 y23 v40 (by first | omega | assumption | exact (iv_rng _).2 | exact (iv_rng _).1 | decide) (by first | omega | assumption | exact (iv_rng _).2 | exact (iv_rng _).1 | decide) (by first | omega | assumption | exact (iv_rng _).2 | exact (iv_rng _).1 | decide) (by first | omega | assumption | exact (iv_rng _).2 | exact (iv_rng _).1 | decide) (by first | omega | assumption | (show y23.toInt = 0; omega) | decide) (by omega)
              · have c39 := iv_nle (X := 8) (Y := y24.toInt) c39 (by decide) rfl
                refine pv_iload_n (M := mX11_bound) 1 dX11_bound_37 38 rfl rfl rfl ?_
                refine pv_iload (M := mX11_bound) dX11_bound_38 40 rfl rfl ?_
                refine pv_calls (M := mX11_bound) (as := [.int x0, .int y7]) (st := []) (kc2 := 0) (ks2 := 0) dX11_bound_40 wd931 YX11_isAmong wd932 (s_X11_isAmong g hT I x0 y7) rfl rfl (Nat.le_of_ble_eq_true rfl) (by decide) rfl rfl 43 rfl (fun rv h1 q41 => ?_)
                obtain ⟨v42, rfl, rfl, pv42, qv42, rv42⟩ := q41
                replace rv42 : v42 = amv x0 y7 := rv42
                show PV _ _ _ _ _ _ _ 43 [.ref 0, .int x0, .int v2, .int y23, .int y7, .int y24] [.int v42] _
                have k43 : (amv x0 (Int32.ofInt (y7.toInt.toNat : Nat))).toInt = v42.toInt := by rw [ofn (by omega), rv42]
                refine pv_if_eq (M := mX11_bound) (tgt := 79) dX11_bound_43 46 rfl (by decide) (fun c44 => ?_) (fun c44 => ?_)
                · have c44 := iv_eq (X := v42.toInt) (Y := 0) c44 rfl (by decide)
                  refine iv_inc (M := mX11_bound) (C := 1) dX11_bound_79 82 rfl rfl (by decide) rfl rfl (by decide) (by omega) (by omega) (fun v45 ev45 => ?_)
                  show PV _ _ _ _ _ _ _ 82 [.ref 0, .int x0, .int v2, .int y23, .int y7, .int v45] [] _
                  refine pv_goto (M := mX11_bound) (tgt := 30) dX11_bound_82 (by decide) ?_
                  exact ih31 y23 v45 (by first | omega | assumption | exact (iv_rng _).2 | exact (iv_rng _).1 | decide) (by first | omega | assumption | exact (iv_rng _).2 | exact (iv_rng _).1 | decide) (by first | omega | assumption | exact (iv_rng _).2 | exact (iv_rng _).1 | decide) (by first | omega | assumption | exact (iv_rng _).2 | exact (iv_rng _).1 | decide) (by first | omega | assumption | (show y7.toInt < v45.toInt; omega) | decide) (by first | omega | assumption | (show y23.toInt = 0; omega) | decide) (by omega)
                · have c44 := iv_ne (X := v42.toInt) (Y := 0) c44 rfl (by decide)
                  refine pv_iload_n (M := mX11_bound) 1 dX11_bound_46 47 rfl rfl rfl ?_
                  refine pv_iload (M := mX11_bound) dX11_bound_47 49 rfl rfl ?_
                  refine pv_calls (M := mX11_bound) (as := [.int x0, .int y24]) (st := []) (kc2 := 0) (ks2 := 0) dX11_bound_49 wd931 YX11_isAmong wd932 (s_X11_isAmong g hT I x0 y24) rfl rfl (Nat.le_of_ble_eq_true rfl) (by decide) rfl rfl 52 rfl (fun rv h1 q46 => ?_)
                  obtain ⟨v47, rfl, rfl, pv47, qv47, rv47⟩ := q46
                  replace rv47 : v47 = amv x0 y24 := rv47
                  show PV _ _ _ _ _ _ _ 52 [.ref 0, .int x0, .int v2, .int y23, .int y7, .int y24] [.int v47] _
                  have k52 : (amv x0 (Int32.ofInt (y24.toInt.toNat : Nat))).toInt = v47.toInt := by rw [ofn (by omega), rv47]
                  refine pv_if_eq (M := mX11_bound) (tgt := 79) dX11_bound_52 55 rfl (by decide) (fun c49 => ?_) (fun c49 => ?_)
                  · have c49 := iv_eq (X := v47.toInt) (Y := 0) c49 rfl (by decide)
                    refine iv_inc (M := mX11_bound) (C := 1) dX11_bound_79 82 rfl rfl (by decide) rfl rfl (by decide) (by omega) (by omega) (fun v50 ev50 => ?_)
                    show PV _ _ _ _ _ _ _ 82 [.ref 0, .int x0, .int v2, .int y23, .int y7, .int v50] [] _
                    refine pv_goto (M := mX11_bound) (tgt := 30) dX11_bound_82 (by decide) ?_
                    exact ih31 y23 v50 (by first | omega | assumption | exact (iv_rng _).2 | exact (iv_rng _).1 | decide) (by first | omega | assumption | exact (iv_rng _).2 | exact (iv_rng _).1 | decide) (by first | omega | assumption | exact (iv_rng _).2 | exact (iv_rng _).1 | decide) (by first | omega | assumption | exact (iv_rng _).2 | exact (iv_rng _).1 | decide) (by first | omega | assumption | (show y7.toInt < v50.toInt; omega) | decide) (by first | omega | assumption | (show y23.toInt = 0; omega) | decide) (by omega)
                  · have c49 := iv_ne (X := v47.toInt) (Y := 0) c49 rfl (by decide)
                    exact absurd (hp0 (Iff.mp kr (by omega)) y7.toInt.toNat y24.toInt.toNat (by omega) (by omega)) (by omega)
          exact lp30 (((8 - v22.toInt) : Int).toNat + 1) y6 v22 (by first | omega | assumption | exact (iv_rng _).2 | exact (iv_rng _).1 | decide) (by first | omega | assumption | exact (iv_rng _).2 | exact (iv_rng _).1 | decide) (by first | omega | assumption | exact (iv_rng _).2 | exact (iv_rng _).1 | decide) (by first | omega | assumption | exact (iv_rng _).2 | exact (iv_rng _).1 | decide) (by first | omega | assumption | (show y7.toInt < v22.toInt; omega) | decide) (by first | omega | assumption | (show y6.toInt = 0; omega) | decide) (by omega)
    have z52 : (0 : Int32).toInt = 0 := by decide
    have z53 : (0 : Int32).toInt = 0 := by decide
    exact lp13 (((8 - 0) : Int).toNat + 1) 0 0 (by first | omega | assumption | exact (iv_rng _).2 | exact (iv_rng _).1 | decide) (by first | omega | assumption | exact (iv_rng _).2 | exact (iv_rng _).1 | decide) (by first | omega | assumption | exact (iv_rng _).2 | exact (iv_rng _).1 | decide) (by first | omega | assumption | exact (iv_rng _).2 | exact (iv_rng _).1 | decide) (by first | omega | assumption | (show 0 = 0; omega) | decide) (by omega)
  · have c5 := iv_ne (X := v2.toInt) (Y := 0) c5 rfl (by decide)
    refine pv_iload_n (M := mX11_bound) 2 dX11_bound_10 11 rfl rfl rfl ?_
    exact pv_iret (M := mX11_bound) dX11_bound_11 rfl rfl ⟨_, rfl, rfl, (iv_rng v2).1, (iv_rng v2).2, (RFV_no ke (by omega))⟩

set_option maxHeartbeats 2000000 in
set_option maxRecDepth 20000 in
theorem s_X11_bound_vs17e (g : pv_G) {T : List mv_T} {m : Nat → Nat → Int32} {n : Nat → Nat → Int64} {r : Nat → Value} {m0 : Nat → Nat → Int32} {r0 : Nat → Value} {la lb : Nat} (hT : TX T) (I : IV BB m) (Kp : fr wF m0 m) (or : rn r0 r) (R : RX T r la lb) (hC : TC T) (hc2 : r 2 = .ref 169) (x0 : Int32) (hp0 : CCH m) (hp1 : G1 m0 x0) (hp2 : G2 m0 x0) (y3 : Int32) (y4 : Int32) (hy4 : 0 ≤ y4.toInt) (hz4 : y4.toInt ≤ 8) (hq0 : BMP (SHC m0) x0 y3.toInt y4.toInt 0) : PV none g mX11_bound (sqIr T BB wF rn r0 m0 (-2147483648) 2147483647 (fun m' r' v => BDV (G1 m0 x0) (G2 m0 x0) (SHC m0) x0 v.toInt ∧ CCH m')) 6 0 0 17 [.ref 0, .int x0, pv_U, .int y3, .int y4, pv_U] [] (mk T m n r) := by
  have R0 := R
  have zR := R.2.2.2.2.1.1
  have zR2 := R.2.2.2.2.2.1
  have hc20 := hc2
  have lp8 : ∀ (fuel7 : Nat) (y1 : Int32) (y2 : Int32) (m3 : Nat → Nat → Int32) (n4 : Nat → Nat → Int64) (r12 : Nat → Value), (0 ≤ y2.toInt) → (y2.toInt ≤ 8) → (BMP (SHC m0) x0 y1.toInt y2.toInt 0) → (CCH m3) → IV BB m3 → fr wF m0 m3 → rn r0 r12 → ((8 - y2.toInt) : Int).toNat < fuel7 → PV none g mX11_bound (sqIr T BB wF rn r0 m0 (-2147483648) 2147483647 (fun m' r' v => BDV (G1 m0 x0) (G2 m0 x0) (SHC m0) x0 v.toInt ∧ CCH m')) 6 0 0 17 [.ref 0, .int x0, pv_U, .int y1, .int y2, pv_U] [] (mk T m3 n4 r12) := by
    intro fuel7
    induction fuel7 with
    | zero => intro y1 y2 m3 n4 r12 b10 b11 b13 b14 I5 K6 or12 z15; omega
    | succ fuel7 ih9 =>
      intro y1 y2 m3 n4 r12 b10 b11 b13 b14 I5 K6 or12 z15
      have hc2 := or12.1
      have R := RX_rn2 R0 or or12
      have zR := R.2.2.2.2.1.1
      have zR2 := R.2.2.2.2.2.1
      have kg17 := (show BMP (SHC m0) x0 y1.toInt y2.toInt 0 by assumption)
      have kgc17 := (show CCH m3 by assumption)
      refine pv_iload (M := mX11_bound) dX11_bound_17 19 rfl rfl ?_
      refine pv_bipush (M := mX11_bound) (v := 8) dX11_bound_19 21 rfl (by decide) ?_
      refine pv_icmp_ge (M := mX11_bound) (tgt := 91) dX11_bound_21 24 rfl (by decide) (fun c18 => ?_) (fun c18 => ?_)
      · have c18 := iv_le (X := 8) (Y := y2.toInt) c18 (by decide) rfl
        refine pv_iload_n (M := mX11_bound) 3 dX11_bound_91 92 rfl rfl rfl ?_
        exact pv_iret (M := mX11_bound) dX11_bound_92 rfl rfl ⟨_, _, _, _, rfl, rfl, I5, K6, or12, (iv_rng y1).1, (iv_rng y1).2, ⟨Or.inr (Or.inr ⟨hp1, hp2, BMP_end kg17 (by omega)⟩), kgc17⟩⟩
      · have c18 := iv_nle (X := 8) (Y := y2.toInt) c18 (by decide) rfl
        refine pv_iload (M := mX11_bound) dX11_bound_24 26 rfl rfl ?_
        refine pv_iconst (M := mX11_bound) (v := 1) dX11_bound_26 27 rfl (by decide) ?_
        refine iv_iadd (M := mX11_bound) (X := y2.toInt) (Y := 1) dX11_bound_27 28 rfl rfl (by decide) (by omega) (by omega) (fun v19 ev19 => ?_)
        refine pv_istore (M := mX11_bound) (lo2 := [.ref 0, .int x0, pv_U, .int y1, .int y2, .int v19]) dX11_bound_28 30 rfl (by decide) rfl rfl ?_
        have lp27 : ∀ (fuel26 : Nat) (y20 : Int32) (y21 : Int32) (m22 : Nat → Nat → Int32) (n23 : Nat → Nat → Int64) (r31 : Nat → Value), (1 ≤ y21.toInt) → (y21.toInt ≤ 8) → (y2.toInt < y21.toInt) → (BMP (SHC m0) x0 y20.toInt y2.toInt y21.toInt) → (CCH m22) → IV BB m22 → fr wF m0 m22 → rn r0 r31 → ((8 - y21.toInt) : Int).toNat < fuel26 → PV none g mX11_bound (sqIr T BB wF rn r0 m0 (-2147483648) 2147483647 (fun m' r' v => BDV (G1 m0 x0) (G2 m0 x0) (SHC m0) x0 v.toInt ∧ CCH m')) 6 0 0 30 [.ref 0, .int x0, pv_U, .int y20, .int y2, .int y21] [] (mk T m22 n23 r31) := by
          intro fuel26
          induction fuel26 with
          | zero => intro y20 y21 m22 n23 r31 b29 b30 b32 b33 b34 I24 K25 or31 z35; omega
          | succ fuel26 ih28 =>
            intro y20 y21 m22 n23 r31 b29 b30 b32 b33 b34 I24 K25 or31 z35
            have hc2 := or31.1
            have R := RX_rn2 R0 or or31
            have zR := R.2.2.2.2.1.1
            have zR2 := R.2.2.2.2.2.1
            have kg30 := (show BMP (SHC m0) x0 y20.toInt y2.toInt y21.toInt by assumption)
            have kgc30 := (show CCH m22 by assumption)
            refine pv_iload (M := mX11_bound) dX11_bound_30 32 rfl rfl ?_
            refine pv_bipush (M := mX11_bound) (v := 8) dX11_bound_32 34 rfl (by decide) ?_
            refine pv_icmp_ge (M := mX11_bound) (tgt := 85) dX11_bound_34 37 rfl (by decide) (fun c38 => ?_) (fun c38 => ?_)
            · have c38 := iv_le (X := 8) (Y := y21.toInt) c38 (by decide) rfl
              refine iv_inc (M := mX11_bound) (C := 1) dX11_bound_85 88 rfl rfl (by decide) rfl rfl (by decide) (by omega) (by omega) (fun v39 ev39 => ?_)
              show PV _ _ _ _ _ _ _ 88 [.ref 0, .int x0, pv_U, .int y20, .int v39, .int y21] [] _
              refine pv_goto (M := mX11_bound) (tgt := 17) dX11_bound_88 (by decide) ?_
              refine pv_fg (lo2 := [.ref 0, .int x0, pv_U, .int y20, .int v39, pv_U]) ⟨Or.inr rfl, ⟨Or.inr rfl, ⟨Or.inl rfl, ⟨Or.inr rfl, ⟨Or.inr rfl, ⟨Or.inl rfl, trivial⟩⟩⟩⟩⟩⟩ ?_
              have kbm17 : BMP (SHC m0) x0 y20.toInt v39.toInt 0 := BMP_row kg30 (by omega) (by omega)
              have kbc17 := kgc30
              exact ih9 y20 v39 m22 n23 r31 (by first | omega | assumption | exact (iv_rng _).2 | exact (iv_rng _).1 | decide) (by first | omega | assumption | exact (iv_rng _).2 | exact (iv_rng _).1 | decide) kbm17 kbc17 I24 K25 or31 (by omega)
            · have c38 := iv_nle (X := 8) (Y := y21.toInt) c38 (by decide) rfl
              refine pv_iload_n (M := mX11_bound) 1 dX11_bound_37 38 rfl rfl rfl ?_
              refine pv_iload (M := mX11_bound) dX11_bound_38 40 rfl rfl ?_
              refine pv_calls (M := mX11_bound) (as := [.int x0, .int y2]) (st := []) (kc2 := 0) (ks2 := 0) dX11_bound_40 wd931 YX11_isAmong wd932 (s_X11_isAmong g hT I24 x0 y2) rfl rfl (Nat.le_of_ble_eq_true rfl) (by decide) rfl rfl 43 rfl (fun rv h1 q42 => ?_)
              obtain ⟨v43, rfl, rfl, pv43, qv43, rv43⟩ := q42
              replace rv43 : v43 = amv x0 y2 := rv43
              show PV _ _ _ _ _ _ _ 43 [.ref 0, .int x0, pv_U, .int y20, .int y2, .int y21] [.int v43] _
              have k43 : (amv x0 (Int32.ofInt (y2.toInt.toNat : Nat))).toInt = v43.toInt := by rw [ofn (by omega), rv43]
              have k43b : bt x0 y2.toInt = v43.toInt := by rw [← k43, amv_bt, show ((y2.toInt.toNat : Nat) : Int) = y2.toInt by omega]
              refine pv_if_eq (M := mX11_bound) (tgt := 79) dX11_bound_43 46 rfl (by decide) (fun c46 => ?_) (fun c46 => ?_)
              · have c46 := iv_eq (X := v43.toInt) (Y := 0) c46 rfl (by decide)
                refine iv_inc (M := mX11_bound) (C := 1) dX11_bound_79 82 rfl rfl (by decide) rfl rfl (by decide) (by omega) (by omega) (fun v47 ev47 => ?_)
                show PV _ _ _ _ _ _ _ 82 [.ref 0, .int x0, pv_U, .int y20, .int y2, .int v47] [] _
                refine pv_goto (M := mX11_bound) (tgt := 30) dX11_bound_82 (by decide) ?_
                have kbm30 : BMP (SHC m0) x0 y20.toInt y2.toInt v47.toInt := by first | exact BMP_hit kg30 (by omega) (by omega) (by omega) (by omega) (by omega) kSH (by omega) (by omega) | exact BMP_skip kg30 (by omega) (by omega)
                have kbc30 : CCH m22 := by first | exact kCC | exact kgc30
                exact ih28 y20 v47 m22 n23 r31 (by first | omega | assumption | exact (iv_rng _).2 | exact (iv_rng _).1 | decide) (by first | omega | assumption | exact (iv_rng _).2 | exact (iv_rng _).1 | decide) (by first | omega | assumption | (show y2.toInt < v47.toInt; omega) | decide) kbm30 kbc30 I24 K25 or31 (by omega)
              · have c46 := iv_ne (X := v43.toInt) (Y := 0) c46 rfl (by decide)
                refine pv_iload_n (M := mX11_bound) 1 dX11_bound_46 47 rfl rfl rfl ?_
                refine pv_iload (M := mX11_bound) dX11_bound_47 49 rfl rfl ?_
                refine pv_calls (M := mX11_bound) (as := [.int x0, .int y21]) (st := []) (kc2 := 0) (ks2 := 0) dX11_bound_49 wd931 YX11_isAmong wd932 (s_X11_isAmong g hT I24 x0 y21) rfl rfl (Nat.le_of_ble_eq_true rfl) (by decide) rfl rfl 52 rfl (fun rv h1 q50 => ?_)
                obtain ⟨v51, rfl, rfl, pv51, qv51, rv51⟩ := q50
                replace rv51 : v51 = amv x0 y21 := rv51
                show PV _ _ _ _ _ _ _ 52 [.ref 0, .int x0, pv_U, .int y20, .int y2, .int y21] [.int v51] _
                have k52 : (amv x0 (Int32.ofInt (y21.toInt.toNat : Nat))).toInt = v51.toInt := by rw [ofn (by omega), rv51]
                have k52b : bt x0 y21.toInt = v51.toInt := by rw [← k52, amv_bt, show ((y21.toInt.toNat : Nat) : Int) = y21.toInt by omega]
                refine pv_if_eq (M := mX11_bound) (tgt := 79) dX11_bound_52 55 rfl (by decide) (fun c54 => ?_) (fun c54 => ?_)
                · have c54 := iv_eq (X := v51.toInt) (Y := 0) c54 rfl (by decide)
                  refine iv_inc (M := mX11_bound) (C := 1) dX11_bound_79 82 rfl rfl (by decide) rfl rfl (by decide) (by omega) (by omega) (fun v55 ev55 => ?_)
                  show PV _ _ _ _ _ _ _ 82 [.ref 0, .int x0, pv_U, .int y20, .int y2, .int v55] [] _
                  refine pv_goto (M := mX11_bound) (tgt := 30) dX11_bound_82 (by decide) ?_
                  have kbm30 : BMP (SHC m0) x0 y20.toInt y2.toInt v55.toInt := by first | exact BMP_hit kg30 (by omega) (by omega) (by omega) (by omega) (by omega) kSH (by omega) (by omega) | exact BMP_skip kg30 (by omega) (by omega)
                  have kbc30 : CCH m22 := by first | exact kCC | exact kgc30
                  exact ih28 y20 v55 m22 n23 r31 (by first | omega | assumption | exact (iv_rng _).2 | exact (iv_rng _).1 | decide) (by first | omega | assumption | exact (iv_rng _).2 | exact (iv_rng _).1 | decide) (by first | omega | assumption | (show y2.toInt < v55.toInt; omega) | decide) kbm30 kbc30 I24 K25 or31 (by omega)
                · have c54 := iv_ne (X := v51.toInt) (Y := 0) c54 rfl (by decide)
                  refine pv_iload_n (M := mX11_bound) 3 dX11_bound_55 56 rfl rfl rfl ?_
                  refine pv_aload_n (M := mX11_bound) 0 dX11_bound_56 57 rfl rfl rfl ?_
                  refine pv_iconst (M := mX11_bound) (v := 1) dX11_bound_57 58 rfl (by decide) ?_
                  refine pv_iload (M := mX11_bound) dX11_bound_58 60 rfl rfl ?_
                  refine iv_shlU (M := mX11_bound) dX11_bound_60 61 rfl (fun v58 ev58 => ?_)
                  have pv58 : 1 ≤ v58.toInt ∧ v58.toInt ≤ 128 := by rw [ev58]; exact iv_sh17 (by omega) (by omega)
                  have k61 := ev58
                  refine pv_iconst (M := mX11_bound) (v := 1) dX11_bound_61 62 rfl (by decide) ?_
                  refine pv_iload (M := mX11_bound) dX11_bound_62 64 rfl rfl ?_
                  refine iv_shlU (M := mX11_bound) dX11_bound_64 65 rfl (fun v60 ev60 => ?_)
                  have pv60 : 1 ≤ v60.toInt ∧ v60.toInt ≤ 128 := by rw [ev60]; exact iv_sh17 (by omega) (by omega)
                  have k65 := ev60
                  refine iv_orU (M := mX11_bound) dX11_bound_65 66 rfl (fun v62 ev62 => ?_)
                  have pv62 : 0 ≤ v62.toInt ∧ v62.toInt ≤ 255 := by rw [ev62]; exact iv_or8 (by omega) (by omega) (by omega) (by omega)
                  have kpx : v62 = pxy y2.toInt.toNat y21.toInt.toNat := by rw [ev62, k61, k65]; unfold pxy; rw [ofn (by omega), ofn (by omega)]
                  have kpo := pxy_ok (i := y2.toInt.toNat) (j := y21.toInt.toNat) (by omega) (by omega)
                  have kps := pxy_sz (m := m0) (m2 := m22) (x := x0) (i := y2.toInt.toNat) (j := y21.toInt.toNat) (by omega) (by omega) hp2 (by omega) (by omega) (fun a q h => K25 a q (wF_isW h))
                  rw [← kpx] at kpo kps
                  refine pv_callv (M := mX11_bound) (as := [.int v62]) (st := [.int y20]) (kc2 := 0) (ks2 := 0) dX11_bound_66 wd963 YX11_coverFor ⟨wd965, wd39⟩ (mk_get (tl0 hT)) rfl rfl (s_X11_coverFor_ve g hT I24 R hC hc2 v62 kpo.1 kpo.2 kps kgc30) rfl rfl (Nat.le_of_ble_eq_true rfl) (by decide) rfl rfl 69 rfl (fun rv h1 q67 => ?_)
                  obtain ⟨m68, n69, r72, rfl, rfl, I70, K71, qr72, rm68⟩ := q67
                  replace rm68 : m68 169 1 = v62 ∧ SHC m68 v62 (m68 170 1).toInt := rm68
                  have or72 := rn.trans or31 qr72
                  have R := RX_rn R qr72
                  have zR := R.2.2.2.2.1.1
                  have zR2 := R.2.2.2.2.2.1
                  have hc2 : r72 2 = .ref 169 := or72.1
                  have K71c := K71
                  have K71 := K25.trans (K71.sub WX_wF)
                  show PV _ _ _ _ _ _ _ 69 [.ref 0, .int x0, pv_U, .int y20, .int y2, .int y21] [.ref 169, .int y20] _
                  have k69 := rm68
                  have kSH : SHC m0 (pxy y2.toInt.toNat y21.toInt.toNat) (m68 170 1).toInt := by have z := SHC_fr (m := m0) (m2 := m68) (fun a q h => K71 a q (wF_isW h)) k69.2; rw [kpx] at z; exact z
                  have kCC : CCH m68 := CCH_of k69
                  refine mv_get (M := mX11_bound) (v := .ref 170) dX11_bound_69 FX3 0 wd980 (by decide) (tc169 hC) rfl rfl 72 rfl ?_
                  refine iv_get (M := mX11_bound) (l1 := 0) (l2 := 48) dX11_bound_72 FX8 1 wd200 (by decide) (tc170 hC) rfl I70 rfl 75 rfl (fun v76 ev76 pv76 qv76 => ?_)
                  have k75 : v76.toInt = (m68 170 1).toInt := congrArg Int32.toInt ev76
                  refine iv_max (M := mX11_bound) (X := y20.toInt) (Y := v76.toInt) dX11_bound_75 wd883 Wmmax (Nat.le_of_ble_eq_true rfl) (by decide) rfl rfl 78 rfl (fun v78 ev78 fv78 gv78 => ?_)
                  refine pv_istore_n (M := mX11_bound) 3 (lo2 := [.ref 0, .int x0, pv_U, .int v78, .int y2, .int y21]) dX11_bound_78 79 rfl rfl (by decide) rfl rfl ?_
                  refine iv_inc (M := mX11_bound) (C := 1) dX11_bound_79 82 rfl rfl (by decide) rfl rfl (by decide) (by omega) (by omega) (fun v79 ev79 => ?_)
                  show PV _ _ _ _ _ _ _ 82 [.ref 0, .int x0, pv_U, .int v78, .int y2, .int v79] [] _
                  refine pv_goto (M := mX11_bound) (tgt := 30) dX11_bound_82 (by decide) ?_
                  have kbm30 : BMP (SHC m0) x0 v78.toInt y2.toInt v79.toInt := by first | exact BMP_hit kg30 (by omega) (by omega) (by omega) (by omega) (by omega) kSH (by omega) (by omega) | exact BMP_skip kg30 (by omega) (by omega)
                  have kbc30 : CCH m68 := by first | exact kCC | exact kgc30
                  exact ih28 v78 v79 m68 n69 r72 (by first | omega | assumption | exact (iv_rng _).2 | exact (iv_rng _).1 | decide) (by first | omega | assumption | exact (iv_rng _).2 | exact (iv_rng _).1 | decide) (by first | omega | assumption | (show y2.toInt < v79.toInt; omega) | decide) kbm30 kbc30 I70 K71 or72 (by omega)
        exact lp27 (((8 - v19.toInt) : Int).toNat + 1) y1 v19 m3 n4 r12 (by first | omega | assumption | exact (iv_rng _).2 | exact (iv_rng _).1 | decide) (by first | omega | assumption | exact (iv_rng _).2 | exact (iv_rng _).1 | decide) (by first | omega | assumption | (show y2.toInt < v19.toInt; omega) | decide) (BMP_in kg17 (by omega)) kgc17 I5 K6 or12 (by omega)
  exact lp8 (((8 - y4.toInt) : Int).toNat + 1) y3 y4 m n r (by first | omega | assumption | exact (iv_rng _).2 | exact (iv_rng _).1 | decide) (by first | omega | assumption | exact (iv_rng _).2 | exact (iv_rng _).1 | decide) hq0 hp0 I Kp or (by omega)

set_option maxHeartbeats 2000000 in
set_option maxRecDepth 20000 in
theorem s_X11_bound_vs30e (g : pv_G) {T : List mv_T} {m : Nat → Nat → Int32} {n : Nat → Nat → Int64} {r : Nat → Value} {m0 : Nat → Nat → Int32} {r0 : Nat → Value} {la lb : Nat} (hT : TX T) (I : IV BB m) (Kp : fr wF m0 m) (or : rn r0 r) (R : RX T r la lb) (hC : TC T) (hc2 : r 2 = .ref 169) (x0 : Int32) (hp0 : CCH m) (hp1 : G1 m0 x0) (hp2 : G2 m0 x0) (y3 : Int32) (y4 : Int32) (hy4 : 0 ≤ y4.toInt) (hz4 : y4.toInt ≤ 7) (y5 : Int32) (hy5 : 1 ≤ y5.toInt) (hz5 : y5.toInt ≤ 8) (hq0 : BMP (SHC m0) x0 y3.toInt y4.toInt y5.toInt) (hq1 : y4.toInt < y5.toInt) : PV none g mX11_bound (sqIr T BB wF rn r0 m0 (-2147483648) 2147483647 (fun m' r' v => BDV (G1 m0 x0) (G2 m0 x0) (SHC m0) x0 v.toInt ∧ CCH m')) 6 0 0 30 [.ref 0, .int x0, pv_U, .int y3, .int y4, .int y5] [] (mk T m n r) := by
  have R0 := R
  have zR := R.2.2.2.2.1.1
  have zR2 := R.2.2.2.2.2.1
  have hc20 := hc2
  have lp8 : ∀ (fuel7 : Nat) (y1 : Int32) (y2 : Int32) (m3 : Nat → Nat → Int32) (n4 : Nat → Nat → Int64) (r12 : Nat → Value), (1 ≤ y2.toInt) → (y2.toInt ≤ 8) → (y4.toInt < y2.toInt) → (BMP (SHC m0) x0 y1.toInt y4.toInt y2.toInt) → (CCH m3) → IV BB m3 → fr wF m0 m3 → rn r0 r12 → ((8 - y2.toInt) : Int).toNat < fuel7 → PV none g mX11_bound (sqIr T BB wF rn r0 m0 (-2147483648) 2147483647 (fun m' r' v => BDV (G1 m0 x0) (G2 m0 x0) (SHC m0) x0 v.toInt ∧ CCH m')) 6 0 0 30 [.ref 0, .int x0, pv_U, .int y1, .int y4, .int y2] [] (mk T m3 n4 r12) := by
    intro fuel7
    induction fuel7 with
    | zero => intro y1 y2 m3 n4 r12 b10 b11 b13 b14 b15 I5 K6 or12 z16; omega
    | succ fuel7 ih9 =>
      intro y1 y2 m3 n4 r12 b10 b11 b13 b14 b15 I5 K6 or12 z16
      have hc2 := or12.1
      have R := RX_rn2 R0 or or12
      have zR := R.2.2.2.2.1.1
      have zR2 := R.2.2.2.2.2.1
      have kg30 := (show BMP (SHC m0) x0 y1.toInt y4.toInt y2.toInt by assumption)
      have kgc30 := (show CCH m3 by assumption)
      refine pv_iload (M := mX11_bound) dX11_bound_30 32 rfl rfl ?_
      refine pv_bipush (M := mX11_bound) (v := 8) dX11_bound_32 34 rfl (by decide) ?_
      refine pv_icmp_ge (M := mX11_bound) (tgt := 85) dX11_bound_34 37 rfl (by decide) (fun c19 => ?_) (fun c19 => ?_)
      · have c19 := iv_le (X := 8) (Y := y2.toInt) c19 (by decide) rfl
        refine iv_inc (M := mX11_bound) (C := 1) dX11_bound_85 88 rfl rfl (by decide) rfl rfl (by decide) (by omega) (by omega) (fun v20 ev20 => ?_)
        show PV _ _ _ _ _ _ _ 88 [.ref 0, .int x0, pv_U, .int y1, .int v20, .int y2] [] _
        refine pv_goto (M := mX11_bound) (tgt := 17) dX11_bound_88 (by decide) ?_
        exact pv_fg (lo2 := [.ref 0, .int x0, pv_U, .int y1, .int v20, pv_U]) ⟨Or.inr rfl, Or.inr rfl, Or.inr rfl, Or.inr rfl, Or.inr rfl, Or.inl rfl, trivial⟩ (s_X11_bound_vs17e g hT I5 K6 or12 R hC hc2 x0 kgc30 hp1 hp2 y1 v20 (by omega) (by omega) (BMP_row kg30 (by omega) (by omega)))
      · have c19 := iv_nle (X := 8) (Y := y2.toInt) c19 (by decide) rfl
        refine pv_iload_n (M := mX11_bound) 1 dX11_bound_37 38 rfl rfl rfl ?_
        refine pv_iload (M := mX11_bound) dX11_bound_38 40 rfl rfl ?_
        refine pv_calls (M := mX11_bound) (as := [.int x0, .int y4]) (st := []) (kc2 := 0) (ks2 := 0) dX11_bound_40 wd931 YX11_isAmong wd932 (s_X11_isAmong g hT I5 x0 y4) rfl rfl (Nat.le_of_ble_eq_true rfl) (by decide) rfl rfl 43 rfl (fun rv h1 q22 => ?_)
        obtain ⟨v23, rfl, rfl, pv23, qv23, rv23⟩ := q22
        replace rv23 : v23 = amv x0 y4 := rv23
        show PV _ _ _ _ _ _ _ 43 [.ref 0, .int x0, pv_U, .int y1, .int y4, .int y2] [.int v23] _
        have k43 : (amv x0 (Int32.ofInt (y4.toInt.toNat : Nat))).toInt = v23.toInt := by rw [ofn (by omega), rv23]
        have k43b : bt x0 y4.toInt = v23.toInt := by rw [← k43, amv_bt, show ((y4.toInt.toNat : Nat) : Int) = y4.toInt by omega]
        refine pv_if_eq (M := mX11_bound) (tgt := 79) dX11_bound_43 46 rfl (by decide) (fun c26 => ?_) (fun c26 => ?_)
        · have c26 := iv_eq (X := v23.toInt) (Y := 0) c26 rfl (by decide)
          refine iv_inc (M := mX11_bound) (C := 1) dX11_bound_79 82 rfl rfl (by decide) rfl rfl (by decide) (by omega) (by omega) (fun v27 ev27 => ?_)
          show PV _ _ _ _ _ _ _ 82 [.ref 0, .int x0, pv_U, .int y1, .int y4, .int v27] [] _
          refine pv_goto (M := mX11_bound) (tgt := 30) dX11_bound_82 (by decide) ?_
          have kbm30 : BMP (SHC m0) x0 y1.toInt y4.toInt v27.toInt := by first | exact BMP_hit kg30 (by omega) (by omega) (by omega) (by omega) (by omega) kSH (by omega) (by omega) | exact BMP_skip kg30 (by omega) (by omega)
          have kbc30 : CCH m3 := by first | exact kCC | exact kgc30
          exact ih9 y1 v27 m3 n4 r12 (by first | omega | assumption | exact (iv_rng _).2 | exact (iv_rng _).1 | decide) (by first | omega | assumption | exact (iv_rng _).2 | exact (iv_rng _).1 | decide) (by first | omega | assumption | (show y4.toInt < v27.toInt; omega) | decide) kbm30 kbc30 I5 K6 or12 (by omega)
        · have c26 := iv_ne (X := v23.toInt) (Y := 0) c26 rfl (by decide)
          refine pv_iload_n (M := mX11_bound) 1 dX11_bound_46 47 rfl rfl rfl ?_
          refine pv_iload (M := mX11_bound) dX11_bound_47 49 rfl rfl ?_
          refine pv_calls (M := mX11_bound) (as := [.int x0, .int y2]) (st := []) (kc2 := 0) (ks2 := 0) dX11_bound_49 wd931 YX11_isAmong wd932 (s_X11_isAmong g hT I5 x0 y2) rfl rfl (Nat.le_of_ble_eq_true rfl) (by decide) rfl rfl 52 rfl (fun rv h1 q30 => ?_)
          obtain ⟨v31, rfl, rfl, pv31, qv31, rv31⟩ := q30
          replace rv31 : v31 = amv x0 y2 := rv31
          show PV _ _ _ _ _ _ _ 52 [.ref 0, .int x0, pv_U, .int y1, .int y4, .int y2] [.int v31] _
          have k52 : (amv x0 (Int32.ofInt (y2.toInt.toNat : Nat))).toInt = v31.toInt := by rw [ofn (by omega), rv31]
          have k52b : bt x0 y2.toInt = v31.toInt := by rw [← k52, amv_bt, show ((y2.toInt.toNat : Nat) : Int) = y2.toInt by omega]
          refine pv_if_eq (M := mX11_bound) (tgt := 79) dX11_bound_52 55 rfl (by decide) (fun c34 => ?_) (fun c34 => ?_)
          · have c34 := iv_eq (X := v31.toInt) (Y := 0) c34 rfl (by decide)
            refine iv_inc (M := mX11_bound) (C := 1) dX11_bound_79 82 rfl rfl (by decide) rfl rfl (by decide) (by omega) (by omega) (fun v35 ev35 => ?_)
            show PV _ _ _ _ _ _ _ 82 [.ref 0, .int x0, pv_U, .int y1, .int y4, .int v35] [] _
            refine pv_goto (M := mX11_bound) (tgt := 30) dX11_bound_82 (by decide) ?_
            have kbm30 : BMP (SHC m0) x0 y1.toInt y4.toInt v35.toInt := by first | exact BMP_hit kg30 (by omega) (by omega) (by omega) (by omega) (by omega) kSH (by omega) (by omega) | exact BMP_skip kg30 (by omega) (by omega)
            have kbc30 : CCH m3 := by first | exact kCC | exact kgc30
            exact ih9 y1 v35 m3 n4 r12 (by first | omega | assumption | exact (iv_rng _).2 | exact (iv_rng _).1 | decide) (by first | omega | assumption | exact (iv_rng _).2 | exact (iv_rng _).1 | decide) (by first | omega | assumption | (show y4.toInt < v35.toInt; omega) | decide) kbm30 kbc30 I5 K6 or12 (by omega)
          · have c34 := iv_ne (X := v31.toInt) (Y := 0) c34 rfl (by decide)
            refine pv_iload_n (M := mX11_bound) 3 dX11_bound_55 56 rfl rfl rfl ?_
            refine pv_aload_n (M := mX11_bound) 0 dX11_bound_56 57 rfl rfl rfl ?_
            refine pv_iconst (M := mX11_bound) (v := 1) dX11_bound_57 58 rfl (by decide) ?_
            refine pv_iload (M := mX11_bound) dX11_bound_58 60 rfl rfl ?_
            refine iv_shlU (M := mX11_bound) dX11_bound_60 61 rfl (fun v38 ev38 => ?_)
            have pv38 : 1 ≤ v38.toInt ∧ v38.toInt ≤ 128 := by rw [ev38]; exact iv_sh17 (by omega) (by omega)
            have k61 := ev38
            refine pv_iconst (M := mX11_bound) (v := 1) dX11_bound_61 62 rfl (by decide) ?_
            refine pv_iload (M := mX11_bound) dX11_bound_62 64 rfl rfl ?_
            refine iv_shlU (M := mX11_bound) dX11_bound_64 65 rfl (fun v40 ev40 => ?_)
            have pv40 : 1 ≤ v40.toInt ∧ v40.toInt ≤ 128 := by rw [ev40]; exact iv_sh17 (by omega) (by omega)
            have k65 := ev40
            refine iv_orU (M := mX11_bound) dX11_bound_65 66 rfl (fun v42 ev42 => ?_)
            have pv42 : 0 ≤ v42.toInt ∧ v42.toInt ≤ 255 := by rw [ev42]; exact iv_or8 (by omega) (by omega) (by omega) (by omega)
            have kpx : v42 = pxy y4.toInt.toNat y2.toInt.toNat := by rw [ev42, k61, k65]; unfold pxy; rw [ofn (by omega), ofn (by omega)]
            have kpo := pxy_ok (i := y4.toInt.toNat) (j := y2.toInt.toNat) (by omega) (by omega)
            have kps := pxy_sz (m := m0) (m2 := m3) (x := x0) (i := y4.toInt.toNat) (j := y2.toInt.toNat) (by omega) (by omega) hp2 (by omega) (by omega) (fun a q h => K6 a q (wF_isW h))
            rw [← kpx] at kpo kps
            refine pv_callv (M := mX11_bound) (as := [.int v42]) (st := [.int y1]) (kc2 := 0) (ks2 := 0) dX11_bound_66 wd963 YX11_coverFor ⟨wd965, wd39⟩ (mk_get (tl0 hT)) rfl rfl (s_X11_coverFor_ve g hT I5 R hC hc2 v42 kpo.1 kpo.2 kps kgc30) rfl rfl (Nat.le_of_ble_eq_true rfl) (by decide) rfl rfl 69 rfl (fun rv h1 q47 => ?_)
            obtain ⟨m48, n49, r52, rfl, rfl, I50, K51, qr52, rm48⟩ := q47
            replace rm48 : m48 169 1 = v42 ∧ SHC m48 v42 (m48 170 1).toInt := rm48
            have or52 := rn.trans or12 qr52
            have R := RX_rn R qr52
            have zR := R.2.2.2.2.1.1
            have zR2 := R.2.2.2.2.2.1
            have hc2 : r52 2 = .ref 169 := or52.1
            have K51c := K51
            have K51 := K6.trans (K51.sub WX_wF)
            show PV _ _ _ _ _ _ _ 69 [.ref 0, .int x0, pv_U, .int y1, .int y4, .int y2] [.ref 169, .int y1] _
            have k69 := rm48
            have kSH : SHC m0 (pxy y4.toInt.toNat y2.toInt.toNat) (m48 170 1).toInt := by have z := SHC_fr (m := m0) (m2 := m48) (fun a q h => K51 a q (wF_isW h)) k69.2; rw [kpx] at z; exact z
            have kCC : CCH m48 := CCH_of k69
            refine mv_get (M := mX11_bound) (v := .ref 170) dX11_bound_69 FX3 0 wd980 (by decide) (tc169 hC) rfl rfl 72 rfl ?_
            refine iv_get (M := mX11_bound) (l1 := 0) (l2 := 48) dX11_bound_72 FX8 1 wd200 (by decide) (tc170 hC) rfl I50 rfl 75 rfl (fun v56 ev56 pv56 qv56 => ?_)
            have k75 : v56.toInt = (m48 170 1).toInt := congrArg Int32.toInt ev56
            refine iv_max (M := mX11_bound) (X := y1.toInt) (Y := v56.toInt) dX11_bound_75 wd883 Wmmax (Nat.le_of_ble_eq_true rfl) (by decide) rfl rfl 78 rfl (fun v58 ev58 fv58 gv58 => ?_)
            refine pv_istore_n (M := mX11_bound) 3 (lo2 := [.ref 0, .int x0, pv_U, .int v58, .int y4, .int y2]) dX11_bound_78 79 rfl rfl (by decide) rfl rfl ?_
            refine iv_inc (M := mX11_bound) (C := 1) dX11_bound_79 82 rfl rfl (by decide) rfl rfl (by decide) (by omega) (by omega) (fun v59 ev59 => ?_)
            show PV _ _ _ _ _ _ _ 82 [.ref 0, .int x0, pv_U, .int v58, .int y4, .int v59] [] _
            refine pv_goto (M := mX11_bound) (tgt := 30) dX11_bound_82 (by decide) ?_
            have kbm30 : BMP (SHC m0) x0 v58.toInt y4.toInt v59.toInt := by first | exact BMP_hit kg30 (by omega) (by omega) (by omega) (by omega) (by omega) kSH (by omega) (by omega) | exact BMP_skip kg30 (by omega) (by omega)
            have kbc30 : CCH m48 := by first | exact kCC | exact kgc30
            exact ih9 v58 v59 m48 n49 r52 (by first | omega | assumption | exact (iv_rng _).2 | exact (iv_rng _).1 | decide) (by first | omega | assumption | exact (iv_rng _).2 | exact (iv_rng _).1 | decide) (by first | omega | assumption | (show y4.toInt < v59.toInt; omega) | decide) kbm30 kbc30 I50 K51 or52 (by omega)
  exact lp8 (((8 - y5.toInt) : Int).toNat + 1) y3 y5 m n r (by first | omega | assumption | exact (iv_rng _).2 | exact (iv_rng _).1 | decide) (by first | omega | assumption | exact (iv_rng _).2 | exact (iv_rng _).1 | decide) (by first | omega | assumption | (show y4.toInt < y5.toInt; omega) | decide) hq0 hp0 I Kp or (by omega)

set_option maxHeartbeats 2000000 in
set_option maxRecDepth 20000 in
theorem s_X11_bound_vce (g : pv_G) {T : List mv_T} {m : Nat → Nat → Int32} {n : Nat → Nat → Int64} {r : Nat → Value} {la lb : Nat} (hT : TX T) (I : IV BB m) (R : RX T r la lb) (hC : TC T) (hc2 : r 2 = .ref 169) (x0 : Int32) (hp0 : CCH m) : PM g mX11_bound yX11_bound (sqIr T BB wF rn r m (-2147483648) 2147483647 (fun m' r' v => BDV (G1 m x0) (G2 m x0) (SHC m) x0 v.toInt ∧ CCH m')) 6 0 0 [.ref 0, .int x0] (mk T m n r) := by
  have Kp : fr wF m m := fr.rf
  have R0 := R
  have zR := R.2.2.2.2.1.1
  have zR2 := R.2.2.2.2.2.1
  have hc20 := hc2
  refine PM.of 4 (lo := [.ref 0, .int x0, pv_U, pv_U, pv_U, pv_U]) rfl (by decide) rfl rfl (Nat.le_of_ble_eq_true rfl) ?_
  refine pv_aload_n (M := mX11_bound) 0 dX11_bound_0 1 rfl rfl rfl ?_
  refine pv_iload_n (M := mX11_bound) 1 dX11_bound_1 2 rfl rfl rfl ?_
  refine pv_callv (M := mX11_bound) (as := [.int x0]) (st := []) (kc2 := 0) (ks2 := 0) dX11_bound_2 wd959 YX11_refuseCover ⟨wd961, wd38⟩ (mk_get (tl0 hT)) rfl rfl (s_X11_refuseCover_ve g hT I R x0) rfl rfl (Nat.le_of_ble_eq_true rfl) (by decide) rfl rfl 5 rfl (fun rv h1 q1 => ?_)
  obtain ⟨v2, rfl, rfl, pv2, qv2, rv2⟩ := q1
  replace rv2 : RFV m x0 v2.toInt := rv2
  show PV _ _ _ _ _ _ _ 5 [.ref 0, .int x0, pv_U, pv_U, pv_U, pv_U] [.int v2] _
  have ke := rv2
  refine pv_istore_n (M := mX11_bound) 2 (lo2 := [.ref 0, .int x0, .int v2, pv_U, pv_U, pv_U]) dX11_bound_5 6 rfl rfl (by decide) rfl rfl ?_
  refine pv_iload_n (M := mX11_bound) 2 dX11_bound_6 7 rfl rfl rfl ?_
  refine pv_if_eq (M := mX11_bound) (tgt := 12) dX11_bound_7 10 rfl (by decide) (fun c4 => ?_) (fun c4 => ?_)
  · have c4 := iv_eq (X := v2.toInt) (Y := 0) c4 rfl (by decide)
    have kok := RFV_ok ke (by omega)
    refine pv_iconst (M := mX11_bound) (v := 0) dX11_bound_12 13 rfl (by decide) ?_
    refine pv_istore_n (M := mX11_bound) 3 (lo2 := [.ref 0, .int x0, .int v2, .int 0, pv_U, pv_U]) dX11_bound_13 14 rfl rfl (by decide) rfl rfl ?_
    refine pv_iconst (M := mX11_bound) (v := 0) dX11_bound_14 15 rfl (by decide) ?_
    refine pv_istore (M := mX11_bound) (lo2 := [.ref 0, .int x0, .int v2, .int 0, .int 0, pv_U]) dX11_bound_15 17 rfl (by decide) rfl rfl ?_
    exact pv_fg (lo2 := [.ref 0, .int x0, pv_U, .int 0, .int 0, pv_U]) ⟨Or.inr rfl, Or.inr rfl, Or.inl rfl, Or.inr rfl, Or.inr rfl, Or.inr rfl, trivial⟩ (s_X11_bound_vs17e g hT I Kp (rn.rf hc20) R hC hc2 x0 hp0 kok.1 kok.2 0 0 (by decide) (by decide) (by rw [Int32.toInt_zero]; exact BMP_0))
  · have c4 := iv_ne (X := v2.toInt) (Y := 0) c4 rfl (by decide)
    refine pv_iload_n (M := mX11_bound) 2 dX11_bound_10 11 rfl rfl rfl ?_
    exact pv_iret (M := mX11_bound) dX11_bound_11 rfl rfl ⟨_, _, _, _, rfl, rfl, I, Kp, (rn.rf hc20), (iv_rng v2).1, (iv_rng v2).2, ⟨RFV_no ke (by omega), hp0⟩⟩

set_option maxHeartbeats 2000000 in
set_option maxRecDepth 20000 in
theorem s_X11_bound_vne (g : pv_G) {T : List mv_T} {m : Nat → Nat → Int32} {n : Nat → Nat → Int64} {r : Nat → Value} {la lb : Nat} (hT : TX T) (I : IV BB m) (R : RX T r la lb) (hTL : T = TL) (hc0 : r 2 = .null) (x0 : Int32) (hp0 : cOK m x0) (hp1 : ¬ (∀ i j : Nat, i < j → j < 8 → (amv x0 (Int32.ofInt i)).toInt = 0 ∨ (amv x0 (Int32.ofInt j)).toInt = 0)) : PM g mX11_bound yX11_bound (sqIr TL2 BB wF rn r m (-2147483648) 2147483647 (fun m' r' v => BDV (G1 m x0) (G2 m x0) (SHC m) x0 v.toInt ∧ CCH m')) 6 11 57200 [.ref 0, .int x0] (mk T m n r) := by
  have Kp : fr wF m m := fr.rf
  have R0 := R
  have zR := R.2.2.2.2.1.1
  have zR2 := R.2.2.2.2.2.1
  refine PM.of 4 (lo := [.ref 0, .int x0, pv_U, pv_U, pv_U, pv_U]) rfl (by decide) rfl rfl (Nat.le_of_ble_eq_true rfl) ?_
  refine pv_aload_n (M := mX11_bound) 0 dX11_bound_0 1 rfl rfl rfl ?_
  refine pv_iload_n (M := mX11_bound) 1 dX11_bound_1 2 rfl rfl rfl ?_
  refine pv_callv (M := mX11_bound) (as := [.int x0]) (st := []) (kc2 := 11) (ks2 := 57200) dX11_bound_2 wd959 YX11_refuseCover ⟨wd961, wd38⟩ (mk_get (tl0 hT)) rfl rfl (s_X11_refuseCover g hT I R x0) rfl rfl (Nat.le_of_ble_eq_true rfl) (by decide) rfl rfl 5 rfl (fun rv h1 q1 => ?_)
  obtain ⟨v2, rfl, rfl, pv2, qv2, rv2⟩ := q1
  replace rv2 : RFZ m x0 v2 := rv2
  show PV _ _ _ _ _ _ _ 5 [.ref 0, .int x0, pv_U, pv_U, pv_U, pv_U] [.int v2] _
  have kr : RFZ m x0 v2 := rv2
  have kG := cOK_G.mp hp0
  refine pv_istore_n (M := mX11_bound) 2 (lo2 := [.ref 0, .int x0, .int v2, pv_U, pv_U, pv_U]) dX11_bound_5 6 rfl rfl (by decide) rfl rfl ?_
  refine pv_iload_n (M := mX11_bound) 2 dX11_bound_6 7 rfl rfl rfl ?_
  refine pv_if_eq (M := mX11_bound) (tgt := 12) dX11_bound_7 10 rfl (by decide) (fun c5 => ?_) (fun c5 => ?_)
  · have c5 := iv_eq (X := v2.toInt) (Y := 0) c5 rfl (by decide)
    refine pv_iconst (M := mX11_bound) (v := 0) dX11_bound_12 13 rfl (by decide) ?_
    refine pv_istore_n (M := mX11_bound) 3 (lo2 := [.ref 0, .int x0, .int v2, .int 0, pv_U, pv_U]) dX11_bound_13 14 rfl rfl (by decide) rfl rfl ?_
    refine pv_iconst (M := mX11_bound) (v := 0) dX11_bound_14 15 rfl (by decide) ?_
    refine pv_istore (M := mX11_bound) (lo2 := [.ref 0, .int x0, .int v2, .int 0, .int 0, pv_U]) dX11_bound_15 17 rfl (by decide) rfl rfl ?_
    have lp13 : ∀ (fuel12 : Nat) (y6 : Int32) (y7 : Int32) (m8 : Nat → Nat → Int32) (n9 : Nat → Nat → Int64), (0 ≤ y6.toInt) → (y6.toInt ≤ 48) → (0 ≤ y7.toInt) → (y7.toInt ≤ 8) → (∀ i j : Nat, i < j → j < 8 → (i : Int) < y7.toInt → (amv x0 (Int32.ofInt i)).toInt = 0 ∨ (amv x0 (Int32.ofInt j)).toInt = 0) → (BMP (SHC m) x0 y6.toInt y7.toInt 0) → IV BB m8 → fr wF m m8 → ((8 - y7.toInt) : Int).toNat < fuel12 → PV none g mX11_bound (sqIr TL2 BB wF rn r m (-2147483648) 2147483647 (fun m' r' v => BDV (G1 m x0) (G2 m x0) (SHC m) x0 v.toInt ∧ CCH m')) 6 11 57200 17 [.ref 0, .int x0, .int v2, .int y6, .int y7, pv_U] [] (mk T m8 n9 r) := by
      intro fuel12
      induction fuel12 with
      | zero => intro y6 y7 m8 n9 b15 b16 b17 b18 b19 b20 I10 K11 z21; omega
      | succ fuel12 ih14 =>
        intro y6 y7 m8 n9 b15 b16 b17 b18 b19 b20 I10 K11 z21
        have kf17 := (show ∀ i j : Nat, i < j → j < 8 → (i : Int) < y7.toInt → (amv x0 (Int32.ofInt i)).toInt = 0 ∨ (amv x0 (Int32.ofInt j)).toInt = 0 by assumption)
        have kg17 := (show BMP (SHC m) x0 y6.toInt y7.toInt 0 by assumption)
        refine pv_iload (M := mX11_bound) dX11_bound_17 19 rfl rfl ?_
        refine pv_bipush (M := mX11_bound) (v := 8) dX11_bound_19 21 rfl (by decide) ?_
        refine pv_icmp_ge (M := mX11_bound) (tgt := 91) dX11_bound_21 24 rfl (by decide) (fun c24 => ?_) (fun c24 => ?_)
        · have c24 := iv_le (X := 8) (Y := y7.toInt) c24 (by decide) rfl
          exact absurd (fun i j h h8 => kf17 i j h h8 (by omega)) hp1
        · have c24 := iv_nle (X := 8) (Y := y7.toInt) c24 (by decide) rfl
          refine pv_iload (M := mX11_bound) dX11_bound_24 26 rfl rfl ?_
          refine pv_iconst (M := mX11_bound) (v := 1) dX11_bound_26 27 rfl (by decide) ?_
          refine iv_iadd (M := mX11_bound) (X := y7.toInt) (Y := 1) dX11_bound_27 28 rfl rfl (by decide) (by omega) (by omega) (fun v26 ev26 => ?_)
          refine pv_istore (M := mX11_bound) (lo2 := [.ref 0, .int x0, .int v2, .int y6, .int y7, .int v26]) dX11_bound_28 30 rfl (by decide) rfl rfl ?_
          have lp34 : ∀ (fuel33 : Nat) (y27 : Int32) (y28 : Int32) (m29 : Nat → Nat → Int32) (n30 : Nat → Nat → Int64), (0 ≤ y27.toInt) → (y27.toInt ≤ 48) → (1 ≤ y28.toInt) → (y28.toInt ≤ 8) → (y7.toInt < y28.toInt) → (∀ j : Nat, y7.toInt < (j : Int) → (j : Int) < y28.toInt → (amv x0 (Int32.ofInt (y7.toInt.toNat : Nat))).toInt = 0 ∨ (amv x0 (Int32.ofInt j)).toInt = 0) → (BMP (SHC m) x0 y27.toInt y7.toInt y28.toInt) → IV BB m29 → fr wF m m29 → ((8 - y28.toInt) : Int).toNat < fuel33 → PV none g mX11_bound (sqIr TL2 BB wF rn r m (-2147483648) 2147483647 (fun m' r' v => BDV (G1 m x0) (G2 m x0) (SHC m) x0 v.toInt ∧ CCH m')) 6 11 57200 30 [.ref 0, .int x0, .int v2, .int y27, .int y7, .int y28] [] (mk T m29 n30 r) := by
            intro fuel33
            induction fuel33 with
            | zero => intro y27 y28 m29 n30 b36 b37 b38 b39 b40 b41 b42 I31 K32 z43; omega
            | succ fuel33 ih35 =>
              intro y27 y28 m29 n30 b36 b37 b38 b39 b40 b41 b42 I31 K32 z43
              have kf30 := (show ∀ j : Nat, y7.toInt < (j : Int) → (j : Int) < y28.toInt → (amv x0 (Int32.ofInt (y7.toInt.toNat : Nat))).toInt = 0 ∨ (amv x0 (Int32.ofInt j)).toInt = 0 by assumption)
              have kg30 := (show BMP (SHC m) x0 y27.toInt y7.toInt y28.toInt by assumption)
              refine pv_iload (M := mX11_bound) dX11_bound_30 32 rfl rfl ?_
              refine pv_bipush (M := mX11_bound) (v := 8) dX11_bound_32 34 rfl (by decide) ?_
              refine pv_icmp_ge (M := mX11_bound) (tgt := 85) dX11_bound_34 37 rfl (by decide) (fun c46 => ?_) (fun c46 => ?_)
              · have c46 := iv_le (X := 8) (Y := y28.toInt) c46 (by decide) rfl
                refine iv_inc (M := mX11_bound) (C := 1) dX11_bound_85 88 rfl rfl (by decide) rfl rfl (by decide) (by omega) (by omega) (fun v47 ev47 => ?_)
                show PV _ _ _ _ _ _ _ 88 [.ref 0, .int x0, .int v2, .int y27, .int v47, .int y28] [] _
                refine pv_goto (M := mX11_bound) (tgt := 17) dX11_bound_88 (by decide) ?_
                refine pv_fg (lo2 := [.ref 0, .int x0, .int v2, .int y27, .int v47, pv_U]) ⟨Or.inr rfl, ⟨Or.inr rfl, ⟨Or.inr rfl, ⟨Or.inr rfl, ⟨Or.inr rfl, ⟨Or.inl rfl, trivial⟩⟩⟩⟩⟩⟩ ?_
                have kb17 : ∀ i j : Nat, i < j → j < 8 → (i : Int) < v47.toInt → (amv x0 (Int32.ofInt i)).toInt = 0 ∨ (amv x0 (Int32.ofInt j)).toInt = 0 := fun i j h h8 a => if z : (i : Int) = y7.toInt then (by rw [show i = (y7.toInt).toNat by omega]; exact kf30 j (by omega) (by omega)) else kf17 i j h h8 (by omega)
                have kbm17 : BMP (SHC m) x0 y27.toInt v47.toInt 0 := BMP_row kg30 (by omega) (by omega)
                exact ih14 y27 v47 m29 n30 (by first | omega | assumption | exact (iv_rng _).2 | exact (iv_rng _).1 | decide) (by first | omega | assumption | exact (iv_rng _).2 | exact (iv_rng _).1 | decide) (by first | omega | assumption | exact (iv_rng _).2 | exact (iv_rng _).1 | decide) (by first | omega | assumption | exact (iv_rng _).2 | exact (iv_rng _).1 | decide) kb17 kbm17 I31 K32 (by omega)
              · have c46 := iv_nle (X := 8) (Y := y28.toInt) c46 (by decide) rfl
                refine pv_iload_n (M := mX11_bound) 1 dX11_bound_37 38 rfl rfl rfl ?_
                refine pv_iload (M := mX11_bound) dX11_bound_38 40 rfl rfl ?_
                refine pv_calls (M := mX11_bound) (as := [.int x0, .int y7]) (st := []) (kc2 := 11) (ks2 := 57200) dX11_bound_40 wd931 YX11_isAmong wd932 (s_X11_isAmong g hT I31 x0 y7) rfl rfl (Nat.le_of_ble_eq_true rfl) (by decide) rfl rfl 43 rfl (fun rv h1 q50 => ?_)
                obtain ⟨v51, rfl, rfl, pv51, qv51, rv51⟩ := q50
                replace rv51 : v51 = amv x0 y7 := rv51
                show PV _ _ _ _ _ _ _ 43 [.ref 0, .int x0, .int v2, .int y27, .int y7, .int y28] [.int v51] _
                have k43 : (amv x0 (Int32.ofInt (y7.toInt.toNat : Nat))).toInt = v51.toInt := by rw [ofn (by omega), rv51]
                have k43b : bt x0 y7.toInt = v51.toInt := by rw [← k43, amv_bt, show ((y7.toInt.toNat : Nat) : Int) = y7.toInt by omega]
                refine pv_if_eq (M := mX11_bound) (tgt := 79) dX11_bound_43 46 rfl (by decide) (fun c54 => ?_) (fun c54 => ?_)
                · have c54 := iv_eq (X := v51.toInt) (Y := 0) c54 rfl (by decide)
                  refine iv_inc (M := mX11_bound) (C := 1) dX11_bound_79 82 rfl rfl (by decide) rfl rfl (by decide) (by omega) (by omega) (fun v55 ev55 => ?_)
                  show PV _ _ _ _ _ _ _ 82 [.ref 0, .int x0, .int v2, .int y27, .int y7, .int v55] [] _
                  refine pv_goto (M := mX11_bound) (tgt := 30) dX11_bound_82 (by decide) ?_
                  have kb30 : ∀ j : Nat, y7.toInt < (j : Int) → (j : Int) < v55.toInt → (amv x0 (Int32.ofInt (y7.toInt.toNat : Nat))).toInt = 0 ∨ (amv x0 (Int32.ofInt j)).toInt = 0 := fun j a b => if z : (j : Int) = y28.toInt then (by rw [show j = (y28.toInt).toNat by omega]; omega) else kf30 j a (by omega)
                  have kbm30 : BMP (SHC m) x0 y27.toInt y7.toInt v55.toInt := by first | exact BMP_hit kg30 (by omega) (by omega) (by omega) (by omega) (by omega) kSH (by omega) (by omega) | exact BMP_skip kg30 (by omega) (by omega)
                  exact ih35 y27 v55 m29 n30 (by first | omega | assumption | exact (iv_rng _).2 | exact (iv_rng _).1 | decide) (by first | omega | assumption | exact (iv_rng _).2 | exact (iv_rng _).1 | decide) (by first | omega | assumption | exact (iv_rng _).2 | exact (iv_rng _).1 | decide) (by first | omega | assumption | exact (iv_rng _).2 | exact (iv_rng _).1 | decide) (by first | omega | assumption | (show y7.toInt < v55.toInt; omega) | decide) kb30 kbm30 I31 K32 (by omega)
                · have c54 := iv_ne (X := v51.toInt) (Y := 0) c54 rfl (by decide)
                  refine pv_iload_n (M := mX11_bound) 1 dX11_bound_46 47 rfl rfl rfl ?_
                  refine pv_iload (M := mX11_bound) dX11_bound_47 49 rfl rfl ?_
                  refine pv_calls (M := mX11_bound) (as := [.int x0, .int y28]) (st := []) (kc2 := 11) (ks2 := 57200) dX11_bound_49 wd931 YX11_isAmong wd932 (s_X11_isAmong g hT I31 x0 y28) rfl rfl (Nat.le_of_ble_eq_true rfl) (by decide) rfl rfl 52 rfl (fun rv h1 q58 => ?_)
                  obtain ⟨v59, rfl, rfl, pv59, qv59, rv59⟩ := q58
                  replace rv59 : v59 = amv x0 y28 := rv59
                  show PV _ _ _ _ _ _ _ 52 [.ref 0, .int x0, .int v2, .int y27, .int y7, .int y28] [.int v59] _
                  have k52 : (amv x0 (Int32.ofInt (y28.toInt.toNat : Nat))).toInt = v59.toInt := by rw [ofn (by omega), rv59]
                  have k52b : bt x0 y28.toInt = v59.toInt := by rw [← k52, amv_bt, show ((y28.toInt.toNat : Nat) : Int) = y28.toInt by omega]
                  refine pv_if_eq (M := mX11_bound) (tgt := 79) dX11_bound_52 55 rfl (by decide) (fun c62 => ?_) (fun c62 => ?_)
                  · have c62 := iv_eq (X := v59.toInt) (Y := 0) c62 rfl (by decide)
                    refine iv_inc (M := mX11_bound) (C := 1) dX11_bound_79 82 rfl rfl (by decide) rfl rfl (by decide) (by omega) (by omega) (fun v63 ev63 => ?_)
                    show PV _ _ _ _ _ _ _ 82 [.ref 0, .int x0, .int v2, .int y27, .int y7, .int v63] [] _
                    refine pv_goto (M := mX11_bound) (tgt := 30) dX11_bound_82 (by decide) ?_
                    have kb30 : ∀ j : Nat, y7.toInt < (j : Int) → (j : Int) < v63.toInt → (amv x0 (Int32.ofInt (y7.toInt.toNat : Nat))).toInt = 0 ∨ (amv x0 (Int32.ofInt j)).toInt = 0 := fun j a b => if z : (j : Int) = y28.toInt then (by rw [show j = (y28.toInt).toNat by omega]; omega) else kf30 j a (by omega)
                    have kbm30 : BMP (SHC m) x0 y27.toInt y7.toInt v63.toInt := by first | exact BMP_hit kg30 (by omega) (by omega) (by omega) (by omega) (by omega) kSH (by omega) (by omega) | exact BMP_skip kg30 (by omega) (by omega)
                    exact ih35 y27 v63 m29 n30 (by first | omega | assumption | exact (iv_rng _).2 | exact (iv_rng _).1 | decide) (by first | omega | assumption | exact (iv_rng _).2 | exact (iv_rng _).1 | decide) (by first | omega | assumption | exact (iv_rng _).2 | exact (iv_rng _).1 | decide) (by first | omega | assumption | exact (iv_rng _).2 | exact (iv_rng _).1 | decide) (by first | omega | assumption | (show y7.toInt < v63.toInt; omega) | decide) kb30 kbm30 I31 K32 (by omega)
                  · have c62 := iv_ne (X := v59.toInt) (Y := 0) c62 rfl (by decide)
                    refine pv_iload_n (M := mX11_bound) 3 dX11_bound_55 56 rfl rfl rfl ?_
                    refine pv_aload_n (M := mX11_bound) 0 dX11_bound_56 57 rfl rfl rfl ?_
                    refine pv_iconst (M := mX11_bound) (v := 1) dX11_bound_57 58 rfl (by decide) ?_
                    refine pv_iload (M := mX11_bound) dX11_bound_58 60 rfl rfl ?_
                    refine iv_shlU (M := mX11_bound) dX11_bound_60 61 rfl (fun v66 ev66 => ?_)
                    have pv66 : 1 ≤ v66.toInt ∧ v66.toInt ≤ 128 := by rw [ev66]; exact iv_sh17 (by omega) (by omega)
                    have k61 := ev66
                    refine pv_iconst (M := mX11_bound) (v := 1) dX11_bound_61 62 rfl (by decide) ?_
                    refine pv_iload (M := mX11_bound) dX11_bound_62 64 rfl rfl ?_
                    refine iv_shlU (M := mX11_bound) dX11_bound_64 65 rfl (fun v68 ev68 => ?_)
                    have pv68 : 1 ≤ v68.toInt ∧ v68.toInt ≤ 128 := by rw [ev68]; exact iv_sh17 (by omega) (by omega)
                    have k65 := ev68
                    refine iv_orU (M := mX11_bound) dX11_bound_65 66 rfl (fun v70 ev70 => ?_)
                    have pv70 : 0 ≤ v70.toInt ∧ v70.toInt ≤ 255 := by rw [ev70]; exact iv_or8 (by omega) (by omega) (by omega) (by omega)
                    have kpx : v70 = pxy y7.toInt.toNat y28.toInt.toNat := by rw [ev70, k61, k65]; unfold pxy; rw [ofn (by omega), ofn (by omega)]
                    have kpo := pxy_ok (i := y7.toInt.toNat) (j := y28.toInt.toNat) (by omega) (by omega)
                    have kps := pxy_sz (m := m) (m2 := m29) (x := x0) (i := y7.toInt.toNat) (j := y28.toInt.toNat) (by omega) (by omega) kG.2 (by omega) (by omega) (fun a q h => K32 a q (wF_isW h))
                    rw [← kpx] at kpo kps
                    refine pv_callv (M := mX11_bound) (as := [.int v70]) (st := [.int y27]) (kc2 := 0) (ks2 := 0) dX11_bound_66 wd963 YX11_coverFor ⟨wd965, wd39⟩ (mk_get (tl0 hT)) rfl rfl (k_coverFor_ne g hTL I31 R hc0 v70 kpo.1 kpo.2 kps) rfl rfl (Nat.le_of_ble_eq_true rfl) (by decide) rfl rfl 69 rfl (fun rv h1 q75 => ?_)
                    generalize hG : TL2 = T2 at q75 ⊢
                    obtain ⟨m76, n77, r80, rfl, rfl, I78, K79, or80, kCv⟩ := q75
                    have hC : TC T2 := hG.symm
                    have hT : TX T2 := TC_TX hC
                    have hc2 := or80.1
                    have R := RX_rnT R or80
                    rw [hG] at R
                    have zR := R.2.2.2.2.1.1
                    have zR2 := R.2.2.2.2.2.1
                    have K79 := K32.trans (K79.sub WX_wF)
                    show PV _ _ _ _ _ _ _ 69 [.ref 0, .int x0, .int v2, .int y27, .int y7, .int y28] [.ref 169, .int y27] _
                    have k69 := kCv
                    have kSH : SHC m (pxy y7.toInt.toNat y28.toInt.toNat) (m76 170 1).toInt := by have z := SHC_fr (m := m) (m2 := m76) (fun a q h => K79 a q (wF_isW h)) k69.2; rw [kpx] at z; exact z
                    have kCC : CCH m76 := CCH_of k69
                    refine mv_get (M := mX11_bound) (v := .ref 170) dX11_bound_69 FX3 0 wd980 (by decide) (tc169 hC) rfl rfl 72 rfl ?_
                    refine iv_get (M := mX11_bound) (l1 := 0) (l2 := 48) dX11_bound_72 FX8 1 wd200 (by decide) (tc170 hC) rfl I78 rfl 75 rfl (fun v84 ev84 pv84 qv84 => ?_)
                    have k75 : v84.toInt = (m76 170 1).toInt := congrArg Int32.toInt ev84
                    refine iv_max (M := mX11_bound) (X := y27.toInt) (Y := v84.toInt) dX11_bound_75 wd883 Wmmax (Nat.le_of_ble_eq_true rfl) (by decide) rfl rfl 78 rfl (fun v86 ev86 fv86 gv86 => ?_)
                    refine pv_istore_n (M := mX11_bound) 3 (lo2 := [.ref 0, .int x0, .int v2, .int v86, .int y7, .int y28]) dX11_bound_78 79 rfl rfl (by decide) rfl rfl ?_
                    refine iv_inc (M := mX11_bound) (C := 1) dX11_bound_79 82 rfl rfl (by decide) rfl rfl (by decide) (by omega) (by omega) (fun v87 ev87 => ?_)
                    show PV _ _ _ _ _ _ _ 82 [.ref 0, .int x0, .int v2, .int v86, .int y7, .int v87] [] _
                    refine pv_goto (M := mX11_bound) (tgt := 30) dX11_bound_82 (by decide) ?_
                    exact pv_fg (lo2 := [.ref 0, .int x0, pv_U, .int v86, .int y7, .int v87]) ⟨Or.inr rfl, Or.inr rfl, Or.inl rfl, Or.inr rfl, Or.inr rfl, Or.inr rfl, trivial⟩ (s_X11_bound_vs30e g hT I78 K79 or80 R hC hc2 x0 kCC kG.1 kG.2 v86 y7 (by omega) (by omega) v87 (by omega) (by omega) (BMP_hit kg30 (by omega) (by omega) (by omega) (by omega) (by omega) kSH (by omega) (by omega)) (by omega))
          exact lp34 (((8 - v26.toInt) : Int).toNat + 1) y6 v26 m8 n9 (by first | omega | assumption | exact (iv_rng _).2 | exact (iv_rng _).1 | decide) (by first | omega | assumption | exact (iv_rng _).2 | exact (iv_rng _).1 | decide) (by first | omega | assumption | exact (iv_rng _).2 | exact (iv_rng _).1 | decide) (by first | omega | assumption | exact (iv_rng _).2 | exact (iv_rng _).1 | decide) (by first | omega | assumption | (show y7.toInt < v26.toInt; omega) | decide) (fun j a b => by omega) (BMP_in kg17 (by omega)) I10 K11 (by omega)
    have z89 : (0 : Int32).toInt = 0 := by decide
    have z90 : (0 : Int32).toInt = 0 := by decide
    exact lp13 (((8 - 0) : Int).toNat + 1) 0 0 m n (by first | omega | assumption | exact (iv_rng _).2 | exact (iv_rng _).1 | decide) (by first | omega | assumption | exact (iv_rng _).2 | exact (iv_rng _).1 | decide) (by first | omega | assumption | exact (iv_rng _).2 | exact (iv_rng _).1 | decide) (by first | omega | assumption | exact (iv_rng _).2 | exact (iv_rng _).1 | decide) (fun i j _ _ a => by rw [Int32.toInt_zero] at a; omega) (by rw [Int32.toInt_zero]; exact BMP_0) I Kp (by omega)
  · have c5 := iv_ne (X := v2.toInt) (Y := 0) c5 rfl (by decide)
    exact absurd (Iff.mpr kr hp0) (by omega)
