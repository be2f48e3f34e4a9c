set_option maxHeartbeats 2000000 in
set_option maxRecDepth 20000 in
theorem s_X11_shortest_vcq (g : pv_G) {T : List mv_T} {m : Nat → Nat → Int32} {n : Nat → Nat → Int64} {r : Nat → Value} {la lb : Nat} (hT : TX T) (I : IV BB m) (R : RX T r la lb) (hC : TC T) (hc2 : r 2 = .ref 169) (x0 : Int32) (x1 : Int32) (hp0 : CCN m n) : PM g mX11_shortest yX11_shortest (sqIrn T BB wF rn r m (-2147483648) 2147483647 (fun m' n' r' v => CCN m' n')) 6 0 0 [.ref 0, .int x0, .int x1] (mk T m n r) := by
  have Kp : fr wF m m := fr.rf
  have R0 := R
  have zR := R.2.2.2.2.1.1
  have zR2 := R.2.2.2.2.2.1
  have hc20 := hc2
  refine PM.of 2 (lo := [.ref 0, .int x0, .int x1, pv_U, pv_U]) rfl (by decide) rfl rfl (Nat.le_of_ble_eq_true rfl) ?_
  refine pv_iload_n (M := mX11_shortest) 2 dX11_shortest_0 1 rfl rfl rfl ?_
  refine pv_iconst (M := mX11_shortest) (v := (-1)) dX11_shortest_1 2 rfl (by decide) ?_
  refine pv_icmp_ge (M := mX11_shortest) (tgt := 7) dX11_shortest_2 5 rfl (by decide) (fun c1 => ?_) (fun c1 => ?_)
  · have c1 := iv_le (X := (-1)) (Y := x1.toInt) c1 (by decide) rfl
    refine pv_aload_n (M := mX11_shortest) 0 dX11_shortest_7 8 rfl rfl rfl ?_
    refine pv_iload_n (M := mX11_shortest) 1 dX11_shortest_8 9 rfl rfl rfl ?_
    refine pv_callv (M := mX11_shortest) (as := [.int x0]) (st := []) (kc2 := 0) (ks2 := 0) dX11_shortest_9 wd959 YX11_refuseCover ⟨wd961, wd38⟩ (mk_get (tl0 hT)) rfl rfl (s_X11_refuseCover g hT I R x0) rfl rfl (Nat.le_of_ble_eq_true rfl) (by decide) rfl rfl 12 rfl (fun rv h1 q2 => ?_)
    obtain ⟨v3, rfl, rfl, pv3, qv3, rv3⟩ := q2
    replace rv3 : RFZ m x0 v3 := rv3
    show PV _ _ _ _ _ _ _ 12 [.ref 0, .int x0, .int x1, pv_U, pv_U] [.int v3] _
    have kr : RFZ m x0 v3 := rv3
    refine pv_istore_n (M := mX11_shortest) 3 (lo2 := [.ref 0, .int x0, .int x1, .int v3, pv_U]) dX11_shortest_12 13 rfl rfl (by decide) rfl rfl ?_
    refine pv_iload_n (M := mX11_shortest) 3 dX11_shortest_13 14 rfl rfl rfl ?_
    refine pv_if_eq (M := mX11_shortest) (tgt := 19) dX11_shortest_14 17 rfl (by decide) (fun c5 => ?_) (fun c5 => ?_)
    · have c5 := iv_eq (X := v3.toInt) (Y := 0) c5 rfl (by decide)
      refine pv_aload_n (M := mX11_shortest) 0 dX11_shortest_19 20 rfl rfl rfl ?_
      refine pv_iload_n (M := mX11_shortest) 1 dX11_shortest_20 21 rfl rfl rfl ?_
      have kO := cOK_mbs (Iff.mp kr (by omega))
      refine pv_callv (M := mX11_shortest) (as := [.int x0]) (st := []) (kc2 := 0) (ks2 := 0) dX11_shortest_21 wd963 YX11_coverFor ⟨wd965, wd39⟩ (mk_get (tl0 hT)) rfl rfl (s_X11_coverFor_vq g hT I R hC hc2 x0 kO.1 kO.2.1 kO.2.2 hp0) rfl rfl (Nat.le_of_ble_eq_true rfl) (by decide) rfl rfl 24 rfl (fun rv h1 q7 => ?_)
      obtain ⟨m8, n9, r12, rfl, rfl, I10, K11, qr12, rm8⟩ := q7
      replace rm8 : m8 169 1 = x0 ∧ SHN m8 x0 (n9 179 0) := rm8
      have or12 := rn.trans (rn.rf hc20) qr12
      have R := RX_rn R qr12
      have zR := R.2.2.2.2.1.1
      have zR2 := R.2.2.2.2.2.1
      have hc2 : r12 2 = .ref 169 := or12.1
      have K11c := K11
      have K11 := Kp.trans (K11.sub WX_wF)
      show PV _ _ _ _ _ _ _ 24 [.ref 0, .int x0, .int x1, .int v3, pv_U] [.ref 169] _
      have kCC := CCN_of rm8
      refine mv_get (M := mX11_shortest) (v := .ref 170) dX11_shortest_24 FX3 0 wd980 (by decide) (tc169 hC) rfl rfl 27 rfl ?_
      refine pv_astore (M := mX11_shortest) (lo2 := [.ref 0, .int x0, .int x1, .int v3, .ref 170]) dX11_shortest_27 29 rfl (by decide) rfl rfl ?_
      refine pv_iload_n (M := mX11_shortest) 2 dX11_shortest_29 30 rfl rfl rfl ?_
      refine pv_iconst (M := mX11_shortest) (v := (-1)) dX11_shortest_30 31 rfl (by decide) ?_
      refine pv_icmp_ne (M := mX11_shortest) (tgt := 42) dX11_shortest_31 34 rfl (by decide) (fun c14 => ?_) (fun c14 => ?_)
      · have c14 := iv_ne (X := x1.toInt) (Y := (-1)) c14 rfl (by decide)
        refine pv_aload (M := mX11_shortest) dX11_shortest_42 44 rfl rfl ?_
        refine pv_iload_n (M := mX11_shortest) 2 dX11_shortest_44 45 rfl rfl rfl ?_
        refine pv_callv (M := mX11_shortest) (as := [.int x1]) (st := []) (kc2 := 0) (ks2 := 0) dX11_shortest_45 wd704 YX8_at ⟨wd705, wd706⟩ (mk_get (tc170 hC)) rfl rfl (s_X8_at g hT I10 170 48 (row170 hC) x1) rfl rfl (Nat.le_of_ble_eq_true rfl) (by decide) rfl rfl 48 rfl (fun rv h1 q15 => ?_)
        obtain ⟨v16, rfl, rfl, pv16, qv16, rv16⟩ := q15
        replace rv16 : v16.toInt = atv m8 170 x1.toInt := rv16
        show PV _ _ _ _ _ _ _ 48 [.ref 0, .int x0, .int x1, .int v3, .ref 170] [.int v16] _
        exact pv_iret (M := mX11_shortest) dX11_shortest_48 rfl rfl ⟨_, _, _, _, rfl, rfl, I10, K11, or12, (iv_rng v16).1, (iv_rng v16).2, (by first | exact hp0 | exact kCC)⟩
      · have c14 := iv_eq (X := x1.toInt) (Y := (-1)) c14 rfl (by decide)
        refine pv_aload (M := mX11_shortest) dX11_shortest_34 36 rfl rfl ?_
        refine iv_get (M := mX11_shortest) (l1 := 0) (l2 := 48) dX11_shortest_36 FX8 1 wd200 (by decide) (tc170 hC) rfl I10 rfl 39 rfl (fun v17 ev17 pv17 qv17 => ?_)
        refine pv_goto (M := mX11_shortest) (tgt := 48) dX11_shortest_39 (by decide) ?_
        exact pv_iret (M := mX11_shortest) dX11_shortest_48 rfl rfl ⟨_, _, _, _, rfl, rfl, I10, K11, or12, (iv_rng v17).1, (iv_rng v17).2, (by first | exact hp0 | exact kCC)⟩
    · have c5 := iv_ne (X := v3.toInt) (Y := 0) c5 rfl (by decide)
      refine pv_iload_n (M := mX11_shortest) 3 dX11_shortest_17 18 rfl rfl rfl ?_
      exact pv_iret (M := mX11_shortest) dX11_shortest_18 rfl rfl ⟨_, _, _, _, rfl, rfl, I, Kp, (rn.rf hc20), (iv_rng v3).1, (iv_rng v3).2, (by first | exact hp0 | exact kCC)⟩
  · have c1 := iv_nle (X := (-1)) (Y := x1.toInt) c1 (by decide) rfl
    refine pv_iconst (M := mX11_shortest) (v := (-1)) dX11_shortest_5 6 rfl (by decide) ?_
    have z18 : ((-1) : Int32).toInt = (-1) := by decide
    exact pv_iret (M := mX11_shortest) dX11_shortest_6 rfl rfl ⟨_, _, _, _, rfl, rfl, I, Kp, (rn.rf hc20), by decide, by decide, (by first | exact hp0 | exact kCC)⟩

set_option maxHeartbeats 2000000 in
set_option maxRecDepth 20000 in
theorem s_X11_shortestMany_vcq (g : pv_G) {T : List mv_T} {m : Nat → Nat → Int32} {n : Nat → Nat → Int64} {r : Nat → Value} {la lb : Nat} (hT : TX T) (I : IV BB m) (R : RX T r la lb) (hC : TC T) (hc2 : r 2 = .ref 169) (x0 : Int32) (hp0 : CCN m n) : PM g mX11_shortestMany yX11_shortestMany (sqJrn T BB wF rn r m (fun m' n' r' v => MNV (G1 m x0) (G2 m x0) (SHN m x0) v ∧ CCN m' n')) 6 0 0 [.ref 0, .int x0] (mk T m n r) := by
  have Kp : fr wF m m := fr.rf
  have R0 := R
  have zR := R.2.2.2.2.1.1
  have zR2 := R.2.2.2.2.2.1
  have hc20 := hc2
  refine PM.of 1 (lo := [.ref 0, .int x0, pv_U]) rfl (by decide) rfl rfl (Nat.le_of_ble_eq_true rfl) ?_
  refine pv_aload_n (M := mX11_shortestMany) 0 dX11_shortestMany_0 1 rfl rfl rfl ?_
  refine pv_iload_n (M := mX11_shortestMany) 1 dX11_shortestMany_1 2 rfl rfl rfl ?_
  refine pv_callv (M := mX11_shortestMany) (as := [.int x0]) (st := []) (kc2 := 0) (ks2 := 0) dX11_shortestMany_2 wd959 YX11_refuseCover ⟨wd961, wd38⟩ (mk_get (tl0 hT)) rfl rfl (s_X11_refuseCover_ve g hT I R x0) rfl rfl (Nat.le_of_ble_eq_true rfl) (by decide) rfl rfl 5 rfl (fun rv h1 q1 => ?_)
  obtain ⟨v2, rfl, rfl, pv2, qv2, rv2⟩ := q1
  replace rv2 : RFV m x0 v2.toInt := rv2
  show PV _ _ _ _ _ _ _ 5 [.ref 0, .int x0, pv_U] [.int v2] _
  have ke := rv2
  have kr : RFZ m x0 v2 := RFV_Z ke
  refine pv_istore_n (M := mX11_shortestMany) 2 (lo2 := [.ref 0, .int x0, .int v2]) dX11_shortestMany_5 6 rfl rfl (by decide) rfl rfl ?_
  refine pv_iload_n (M := mX11_shortestMany) 2 dX11_shortestMany_6 7 rfl rfl rfl ?_
  refine pv_if_eq (M := mX11_shortestMany) (tgt := 13) dX11_shortestMany_7 10 rfl (by decide) (fun c5 => ?_) (fun c5 => ?_)
  · have c5 := iv_eq (X := v2.toInt) (Y := 0) c5 rfl (by decide)
    refine pv_aload_n (M := mX11_shortestMany) 0 dX11_shortestMany_13 14 rfl rfl rfl ?_
    refine pv_iload_n (M := mX11_shortestMany) 1 dX11_shortestMany_14 15 rfl rfl rfl ?_
    have kO := cOK_mbs (Iff.mp kr (by omega))
    refine pv_callv (M := mX11_shortestMany) (as := [.int x0]) (st := []) (kc2 := 0) (ks2 := 0) dX11_shortestMany_15 wd963 YX11_coverFor ⟨wd965, wd39⟩ (mk_get (tl0 hT)) rfl rfl (s_X11_coverFor_vq g hT I R hC hc2 x0 kO.1 kO.2.1 kO.2.2 hp0) rfl rfl (Nat.le_of_ble_eq_true rfl) (by decide) rfl rfl 18 rfl (fun rv h1 q7 => ?_)
    obtain ⟨m8, n9, r12, rfl, rfl, I10, K11, qr12, rm8⟩ := q7
    replace rm8 : m8 169 1 = x0 ∧ SHN m8 x0 (n9 179 0) := rm8
    have or12 := rn.trans (rn.rf hc20) qr12
    have R := RX_rn R qr12
    have zR := R.2.2.2.2.1.1
    have zR2 := R.2.2.2.2.2.1
    have hc2 : r12 2 = .ref 169 := or12.1
    have K11c := K11
    have K11 := Kp.trans (K11.sub WX_wF)
    show PV _ _ _ _ _ _ _ 18 [.ref 0, .int x0, .int v2] [.ref 169] _
    have kCC := CCN_of rm8
    have k18 := rm8
    have k18f : ∀ a j, isW a = true → m8 a j = m a j := fun a q h => K11 a q (wF_isW h)
    refine pv_callv (M := mX11_shortestMany) (as := []) (st := []) (kc2 := 0) (ks2 := 0) dX11_shortestMany_18 wd1048 YX3_howMany ⟨wd1049, wd1050⟩ (mk_get (tc169 hC)) rfl rfl (s_X3_howMany_vq g hT I10 hC) rfl rfl (Nat.le_of_ble_eq_true rfl) (by decide) rfl rfl 21 rfl (fun rv h1 q16 => ?_)
    obtain ⟨v17, rfl, rfl, rv17⟩ := q16
    replace rv17 : v17 = n9 179 0 := rv17
    show PV _ _ _ _ _ _ _ 21 [.ref 0, .int x0, .int v2] [.long v17] _
    have k21 : v17 = n9 179 0 := rv17
    exact pv_lret (M := mX11_shortestMany) dX11_shortestMany_21 rfl ⟨_, _, _, _, rfl, rfl, I10, K11, or12, ⟨Or.inr (Or.inr ⟨(cOK_G.mp (Iff.mp kr (by omega))).1, (cOK_G.mp (Iff.mp kr (by omega))).2, by rw [k21]; exact SHN_eq (fun a j h1 h2 => (k18f a j (isW_i (Or.inl ⟨h1, h2⟩))).symm) k18.2⟩), kCC⟩⟩
  · have c5 := iv_ne (X := v2.toInt) (Y := 0) c5 rfl (by decide)
    refine pv_iload_n (M := mX11_shortestMany) 2 dX11_shortestMany_10 11 rfl rfl rfl ?_
    refine iv_i2l (M := mX11_shortestMany) dX11_shortestMany_11 12 rfl (fun v19 ev19 => ?_)
    exact pv_lret (M := mX11_shortestMany) dX11_shortestMany_12 rfl ⟨_, _, _, _, rfl, rfl, I, Kp, (rn.rf hc20), ⟨RFV_J ke (by omega) ev19, hp0⟩⟩

set_option maxHeartbeats 2000000 in
set_option maxRecDepth 20000 in
theorem s_X11_shortest_vnq (g : pv_G) {T : List mv_T} {m : Nat → Nat → Int32} {n : Nat → Nat → Int64} {r : Nat → Value} {la lb : Nat} (hT : TX T) (I : IV BB m) (R : RX T r la lb) (hTL : T = TL) (hc0 : r 2 = .null) (x0 : Int32) (x1 : Int32) (hp0 : -1 ≤ x1.toInt) (hp1 : cOK m x0) : PM g mX11_shortest yX11_shortest (sqIrn TL2 BB wF rn r m (-2147483648) 2147483647 (fun m' n' r' v => CCN m' n')) 6 11 57200 [.ref 0, .int x0, .int x1] (mk T m n r) := by
  have Kp : fr wF m m := fr.rf
  have R0 := R
  have zR := R.2.2.2.2.1.1
  have zR2 := R.2.2.2.2.2.1
  refine PM.of 2 (lo := [.ref 0, .int x0, .int x1, pv_U, pv_U]) rfl (by decide) rfl rfl (Nat.le_of_ble_eq_true rfl) ?_
  refine pv_iload_n (M := mX11_shortest) 2 dX11_shortest_0 1 rfl rfl rfl ?_
  refine pv_iconst (M := mX11_shortest) (v := (-1)) dX11_shortest_1 2 rfl (by decide) ?_
  refine pv_icmp_ge (M := mX11_shortest) (tgt := 7) dX11_shortest_2 5 rfl (by decide) (fun c1 => ?_) (fun c1 => ?_)
  · have c1 := iv_le (X := (-1)) (Y := x1.toInt) c1 (by decide) rfl
    refine pv_aload_n (M := mX11_shortest) 0 dX11_shortest_7 8 rfl rfl rfl ?_
    refine pv_iload_n (M := mX11_shortest) 1 dX11_shortest_8 9 rfl rfl rfl ?_
    refine pv_callv (M := mX11_shortest) (as := [.int x0]) (st := []) (kc2 := 11) (ks2 := 57200) dX11_shortest_9 wd959 YX11_refuseCover ⟨wd961, wd38⟩ (mk_get (tl0 hT)) rfl rfl (s_X11_refuseCover g hT I R x0) rfl rfl (Nat.le_of_ble_eq_true rfl) (by decide) rfl rfl 12 rfl (fun rv h1 q2 => ?_)
    obtain ⟨v3, rfl, rfl, pv3, qv3, rv3⟩ := q2
    replace rv3 : RFZ m x0 v3 := rv3
    show PV _ _ _ _ _ _ _ 12 [.ref 0, .int x0, .int x1, pv_U, pv_U] [.int v3] _
    have kr : RFZ m x0 v3 := rv3
    refine pv_istore_n (M := mX11_shortest) 3 (lo2 := [.ref 0, .int x0, .int x1, .int v3, pv_U]) dX11_shortest_12 13 rfl rfl (by decide) rfl rfl ?_
    refine pv_iload_n (M := mX11_shortest) 3 dX11_shortest_13 14 rfl rfl rfl ?_
    refine pv_if_eq (M := mX11_shortest) (tgt := 19) dX11_shortest_14 17 rfl (by decide) (fun c5 => ?_) (fun c5 => ?_)
    · have c5 := iv_eq (X := v3.toInt) (Y := 0) c5 rfl (by decide)
      refine pv_aload_n (M := mX11_shortest) 0 dX11_shortest_19 20 rfl rfl rfl ?_
      refine pv_iload_n (M := mX11_shortest) 1 dX11_shortest_20 21 rfl rfl rfl ?_
      have kO := cOK_mbs hp1
      refine pv_callv (M := mX11_shortest) (as := [.int x0]) (st := []) (kc2 := 0) (ks2 := 0) dX11_shortest_21 wd963 YX11_coverFor ⟨wd965, wd39⟩ (mk_get (tl0 hT)) rfl rfl (k_coverFor_nq g hTL I R hc0 x0 kO.1 kO.2.1 kO.2.2) rfl rfl (Nat.le_of_ble_eq_true rfl) (by decide) rfl rfl 24 rfl (fun rv h1 q7 => ?_)
      generalize hG : TL2 = T2 at q7 ⊢
      obtain ⟨m8, n9, r12, rfl, rfl, I10, K11, or12, kCv⟩ := q7
      have hC : TC T2 := hG.symm
      have hT : TX T2 := TC_TX hC
      have hc2 := or12.1
      have R := RX_rnT R or12
      rw [hG] at R
      have zR := R.2.2.2.2.1.1
      have zR2 := R.2.2.2.2.2.1
      have K11 := Kp.trans (K11.sub WX_wF)
      show PV _ _ _ _ _ _ _ 24 [.ref 0, .int x0, .int x1, .int v3, pv_U] [.ref 169] _
      have kCC := CCN_of kCv
      refine mv_get (M := mX11_shortest) (v := .ref 170) dX11_shortest_24 FX3 0 wd980 (by decide) (tc169 hC) rfl rfl 27 rfl ?_
      refine pv_astore (M := mX11_shortest) (lo2 := [.ref 0, .int x0, .int x1, .int v3, .ref 170]) dX11_shortest_27 29 rfl (by decide) rfl rfl ?_
      refine pv_iload_n (M := mX11_shortest) 2 dX11_shortest_29 30 rfl rfl rfl ?_
      refine pv_iconst (M := mX11_shortest) (v := (-1)) dX11_shortest_30 31 rfl (by decide) ?_
      refine pv_icmp_ne (M := mX11_shortest) (tgt := 42) dX11_shortest_31 34 rfl (by decide) (fun c14 => ?_) (fun c14 => ?_)
      · have c14 := iv_ne (X := x1.toInt) (Y := (-1)) c14 rfl (by decide)
        refine pv_aload (M := mX11_shortest) dX11_shortest_42 44 rfl rfl ?_
        refine pv_iload_n (M := mX11_shortest) 2 dX11_shortest_44 45 rfl rfl rfl ?_
        refine pv_callv (M := mX11_shortest) (as := [.int x1]) (st := []) (kc2 := 0) (ks2 := 0) dX11_shortest_45 wd704 YX8_at ⟨wd705, wd706⟩ (mk_get (tc170 hC)) rfl rfl (s_X8_at g hT I10 170 48 (row170 hC) x1) rfl rfl (Nat.le_of_ble_eq_true rfl) (by decide) rfl rfl 48 rfl (fun rv h1 q15 => ?_)
        obtain ⟨v16, rfl, rfl, pv16, qv16, rv16⟩ := q15
        replace rv16 : v16.toInt = atv m8 170 x1.toInt := rv16
        show PV _ _ _ _ _ _ _ 48 [.ref 0, .int x0, .int x1, .int v3, .ref 170] [.int v16] _
        exact pv_iret (M := mX11_shortest) dX11_shortest_48 rfl rfl ⟨_, _, _, _, rfl, rfl, I10, K11, or12, (iv_rng v16).1, (iv_rng v16).2, kCC⟩
      · have c14 := iv_eq (X := x1.toInt) (Y := (-1)) c14 rfl (by decide)
        refine pv_aload (M := mX11_shortest) dX11_shortest_34 36 rfl rfl ?_
        refine iv_get (M := mX11_shortest) (l1 := 0) (l2 := 48) dX11_shortest_36 FX8 1 wd200 (by decide) (tc170 hC) rfl I10 rfl 39 rfl (fun v17 ev17 pv17 qv17 => ?_)
        refine pv_goto (M := mX11_shortest) (tgt := 48) dX11_shortest_39 (by decide) ?_
        exact pv_iret (M := mX11_shortest) dX11_shortest_48 rfl rfl ⟨_, _, _, _, rfl, rfl, I10, K11, or12, (iv_rng v17).1, (iv_rng v17).2, kCC⟩
    · have c5 := iv_ne (X := v3.toInt) (Y := 0) c5 rfl (by decide)
      exact absurd (Iff.mpr kr hp1) (by omega)
  · have c1 := iv_nle (X := (-1)) (Y := x1.toInt) c1 (by decide) rfl
    omega

set_option maxHeartbeats 2000000 in
set_option maxRecDepth 20000 in
theorem s_X11_shortestMany_vnq (g : pv_G) {T : List mv_T} {m : Nat → Nat → Int32} {n : Nat → Nat → Int64} {r : Nat → Value} {la lb : Nat} (hT : TX T) (I : IV BB m) (R : RX T r la lb) (hTL : T = TL) (hc0 : r 2 = .null) (x0 : Int32) (hp0 : cOK m x0) : PM g mX11_shortestMany yX11_shortestMany (sqJrn TL2 BB wF rn r m (fun m' n' r' v => MNV (G1 m x0) (G2 m x0) (SHN m x0) v ∧ CCN m' n')) 6 11 57200 [.ref 0, .int x0] (mk T m n r) := by
  have Kp : fr wF m m := fr.rf
  have R0 := R
  have zR := R.2.2.2.2.1.1
  have zR2 := R.2.2.2.2.2.1
  refine PM.of 1 (lo := [.ref 0, .int x0, pv_U]) rfl (by decide) rfl rfl (Nat.le_of_ble_eq_true rfl) ?_
  refine pv_aload_n (M := mX11_shortestMany) 0 dX11_shortestMany_0 1 rfl rfl rfl ?_
  refine pv_iload_n (M := mX11_shortestMany) 1 dX11_shortestMany_1 2 rfl rfl rfl ?_
  refine pv_callv (M := mX11_shortestMany) (as := [.int x0]) (st := []) (kc2 := 11) (ks2 := 57200) dX11_shortestMany_2 wd959 YX11_refuseCover ⟨wd961, wd38⟩ (mk_get (tl0 hT)) rfl rfl (s_X11_refuseCover g hT I R x0) rfl rfl (Nat.le_of_ble_eq_true rfl) (by decide) rfl rfl 5 rfl (fun rv h1 q1 => ?_)
  obtain ⟨v2, rfl, rfl, pv2, qv2, rv2⟩ := q1
  replace rv2 : RFZ m x0 v2 := rv2
  show PV _ _ _ _ _ _ _ 5 [.ref 0, .int x0, pv_U] [.int v2] _
  have kr : RFZ m x0 v2 := rv2
  refine pv_istore_n (M := mX11_shortestMany) 2 (lo2 := [.ref 0, .int x0, .int v2]) dX11_shortestMany_5 6 rfl rfl (by decide) rfl rfl ?_
  refine pv_iload_n (M := mX11_shortestMany) 2 dX11_shortestMany_6 7 rfl rfl rfl ?_
  refine pv_if_eq (M := mX11_shortestMany) (tgt := 13) dX11_shortestMany_7 10 rfl (by decide) (fun c4 => ?_) (fun c4 => ?_)
  · have c4 := iv_eq (X := v2.toInt) (Y := 0) c4 rfl (by decide)
    refine pv_aload_n (M := mX11_shortestMany) 0 dX11_shortestMany_13 14 rfl rfl rfl ?_
    refine pv_iload_n (M := mX11_shortestMany) 1 dX11_shortestMany_14 15 rfl rfl rfl ?_
    have kO := cOK_mbs hp0
    refine pv_callv (M := mX11_shortestMany) (as := [.int x0]) (st := []) (kc2 := 0) (ks2 := 0) dX11_shortestMany_15 wd963 YX11_coverFor ⟨wd965, wd39⟩ (mk_get (tl0 hT)) rfl rfl (k_coverFor_nq g hTL I R hc0 x0 kO.1 kO.2.1 kO.2.2) rfl rfl (Nat.le_of_ble_eq_true rfl) (by decide) rfl rfl 18 rfl (fun rv h1 q6 => ?_)
    generalize hG : TL2 = T2 at q6 ⊢
    obtain ⟨m7, n8, r11, rfl, rfl, I9, K10, or11, kCv⟩ := q6
    have hC : TC T2 := hG.symm
    have hT : TX T2 := TC_TX hC
    have hc2 := or11.1
    have R := RX_rnT R or11
    rw [hG] at R
    have zR := R.2.2.2.2.1.1
    have zR2 := R.2.2.2.2.2.1
    have K10 := Kp.trans (K10.sub WX_wF)
    show PV _ _ _ _ _ _ _ 18 [.ref 0, .int x0, .int v2] [.ref 169] _
    have kCC := CCN_of kCv
    have k18 := kCv
    have k18f : ∀ a j, isW a = true → m7 a j = m a j := fun a q h => K10 a q (wF_isW h)
    refine pv_callv (M := mX11_shortestMany) (as := []) (st := []) (kc2 := 0) (ks2 := 0) dX11_shortestMany_18 wd1048 YX3_howMany ⟨wd1049, wd1050⟩ (mk_get (tc169 hC)) rfl rfl (s_X3_howMany_vq g hT I9 hC) rfl rfl (Nat.le_of_ble_eq_true rfl) (by decide) rfl rfl 21 rfl (fun rv h1 q15 => ?_)
    obtain ⟨v16, rfl, rfl, rv16⟩ := q15
    replace rv16 : v16 = n8 179 0 := rv16
    show PV _ _ _ _ _ _ _ 21 [.ref 0, .int x0, .int v2] [.long v16] _
    have k21 : v16 = n8 179 0 := rv16
    exact pv_lret (M := mX11_shortestMany) dX11_shortestMany_21 rfl ⟨_, _, _, _, rfl, rfl, I9, K10, or11, ⟨Or.inr (Or.inr ⟨(cOK_G.mp hp0).1, (cOK_G.mp hp0).2, by rw [k21]; exact SHN_eq (fun a j h1 h2 => (k18f a j (isW_i (Or.inl ⟨h1, h2⟩))).symm) k18.2⟩), kCC⟩⟩
  · have c4 := iv_ne (X := v2.toInt) (Y := 0) c4 rfl (by decide)
    exact absurd (Iff.mpr kr hp0) (by omega)

set_option maxHeartbeats 2000000 in
set_option maxRecDepth 20000 in
theorem s_X11_shortestMany_vrq (g : pv_G) {T : List mv_T} {m : Nat → Nat → Int32} {n : Nat → Nat → Int64} {r : Nat → Value} {la lb : Nat} (hT : TX T) (I : IV BB m) (R : RX T r la lb) (x0 : Int32) (hp0 : ¬ cOK m x0) : PM g mX11_shortestMany yX11_shortestMany (sqPJn (mk T m n r) (fun v => MNV (G1 m x0) (G2 m x0) (SHN m x0) v)) 5 0 0 [.ref 0, .int x0] (mk T m n r) := by
  have Kp : fr (wl []) m m := fr.rf
  have R0 := R
  have zR := R.2.2.2.2.1.1
  have zR2 := R.2.2.2.2.2.1
  refine PM.of 1 (lo := [.ref 0, .int x0, pv_U]) rfl (by decide) rfl rfl (Nat.le_of_ble_eq_true rfl) ?_
  refine pv_aload_n (M := mX11_shortestMany) 0 dX11_shortestMany_0 1 rfl rfl rfl ?_
  refine pv_iload_n (M := mX11_shortestMany) 1 dX11_shortestMany_1 2 rfl rfl rfl ?_
  refine pv_callv (M := mX11_shortestMany) (as := [.int x0]) (st := []) (kc2 := 0) (ks2 := 0) dX11_shortestMany_2 wd959 YX11_refuseCover ⟨wd961, wd38⟩ (mk_get (tl0 hT)) rfl rfl (s_X11_refuseCover_ve g hT I R x0) rfl rfl (Nat.le_of_ble_eq_true rfl) (by decide) rfl rfl 5 rfl (fun rv h1 q1 => ?_)
  obtain ⟨v2, rfl, rfl, pv2, qv2, rv2⟩ := q1
  replace rv2 : RFV m x0 v2.toInt := rv2
  show PV _ _ _ _ _ _ _ 5 [.ref 0, .int x0, pv_U] [.int v2] _
  have ke := rv2
  have kr : RFZ m x0 v2 := RFV_Z ke
  refine pv_istore_n (M := mX11_shortestMany) 2 (lo2 := [.ref 0, .int x0, .int v2]) dX11_shortestMany_5 6 rfl rfl (by decide) rfl rfl ?_
  refine pv_iload_n (M := mX11_shortestMany) 2 dX11_shortestMany_6 7 rfl rfl rfl ?_
  refine pv_if_eq (M := mX11_shortestMany) (tgt := 13) dX11_shortestMany_7 10 rfl (by decide) (fun c5 => ?_) (fun c5 => ?_)
  · have c5 := iv_eq (X := v2.toInt) (Y := 0) c5 rfl (by decide)
    exact absurd (Iff.mp kr (by omega)) hp0
  · have c5 := iv_ne (X := v2.toInt) (Y := 0) c5 rfl (by decide)
    refine pv_iload_n (M := mX11_shortestMany) 2 dX11_shortestMany_10 11 rfl rfl rfl ?_
    refine iv_i2l (M := mX11_shortestMany) dX11_shortestMany_11 12 rfl (fun v7 ev7 => ?_)
    exact pv_lret (M := mX11_shortestMany) dX11_shortestMany_12 rfl ⟨_, rfl, rfl, (RFV_J ke (by omega) ev7)⟩

set_option maxHeartbeats 2000000 in
set_option maxRecDepth 20000 in
theorem s_X11_bound_vs17q (g : pv_G) {T : List mv_T} {m : Nat → Nat → Int32} {n : Nat → Nat → Int64} {r : Nat → Value} {m0 : Nat → Nat → Int32} {r0 : Nat → Value} {la lb : Nat} (hT : TX T) (I : IV BB m) (Kp : fr wF m0 m) (or : rn r0 r) (R : RX T r la lb) (hC : TC T) (hc2 : r 2 = .ref 169) (x0 : Int32) (hp0 : CCN m n) (hp1 : G1 m0 x0) (hp2 : G2 m0 x0) (y3 : Int32) (y4 : Int32) (hy4 : 0 ≤ y4.toInt) (hz4 : y4.toInt ≤ 8) : PV none g mX11_bound (sqIrn T BB wF rn r0 m0 (-2147483648) 2147483647 (fun m' n' r' v => CCN m' n')) 6 0 0 17 [.ref 0, .int x0, pv_U, .int y3, .int y4, pv_U] [] (mk T m n r) := by
  have R0 := R
  have zR := R.2.2.2.2.1.1
  have zR2 := R.2.2.2.2.2.1
  have hc20 := hc2
  have lp8 : ∀ (fuel7 : Nat) (y1 : Int32) (y2 : Int32) (m3 : Nat → Nat → Int32) (n4 : Nat → Nat → Int64) (r12 : Nat → Value), (0 ≤ y2.toInt) → (y2.toInt ≤ 8) → (CCN m3 n4) → IV BB m3 → fr wF m0 m3 → rn r0 r12 → ((8 - y2.toInt) : Int).toNat < fuel7 → PV none g mX11_bound (sqIrn T BB wF rn r0 m0 (-2147483648) 2147483647 (fun m' n' r' v => CCN m' n')) 6 0 0 17 [.ref 0, .int x0, pv_U, .int y1, .int y2, pv_U] [] (mk T m3 n4 r12) := by
    intro fuel7
    induction fuel7 with
    | zero => intro y1 y2 m3 n4 r12 b10 b11 b13 I5 K6 or12 z14; omega
    | succ fuel7 ih9 =>
      intro y1 y2 m3 n4 r12 b10 b11 b13 I5 K6 or12 z14
      have hc2 := or12.1
      have R := RX_rn2 R0 or or12
      have zR := R.2.2.2.2.1.1
      have zR2 := R.2.2.2.2.2.1
      have kgc17 := (show CCN m3 n4 by assumption)
      refine pv_iload (M := mX11_bound) dX11_bound_17 19 rfl rfl ?_
      refine pv_bipush (M := mX11_bound) (v := 8) dX11_bound_19 21 rfl (by decide) ?_
      refine pv_icmp_ge (M := mX11_bound) (tgt := 91) dX11_bound_21 24 rfl (by decide) (fun c16 => ?_) (fun c16 => ?_)
      · have c16 := iv_le (X := 8) (Y := y2.toInt) c16 (by decide) rfl
        refine pv_iload_n (M := mX11_bound) 3 dX11_bound_91 92 rfl rfl rfl ?_
        exact pv_iret (M := mX11_bound) dX11_bound_92 rfl rfl ⟨_, _, _, _, rfl, rfl, I5, K6, or12, (iv_rng y1).1, (iv_rng y1).2, kgc17⟩
      · have c16 := iv_nle (X := 8) (Y := y2.toInt) c16 (by decide) rfl
        refine pv_iload (M := mX11_bound) dX11_bound_24 26 rfl rfl ?_
        refine pv_iconst (M := mX11_bound) (v := 1) dX11_bound_26 27 rfl (by decide) ?_
        refine iv_iadd (M := mX11_bound) (X := y2.toInt) (Y := 1) dX11_bound_27 28 rfl rfl (by decide) (by omega) (by omega) (fun v17 ev17 => ?_)
        refine pv_istore (M := mX11_bound) (lo2 := [.ref 0, .int x0, pv_U, .int y1, .int y2, .int v17]) dX11_bound_28 30 rfl (by decide) rfl rfl ?_
        have lp25 : ∀ (fuel24 : Nat) (y18 : Int32) (y19 : Int32) (m20 : Nat → Nat → Int32) (n21 : Nat → Nat → Int64) (r29 : Nat → Value), (1 ≤ y19.toInt) → (y19.toInt ≤ 8) → (y2.toInt < y19.toInt) → (CCN m20 n21) → IV BB m20 → fr wF m0 m20 → rn r0 r29 → ((8 - y19.toInt) : Int).toNat < fuel24 → PV none g mX11_bound (sqIrn T BB wF rn r0 m0 (-2147483648) 2147483647 (fun m' n' r' v => CCN m' n')) 6 0 0 30 [.ref 0, .int x0, pv_U, .int y18, .int y2, .int y19] [] (mk T m20 n21 r29) := by
          intro fuel24
          induction fuel24 with
          | zero => intro y18 y19 m20 n21 r29 b27 b28 b30 b31 I22 K23 or29 z32; omega
          | succ fuel24 ih26 =>
            intro y18 y19 m20 n21 r29 b27 b28 b30 b31 I22 K23 or29 z32
            have hc2 := or29.1
            have R := RX_rn2 R0 or or29
            have zR := R.2.2.2.2.1.1
            have zR2 := R.2.2.2.2.2.1
            have kgc30 := (show CCN m20 n21 by assumption)
            refine pv_iload (M := mX11_bound) dX11_bound_30 32 rfl rfl ?_
            refine pv_bipush (M := mX11_bound) (v := 8) dX11_bound_32 34 rfl (by decide) ?_
            refine pv_icmp_ge (M := mX11_bound) (tgt := 85) dX11_bound_34 37 rfl (by decide) (fun c34 => ?_) (fun c34 => ?_)
            · have c34 := iv_le (X := 8) (Y := y19.toInt) c34 (by decide) rfl
              refine iv_inc (M := mX11_bound) (C := 1) dX11_bound_85 88 rfl rfl (by decide) rfl rfl (by decide) (by omega) (by omega) (fun v35 ev35 => ?_)
              show PV _ _ _ _ _ _ _ 88 [.ref 0, .int x0, pv_U, .int y18, .int v35, .int y19] [] _
              refine pv_goto (M := mX11_bound) (tgt := 17) dX11_bound_88 (by decide) ?_
              refine pv_fg (lo2 := [.ref 0, .int x0, pv_U, .int y18, .int v35, pv_U]) ⟨Or.inr rfl, ⟨Or.inr rfl, ⟨Or.inl rfl, ⟨Or.inr rfl, ⟨Or.inr rfl, ⟨Or.inl rfl, trivial⟩⟩⟩⟩⟩⟩ ?_
              have kbc17 := kgc30
              exact ih9 y18 v35 m20 n21 r29 (by first | omega | assumption | exact (iv_rng _).2 | exact (iv_rng _).1 | decide) (by first | omega | assumption | exact (iv_rng _).2 | exact (iv_rng _).1 | decide) kbc17 I22 K23 or29 (by omega)
            · have c34 := iv_nle (X := 8) (Y := y19.toInt) c34 (by decide) rfl
              refine pv_iload_n (M := mX11_bound) 1 dX11_bound_37 38 rfl rfl rfl ?_
              refine pv_iload (M := mX11_bound) dX11_bound_38 40 rfl rfl ?_
              refine pv_calls (M := mX11_bound) (as := [.int x0, .int y2]) (st := []) (kc2 := 0) (ks2 := 0) dX11_bound_40 wd931 YX11_isAmong wd932 (s_X11_isAmong g hT I22 x0 y2) rfl rfl (Nat.le_of_ble_eq_true rfl) (by decide) rfl rfl 43 rfl (fun rv h1 q37 => ?_)
              obtain ⟨v38, rfl, rfl, pv38, qv38, rv38⟩ := q37
              replace rv38 : v38 = amv x0 y2 := rv38
              show PV _ _ _ _ _ _ _ 43 [.ref 0, .int x0, pv_U, .int y18, .int y2, .int y19] [.int v38] _
              have k43 : (amv x0 (Int32.ofInt (y2.toInt.toNat : Nat))).toInt = v38.toInt := by rw [ofn (by omega), rv38]
              refine pv_if_eq (M := mX11_bound) (tgt := 79) dX11_bound_43 46 rfl (by decide) (fun c40 => ?_) (fun c40 => ?_)
              · have c40 := iv_eq (X := v38.toInt) (Y := 0) c40 rfl (by decide)
                refine iv_inc (M := mX11_bound) (C := 1) dX11_bound_79 82 rfl rfl (by decide) rfl rfl (by decide) (by omega) (by omega) (fun v41 ev41 => ?_)
                show PV _ _ _ _ _ _ _ 82 [.ref 0, .int x0, pv_U, .int y18, .int y2, .int v41] [] _
                refine pv_goto (M := mX11_bound) (tgt := 30) dX11_bound_82 (by decide) ?_
                have kbc30 : CCN m20 n21 := by first | exact kCC | exact kgc30
                exact ih26 y18 v41 m20 n21 r29 (by first | omega | assumption | exact (iv_rng _).2 | exact (iv_rng _).1 | decide) (by first | omega | assumption | exact (iv_rng _).2 | exact (iv_rng _).1 | decide) (by first | omega | assumption | (show y2.toInt < v41.toInt; omega) | decide) kbc30 I22 K23 or29 (by omega)
              · have c40 := iv_ne (X := v38.toInt) (Y := 0) c40 rfl (by decide)
                refine pv_iload_n (M := mX11_bound) 1 dX11_bound_46 47 rfl rfl rfl ?_
                refine pv_iload (M := mX11_bound) dX11_bound_47 49 rfl rfl ?_
                refine pv_calls (M := mX11_bound) (as := [.int x0, .int y19]) (st := []) (kc2 := 0) (ks2 := 0) dX11_bound_49 wd931 YX11_isAmong wd932 (s_X11_isAmong g hT I22 x0 y19) rfl rfl (Nat.le_of_ble_eq_true rfl) (by decide) rfl rfl 52 rfl (fun rv h1 q43 => ?_)
                obtain ⟨v44, rfl, rfl, pv44, qv44, rv44⟩ := q43
                replace rv44 : v44 = amv x0 y19 := rv44
                show PV _ _ _ _ _ _ _ 52 [.ref 0, .int x0, pv_U, .int y18, .int y2, .int y19] [.int v44] _
                have k52 : (amv x0 (Int32.ofInt (y19.toInt.toNat : Nat))).toInt = v44.toInt := by rw [ofn (by omega), rv44]
                refine pv_if_eq (M := mX11_bound) (tgt := 79) dX11_bound_52 55 rfl (by decide) (fun c46 => ?_) (fun c46 => ?_)
                · have c46 := iv_eq (X := v44.toInt) (Y := 0) c46 rfl (by decide)
                  refine iv_inc (M := mX11_bound) (C := 1) dX11_bound_79 82 rfl rfl (by decide) rfl rfl (by decide) (by omega) (by omega) (fun v47 ev47 => ?_)
                  show PV _ _ _ _ _ _ _ 82 [.ref 0, .int x0, pv_U, .int y18, .int y2, .int v47] [] _
                  refine pv_goto (M := mX11_bound) (tgt := 30) dX11_bound_82 (by decide) ?_
                  have kbc30 : CCN m20 n21 := by first | exact kCC | exact kgc30
                  exact ih26 y18 v47 m20 n21 r29 (by first | omega | assumption | exact (iv_rng _).2 | exact (iv_rng _).1 | decide) (by first | omega | assumption | exact (iv_rng _).2 | exact (iv_rng _).1 | decide) (by first | omega | assumption | (show y2.toInt < v47.toInt; omega) | decide) kbc30 I22 K23 or29 (by omega)
                · have c46 := iv_ne (X := v44.toInt) (Y := 0) c46 rfl (by decide)
                  refine pv_iload_n (M := mX11_bound) 3 dX11_bound_55 56 rfl rfl rfl ?_
                  refine pv_aload_n (M := mX11_bound) 0 dX11_bound_56 57 rfl rfl rfl ?_
                  refine pv_iconst (M := mX11_bound) (v := 1) dX11_bound_57 58 rfl (by decide) ?_
                  refine pv_iload (M := mX11_bound) dX11_bound_58 60 rfl rfl ?_
                  refine iv_shlU (M := mX11_bound) dX11_bound_60 61 rfl (fun v49 ev49 => ?_)
                  have pv49 : 1 ≤ v49.toInt ∧ v49.toInt ≤ 128 := by rw [ev49]; exact iv_sh17 (by omega) (by omega)
                  have k61 := ev49
                  refine pv_iconst (M := mX11_bound) (v := 1) dX11_bound_61 62 rfl (by decide) ?_
                  refine pv_iload (M := mX11_bound) dX11_bound_62 64 rfl rfl ?_
                  refine iv_shlU (M := mX11_bound) dX11_bound_64 65 rfl (fun v51 ev51 => ?_)
                  have pv51 : 1 ≤ v51.toInt ∧ v51.toInt ≤ 128 := by rw [ev51]; exact iv_sh17 (by omega) (by omega)
                  have k65 := ev51
                  refine iv_orU (M := mX11_bound) dX11_bound_65 66 rfl (fun v53 ev53 => ?_)
                  have pv53 : 0 ≤ v53.toInt ∧ v53.toInt ≤ 255 := by rw [ev53]; exact iv_or8 (by omega) (by omega) (by omega) (by omega)
                  have kpx : v53 = pxy y2.toInt.toNat y19.toInt.toNat := by rw [ev53, k61, k65]; unfold pxy; rw [ofn (by omega), ofn (by omega)]
                  have kpo := pxy_ok (i := y2.toInt.toNat) (j := y19.toInt.toNat) (by omega) (by omega)
                  have kps := pxy_sz (m := m0) (m2 := m20) (x := x0) (i := y2.toInt.toNat) (j := y19.toInt.toNat) (by omega) (by omega) hp2 (by omega) (by omega) (fun a q h => K23 a q (wF_isW h))
                  rw [← kpx] at kpo kps
                  refine pv_callv (M := mX11_bound) (as := [.int v53]) (st := [.int y18]) (kc2 := 0) (ks2 := 0) dX11_bound_66 wd963 YX11_coverFor ⟨wd965, wd39⟩ (mk_get (tl0 hT)) rfl rfl (s_X11_coverFor_vq g hT I22 R hC hc2 v53 kpo.1 kpo.2 kps kgc30) rfl rfl (Nat.le_of_ble_eq_true rfl) (by decide) rfl rfl 69 rfl (fun rv h1 q58 => ?_)
                  obtain ⟨m59, n60, r63, rfl, rfl, I61, K62, qr63, rm59⟩ := q58
                  replace rm59 : m59 169 1 = v53 ∧ SHN m59 v53 (n60 179 0) := rm59
                  have or63 := rn.trans or29 qr63
                  have R := RX_rn R qr63
                  have zR := R.2.2.2.2.1.1
                  have zR2 := R.2.2.2.2.2.1
                  have hc2 : r63 2 = .ref 169 := or63.1
                  have K62c := K62
                  have K62 := K23.trans (K62.sub WX_wF)
                  show PV _ _ _ _ _ _ _ 69 [.ref 0, .int x0, pv_U, .int y18, .int y2, .int y19] [.ref 169, .int y18] _
                  have kCC : CCN m59 n60 := CCN_of rm59
                  refine mv_get (M := mX11_bound) (v := .ref 170) dX11_bound_69 FX3 0 wd980 (by decide) (tc169 hC) rfl rfl 72 rfl ?_
                  refine iv_get (M := mX11_bound) (l1 := 0) (l2 := 48) dX11_bound_72 FX8 1 wd200 (by decide) (tc170 hC) rfl I61 rfl 75 rfl (fun v65 ev65 pv65 qv65 => ?_)
                  refine iv_max (M := mX11_bound) (X := y18.toInt) (Y := v65.toInt) dX11_bound_75 wd883 Wmmax (Nat.le_of_ble_eq_true rfl) (by decide) rfl rfl 78 rfl (fun v66 ev66 fv66 gv66 => ?_)
                  refine pv_istore_n (M := mX11_bound) 3 (lo2 := [.ref 0, .int x0, pv_U, .int v66, .int y2, .int y19]) dX11_bound_78 79 rfl rfl (by decide) rfl rfl ?_
                  refine iv_inc (M := mX11_bound) (C := 1) dX11_bound_79 82 rfl rfl (by decide) rfl rfl (by decide) (by omega) (by omega) (fun v67 ev67 => ?_)
                  show PV _ _ _ _ _ _ _ 82 [.ref 0, .int x0, pv_U, .int v66, .int y2, .int v67] [] _
                  refine pv_goto (M := mX11_bound) (tgt := 30) dX11_bound_82 (by decide) ?_
                  have kbc30 : CCN m59 n60 := by first | exact kCC | exact kgc30
                  exact ih26 v66 v67 m59 n60 r63 (by first | omega | assumption | exact (iv_rng _).2 | exact (iv_rng _).1 | decide) (by first | omega | assumption | exact (iv_rng _).2 | exact (iv_rng _).1 | decide) (by first | omega | assumption | (show y2.toInt < v67.toInt; omega) | decide) kbc30 I61 K62 or63 (by omega)
        exact lp25 (((8 - v17.toInt) : Int).toNat + 1) y1 v17 m3 n4 r12 (by first | omega | assumption | exact (iv_rng _).2 | exact (iv_rng _).1 | decide) (by first | omega | assumption | exact (iv_rng _).2 | exact (iv_rng _).1 | decide) (by first | omega | assumption | (show y2.toInt < v17.toInt; omega) | decide) kgc17 I5 K6 or12 (by omega)
  exact lp8 (((8 - y4.toInt) : Int).toNat + 1) y3 y4 m n r (by first | omega | assumption | exact (iv_rng _).2 | exact (iv_rng _).1 | decide) (by first | omega | assumption | exact (iv_rng _).2 | exact (iv_rng _).1 | decide) hp0 I Kp or (by omega)

set_option maxHeartbeats 2000000 in
set_option maxRecDepth 20000 in
theorem s_X11_bound_vs30q (g : pv_G) {T : List mv_T} {m : Nat → Nat → Int32} {n : Nat → Nat → Int64} {r : Nat → Value} {m0 : Nat → Nat → Int32} {r0 : Nat → Value} {la lb : Nat} (hT : TX T) (I : IV BB m) (Kp : fr wF m0 m) (or : rn r0 r) (R : RX T r la lb) (hC : TC T) (hc2 : r 2 = .ref 169) (x0 : Int32) (hp0 : CCN m n) (hp1 : G1 m0 x0) (hp2 : G2 m0 x0) (y3 : Int32) (y4 : Int32) (hy4 : 0 ≤ y4.toInt) (hz4 : y4.toInt ≤ 7) (y5 : Int32) (hy5 : 1 ≤ y5.toInt) (hz5 : y5.toInt ≤ 8) (hq0 : y4.toInt < y5.toInt) : PV none g mX11_bound (sqIrn T BB wF rn r0 m0 (-2147483648) 2147483647 (fun m' n' r' v => CCN m' n')) 6 0 0 30 [.ref 0, .int x0, pv_U, .int y3, .int y4, .int y5] [] (mk T m n r) := by
  have R0 := R
  have zR := R.2.2.2.2.1.1
  have zR2 := R.2.2.2.2.2.1
  have hc20 := hc2
  have lp8 : ∀ (fuel7 : Nat) (y1 : Int32) (y2 : Int32) (m3 : Nat → Nat → Int32) (n4 : Nat → Nat → Int64) (r12 : Nat → Value), (1 ≤ y2.toInt) → (y2.toInt ≤ 8) → (y4.toInt < y2.toInt) → (CCN m3 n4) → IV BB m3 → fr wF m0 m3 → rn r0 r12 → ((8 - y2.toInt) : Int).toNat < fuel7 → PV none g mX11_bound (sqIrn T BB wF rn r0 m0 (-2147483648) 2147483647 (fun m' n' r' v => CCN m' n')) 6 0 0 30 [.ref 0, .int x0, pv_U, .int y1, .int y4, .int y2] [] (mk T m3 n4 r12) := by
    intro fuel7
    induction fuel7 with
    | zero => intro y1 y2 m3 n4 r12 b10 b11 b13 b14 I5 K6 or12 z15; omega
    | succ fuel7 ih9 =>
      intro y1 y2 m3 n4 r12 b10 b11 b13 b14 I5 K6 or12 z15
      have hc2 := or12.1
      have R := RX_rn2 R0 or or12
      have zR := R.2.2.2.2.1.1
      have zR2 := R.2.2.2.2.2.1
      have kgc30 := (show CCN m3 n4 by assumption)
      refine pv_iload (M := mX11_bound) dX11_bound_30 32 rfl rfl ?_
      refine pv_bipush (M := mX11_bound) (v := 8) dX11_bound_32 34 rfl (by decide) ?_
      refine pv_icmp_ge (M := mX11_bound) (tgt := 85) dX11_bound_34 37 rfl (by decide) (fun c17 => ?_) (fun c17 => ?_)
      · have c17 := iv_le (X := 8) (Y := y2.toInt) c17 (by decide) rfl
        refine iv_inc (M := mX11_bound) (C := 1) dX11_bound_85 88 rfl rfl (by decide) rfl rfl (by decide) (by omega) (by omega) (fun v18 ev18 => ?_)
        show PV _ _ _ _ _ _ _ 88 [.ref 0, .int x0, pv_U, .int y1, .int v18, .int y2] [] _
        refine pv_goto (M := mX11_bound) (tgt := 17) dX11_bound_88 (by decide) ?_
        exact pv_fg (lo2 := [.ref 0, .int x0, pv_U, .int y1, .int v18, pv_U]) ⟨Or.inr rfl, Or.inr rfl, Or.inr rfl, Or.inr rfl, Or.inr rfl, Or.inl rfl, trivial⟩ (s_X11_bound_vs17q g hT I5 K6 or12 R hC hc2 x0 kgc30 hp1 hp2 y1 v18 (by omega) (by omega))
      · have c17 := iv_nle (X := 8) (Y := y2.toInt) c17 (by decide) rfl
        refine pv_iload_n (M := mX11_bound) 1 dX11_bound_37 38 rfl rfl rfl ?_
        refine pv_iload (M := mX11_bound) dX11_bound_38 40 rfl rfl ?_
        refine pv_calls (M := mX11_bound) (as := [.int x0, .int y4]) (st := []) (kc2 := 0) (ks2 := 0) dX11_bound_40 wd931 YX11_isAmong wd932 (s_X11_isAmong g hT I5 x0 y4) rfl rfl (Nat.le_of_ble_eq_true rfl) (by decide) rfl rfl 43 rfl (fun rv h1 q20 => ?_)
        obtain ⟨v21, rfl, rfl, pv21, qv21, rv21⟩ := q20
        replace rv21 : v21 = amv x0 y4 := rv21
        show PV _ _ _ _ _ _ _ 43 [.ref 0, .int x0, pv_U, .int y1, .int y4, .int y2] [.int v21] _
        have k43 : (amv x0 (Int32.ofInt (y4.toInt.toNat : Nat))).toInt = v21.toInt := by rw [ofn (by omega), rv21]
        refine pv_if_eq (M := mX11_bound) (tgt := 79) dX11_bound_43 46 rfl (by decide) (fun c23 => ?_) (fun c23 => ?_)
        · have c23 := iv_eq (X := v21.toInt) (Y := 0) c23 rfl (by decide)
          refine iv_inc (M := mX11_bound) (C := 1) dX11_bound_79 82 rfl rfl (by decide) rfl rfl (by decide) (by omega) (by omega) (fun v24 ev24 => ?_)
          show PV _ _ _ _ _ _ _ 82 [.ref 0, .int x0, pv_U, .int y1, .int y4, .int v24] [] _
          refine pv_goto (M := mX11_bound) (tgt := 30) dX11_bound_82 (by decide) ?_
          have kbc30 : CCN m3 n4 := by first | exact kCC | exact kgc30
          exact ih9 y1 v24 m3 n4 r12 (by first | omega | assumption | exact (iv_rng _).2 | exact (iv_rng _).1 | decide) (by first | omega | assumption | exact (iv_rng _).2 | exact (iv_rng _).1 | decide) (by first | omega | assumption | (show y4.toInt < v24.toInt; omega) | decide) kbc30 I5 K6 or12 (by omega)
        · have c23 := iv_ne (X := v21.toInt) (Y := 0) c23 rfl (by decide)
          refine pv_iload_n (M := mX11_bound) 1 dX11_bound_46 47 rfl rfl rfl ?_
          refine pv_iload (M := mX11_bound) dX11_bound_47 49 rfl rfl ?_
          refine pv_calls (M := mX11_bound) (as := [.int x0, .int y2]) (st := []) (kc2 := 0) (ks2 := 0) dX11_bound_49 wd931 YX11_isAmong wd932 (s_X11_isAmong g hT I5 x0 y2) rfl rfl (Nat.le_of_ble_eq_true rfl) (by decide) rfl rfl 52 rfl (fun rv h1 q26 => ?_)
          obtain ⟨v27, rfl, rfl, pv27, qv27, rv27⟩ := q26
          replace rv27 : v27 = amv x0 y2 := rv27
          show PV _ _ _ _ _ _ _ 52 [.ref 0, .int x0, pv_U, .int y1, .int y4, .int y2] [.int v27] _
          have k52 : (amv x0 (Int32.ofInt (y2.toInt.toNat : Nat))).toInt = v27.toInt := by rw [ofn (by omega), rv27]
          refine pv_if_eq (M := mX11_bound) (tgt := 79) dX11_bound_52 55 rfl (by decide) (fun c29 => ?_) (fun c29 => ?_)
          · have c29 := iv_eq (X := v27.toInt) (Y := 0) c29 rfl (by decide)
            refine iv_inc (M := mX11_bound) (C := 1) dX11_bound_79 82 rfl rfl (by decide) rfl rfl (by decide) (by omega) (by omega) (fun v30 ev30 => ?_)
            show PV _ _ _ _ _ _ _ 82 [.ref 0, .int x0, pv_U, .int y1, .int y4, .int v30] [] _
            refine pv_goto (M := mX11_bound) (tgt := 30) dX11_bound_82 (by decide) ?_
            have kbc30 : CCN m3 n4 := by first | exact kCC | exact kgc30
            exact ih9 y1 v30 m3 n4 r12 (by first | omega | assumption | exact (iv_rng _).2 | exact (iv_rng _).1 | decide) (by first | omega | assumption | exact (iv_rng _).2 | exact (iv_rng _).1 | decide) (by first | omega | assumption | (show y4.toInt < v30.toInt; omega) | decide) kbc30 I5 K6 or12 (by omega)
          · have c29 := iv_ne (X := v27.toInt) (Y := 0) c29 rfl (by decide)
            refine pv_iload_n (M := mX11_bound) 3 dX11_bound_55 56 rfl rfl rfl ?_
            refine pv_aload_n (M := mX11_bound) 0 dX11_bound_56 57 rfl rfl rfl ?_
            refine pv_iconst (M := mX11_bound) (v := 1) dX11_bound_57 58 rfl (by decide) ?_
            refine pv_iload (M := mX11_bound) dX11_bound_58 60 rfl rfl ?_
            refine iv_shlU (M := mX11_bound) dX11_bound_60 61 rfl (fun v32 ev32 => ?_)
            have pv32 : 1 ≤ v32.toInt ∧ v32.toInt ≤ 128 := by rw [ev32]; exact iv_sh17 (by omega) (by omega)
            have k61 := ev32
            refine pv_iconst (M := mX11_bound) (v := 1) dX11_bound_61 62 rfl (by decide) ?_
            refine pv_iload (M := mX11_bound) dX11_bound_62 64 rfl rfl ?_
            refine iv_shlU (M := mX11_bound) dX11_bound_64 65 rfl (fun v34 ev34 => ?_)
            have pv34 : 1 ≤ v34.toInt ∧ v34.toInt ≤ 128 := by rw [ev34]; exact iv_sh17 (by omega) (by omega)
            have k65 := ev34
            refine iv_orU (M := mX11_bound) dX11_bound_65 66 rfl (fun v36 ev36 => ?_)
            have pv36 : 0 ≤ v36.toInt ∧ v36.toInt ≤ 255 := by rw [ev36]; exact iv_or8 (by omega) (by omega) (by omega) (by omega)
            have kpx : v36 = pxy y4.toInt.toNat y2.toInt.toNat := by rw [ev36, k61, k65]; unfold pxy; rw [ofn (by omega), ofn (by omega)]
            have kpo := pxy_ok (i := y4.toInt.toNat) (j := y2.toInt.toNat) (by omega) (by omega)
            have kps := pxy_sz (m := m0) (m2 := m3) (x := x0) (i := y4.toInt.toNat) (j := y2.toInt.toNat) (by omega) (by omega) hp2 (by omega) (by omega) (fun a q h => K6 a q (wF_isW h))
            rw [← kpx] at kpo kps
            refine pv_callv (M := mX11_bound) (as := [.int v36]) (st := [.int y1]) (kc2 := 0) (ks2 := 0) dX11_bound_66 wd963 YX11_coverFor ⟨wd965, wd39⟩ (mk_get (tl0 hT)) rfl rfl (s_X11_coverFor_vq g hT I5 R hC hc2 v36 kpo.1 kpo.2 kps kgc30) rfl rfl (Nat.le_of_ble_eq_true rfl) (by decide) rfl rfl 69 rfl (fun rv h1 q41 => ?_)
            obtain ⟨m42, n43, r46, rfl, rfl, I44, K45, qr46, rm42⟩ := q41
            replace rm42 : m42 169 1 = v36 ∧ SHN m42 v36 (n43 179 0) := rm42
            have or46 := rn.trans or12 qr46
            have R := RX_rn R qr46
            have zR := R.2.2.2.2.1.1
            have zR2 := R.2.2.2.2.2.1
            have hc2 : r46 2 = .ref 169 := or46.1
            have K45c := K45
            have K45 := K6.trans (K45.sub WX_wF)
            show PV _ _ _ _ _ _ _ 69 [.ref 0, .int x0, pv_U, .int y1, .int y4, .int y2] [.ref 169, .int y1] _
            have kCC : CCN m42 n43 := CCN_of rm42
            refine mv_get (M := mX11_bound) (v := .ref 170) dX11_bound_69 FX3 0 wd980 (by decide) (tc169 hC) rfl rfl 72 rfl ?_
            refine iv_get (M := mX11_bound) (l1 := 0) (l2 := 48) dX11_bound_72 FX8 1 wd200 (by decide) (tc170 hC) rfl I44 rfl 75 rfl (fun v48 ev48 pv48 qv48 => ?_)
            refine iv_max (M := mX11_bound) (X := y1.toInt) (Y := v48.toInt) dX11_bound_75 wd883 Wmmax (Nat.le_of_ble_eq_true rfl) (by decide) rfl rfl 78 rfl (fun v49 ev49 fv49 gv49 => ?_)
            refine pv_istore_n (M := mX11_bound) 3 (lo2 := [.ref 0, .int x0, pv_U, .int v49, .int y4, .int y2]) dX11_bound_78 79 rfl rfl (by decide) rfl rfl ?_
            refine iv_inc (M := mX11_bound) (C := 1) dX11_bound_79 82 rfl rfl (by decide) rfl rfl (by decide) (by omega) (by omega) (fun v50 ev50 => ?_)
            show PV _ _ _ _ _ _ _ 82 [.ref 0, .int x0, pv_U, .int v49, .int y4, .int v50] [] _
            refine pv_goto (M := mX11_bound) (tgt := 30) dX11_bound_82 (by decide) ?_
            have kbc30 : CCN m42 n43 := by first | exact kCC | exact kgc30
            exact ih9 v49 v50 m42 n43 r46 (by first | omega | assumption | exact (iv_rng _).2 | exact (iv_rng _).1 | decide) (by first | omega | assumption | exact (iv_rng _).2 | exact (iv_rng _).1 | decide) (by first | omega | assumption | (show y4.toInt < v50.toInt; omega) | decide) kbc30 I44 K45 or46 (by omega)
  exact lp8 (((8 - y5.toInt) : Int).toNat + 1) y3 y5 m n r (by first | omega | assumption | exact (iv_rng _).2 | exact (iv_rng _).1 | decide) (by first | omega | assumption | exact (iv_rng _).2 | exact (iv_rng _).1 | decide) (by first | omega | assumption | (show y4.toInt < y5.toInt; omega) | decide) hp0 I Kp or (by omega)

set_option maxHeartbeats 2000000 in
set_option maxRecDepth 20000 in
theorem s_X11_bound_vcq (g : pv_G) {T : List mv_T} {m : Nat → Nat → Int32} {n : Nat → Nat → Int64} {r : Nat → Value} {la lb : Nat} (hT : TX T) (I : IV BB m) (R : RX T r la lb) (hC : TC T) (hc2 : r 2 = .ref 169) (x0 : Int32) (hp0 : CCN m n) : PM g mX11_bound yX11_bound (sqIrn T BB wF rn r m (-2147483648) 2147483647 (fun m' n' r' v => CCN m' n')) 6 0 0 [.ref 0, .int x0] (mk T m n r) := by
  have Kp : fr wF m m := fr.rf
  have R0 := R
  have zR := R.2.2.2.2.1.1
  have zR2 := R.2.2.2.2.2.1
  have hc20 := hc2
  refine PM.of 4 (lo := [.ref 0, .int x0, pv_U, pv_U, pv_U, pv_U]) rfl (by decide) rfl rfl (Nat.le_of_ble_eq_true rfl) ?_
  refine pv_aload_n (M := mX11_bound) 0 dX11_bound_0 1 rfl rfl rfl ?_
  refine pv_iload_n (M := mX11_bound) 1 dX11_bound_1 2 rfl rfl rfl ?_
  refine pv_callv (M := mX11_bound) (as := [.int x0]) (st := []) (kc2 := 0) (ks2 := 0) dX11_bound_2 wd959 YX11_refuseCover ⟨wd961, wd38⟩ (mk_get (tl0 hT)) rfl rfl (s_X11_refuseCover_ve g hT I R x0) rfl rfl (Nat.le_of_ble_eq_true rfl) (by decide) rfl rfl 5 rfl (fun rv h1 q1 => ?_)
  obtain ⟨v2, rfl, rfl, pv2, qv2, rv2⟩ := q1
  replace rv2 : RFV m x0 v2.toInt := rv2
  show PV _ _ _ _ _ _ _ 5 [.ref 0, .int x0, pv_U, pv_U, pv_U, pv_U] [.int v2] _
  have ke := rv2
  refine pv_istore_n (M := mX11_bound) 2 (lo2 := [.ref 0, .int x0, .int v2, pv_U, pv_U, pv_U]) dX11_bound_5 6 rfl rfl (by decide) rfl rfl ?_
  refine pv_iload_n (M := mX11_bound) 2 dX11_bound_6 7 rfl rfl rfl ?_
  refine pv_if_eq (M := mX11_bound) (tgt := 12) dX11_bound_7 10 rfl (by decide) (fun c4 => ?_) (fun c4 => ?_)
  · have c4 := iv_eq (X := v2.toInt) (Y := 0) c4 rfl (by decide)
    have kok := RFV_ok ke (by omega)
    refine pv_iconst (M := mX11_bound) (v := 0) dX11_bound_12 13 rfl (by decide) ?_
    refine pv_istore_n (M := mX11_bound) 3 (lo2 := [.ref 0, .int x0, .int v2, .int 0, pv_U, pv_U]) dX11_bound_13 14 rfl rfl (by decide) rfl rfl ?_
    refine pv_iconst (M := mX11_bound) (v := 0) dX11_bound_14 15 rfl (by decide) ?_
    refine pv_istore (M := mX11_bound) (lo2 := [.ref 0, .int x0, .int v2, .int 0, .int 0, pv_U]) dX11_bound_15 17 rfl (by decide) rfl rfl ?_
    exact pv_fg (lo2 := [.ref 0, .int x0, pv_U, .int 0, .int 0, pv_U]) ⟨Or.inr rfl, Or.inr rfl, Or.inl rfl, Or.inr rfl, Or.inr rfl, Or.inr rfl, trivial⟩ (s_X11_bound_vs17q g hT I Kp (rn.rf hc20) R hC hc2 x0 hp0 kok.1 kok.2 0 0 (by decide) (by decide))
  · have c4 := iv_ne (X := v2.toInt) (Y := 0) c4 rfl (by decide)
    refine pv_iload_n (M := mX11_bound) 2 dX11_bound_10 11 rfl rfl rfl ?_
    exact pv_iret (M := mX11_bound) dX11_bound_11 rfl rfl ⟨_, _, _, _, rfl, rfl, I, Kp, (rn.rf hc20), (iv_rng v2).1, (iv_rng v2).2, hp0⟩

set_option maxHeartbeats 2000000 in
set_option maxRecDepth 20000 in
theorem s_X11_bound_vnq (g : pv_G) {T : List mv_T} {m : Nat → Nat → Int32} {n : Nat → Nat → Int64} {r : Nat → Value} {la lb : Nat} (hT : TX T) (I : IV BB m) (R : RX T r la lb) (hTL : T = TL) (hc0 : r 2 = .null) (x0 : Int32) (hp0 : cOK m x0) (hp1 : ¬ (∀ i j : Nat, i < j → j < 8 → (amv x0 (Int32.ofInt i)).toInt = 0 ∨ (amv x0 (Int32.ofInt j)).toInt = 0)) : PM g mX11_bound yX11_bound (sqIrn TL2 BB wF rn r m (-2147483648) 2147483647 (fun m' n' r' v => CCN m' n')) 6 11 57200 [.ref 0, .int x0] (mk T m n r) := by
  have Kp : fr wF m m := fr.rf
  have R0 := R
  have zR := R.2.2.2.2.1.1
  have zR2 := R.2.2.2.2.2.1
  refine PM.of 4 (lo := [.ref 0, .int x0, pv_U, pv_U, pv_U, pv_U]) rfl (by decide) rfl rfl (Nat.le_of_ble_eq_true rfl) ?_
  refine pv_aload_n (M := mX11_bound) 0 dX11_bound_0 1 rfl rfl rfl ?_
  refine pv_iload_n (M := mX11_bound) 1 dX11_bound_1 2 rfl rfl rfl ?_
  refine pv_callv (M := mX11_bound) (as := [.int x0]) (st := []) (kc2 := 11) (ks2 := 57200) dX11_bound_2 wd959 YX11_refuseCover ⟨wd961, wd38⟩ (mk_get (tl0 hT)) rfl rfl (s_X11_refuseCover g hT I R x0) rfl rfl (Nat.le_of_ble_eq_true rfl) (by decide) rfl rfl 5 rfl (fun rv h1 q1 => ?_)
  obtain ⟨v2, rfl, rfl, pv2, qv2, rv2⟩ := q1
  replace rv2 : RFZ m x0 v2 := rv2
  show PV _ _ _ _ _ _ _ 5 [.ref 0, .int x0, pv_U, pv_U, pv_U, pv_U] [.int v2] _
  have kr : RFZ m x0 v2 := rv2
  have kG := cOK_G.mp hp0
  refine pv_istore_n (M := mX11_bound) 2 (lo2 := [.ref 0, .int x0, .int v2, pv_U, pv_U, pv_U]) dX11_bound_5 6 rfl rfl (by decide) rfl rfl ?_
  refine pv_iload_n (M := mX11_bound) 2 dX11_bound_6 7 rfl rfl rfl ?_
  refine pv_if_eq (M := mX11_bound) (tgt := 12) dX11_bound_7 10 rfl (by decide) (fun c5 => ?_) (fun c5 => ?_)
  · have c5 := iv_eq (X := v2.toInt) (Y := 0) c5 rfl (by decide)
    refine pv_iconst (M := mX11_bound) (v := 0) dX11_bound_12 13 rfl (by decide) ?_
    refine pv_istore_n (M := mX11_bound) 3 (lo2 := [.ref 0, .int x0, .int v2, .int 0, pv_U, pv_U]) dX11_bound_13 14 rfl rfl (by decide) rfl rfl ?_
    refine pv_iconst (M := mX11_bound) (v := 0) dX11_bound_14 15 rfl (by decide) ?_
    refine pv_istore (M := mX11_bound) (lo2 := [.ref 0, .int x0, .int v2, .int 0, .int 0, pv_U]) dX11_bound_15 17 rfl (by decide) rfl rfl ?_
    have lp13 : ∀ (fuel12 : Nat) (y6 : Int32) (y7 : Int32) (m8 : Nat → Nat → Int32) (n9 : Nat → Nat → Int64), (0 ≤ y6.toInt) → (y6.toInt ≤ 48) → (0 ≤ y7.toInt) → (y7.toInt ≤ 8) → (∀ i j : Nat, i < j → j < 8 → (i : Int) < y7.toInt → (amv x0 (Int32.ofInt i)).toInt = 0 ∨ (amv x0 (Int32.ofInt j)).toInt = 0) → IV BB m8 → fr wF m m8 → ((8 - y7.toInt) : Int).toNat < fuel12 → PV none g mX11_bound (sqIrn TL2 BB wF rn r m (-2147483648) 2147483647 (fun m' n' r' v => CCN m' n')) 6 11 57200 17 [.ref 0, .int x0, .int v2, .int y6, .int y7, pv_U] [] (mk T m8 n9 r) := by
      intro fuel12
      induction fuel12 with
      | zero => intro y6 y7 m8 n9 b15 b16 b17 b18 b19 I10 K11 z20; omega
      | succ fuel12 ih14 =>
        intro y6 y7 m8 n9 b15 b16 b17 b18 b19 I10 K11 z20
        have kf17 := (show ∀ i j : Nat, i < j → j < 8 → (i : Int) < y7.toInt → (amv x0 (Int32.ofInt i)).toInt = 0 ∨ (amv x0 (Int32.ofInt j)).toInt = 0 by assumption)
        refine pv_iload (M := mX11_bound) dX11_bound_17 19 rfl rfl ?_
        refine pv_bipush (M := mX11_bound) (v := 8) dX11_bound_19 21 rfl (by decide) ?_
        refine pv_icmp_ge (M := mX11_bound) (tgt := 91) dX11_bound_21 24 rfl (by decide) (fun c22 => ?_) (fun c22 => ?_)
        · have c22 := iv_le (X := 8) (Y := y7.toInt) c22 (by decide) rfl
          exact absurd (fun i j h h8 => kf17 i j h h8 (by omega)) hp1
        · have c22 := iv_nle (X := 8) (Y := y7.toInt) c22 (by decide) rfl
          refine pv_iload (M := mX11_bound) dX11_bound_24 26 rfl rfl ?_
          refine pv_iconst (M := mX11_bound) (v := 1) dX11_bound_26 27 rfl (by decide) ?_
          refine iv_iadd (M := mX11_bound) (X := y7.toInt) (Y := 1) dX11_bound_27 28 rfl rfl (by decide) (by omega) (by omega) (fun v24 ev24 => ?_)
          refine pv_istore (M := mX11_bound) (lo2 := [.ref 0, .int x0, .int v2, .int y6, .int y7, .int v24]) dX11_bound_28 30 rfl (by decide) rfl rfl ?_
          have lp32 : ∀ (fuel31 : Nat) (y25 : Int32) (y26 : Int32) (m27 : Nat → Nat → Int32) (n28 : Nat → Nat → Int64), (0 ≤ y25.toInt) → (y25.toInt ≤ 48) → (1 ≤ y26.toInt) → (y26.toInt ≤ 8) → (y7.toInt < y26.toInt) → (∀ j : Nat, y7.toInt < (j : Int) → (j : Int) < y26.toInt → (amv x0 (Int32.ofInt (y7.toInt.toNat : Nat))).toInt = 0 ∨ (amv x0 (Int32.ofInt j)).toInt = 0) → IV BB m27 → fr wF m m27 → ((8 - y26.toInt) : Int).toNat < fuel31 → PV none g mX11_bound (sqIrn TL2 BB wF rn r m (-2147483648) 2147483647 (fun m' n' r' v => CCN m' n')) 6 11 57200 30 [.ref 0, .int x0, .int v2, .int y25, .int y7, .int y26] [] (mk T m27 n28 r) := by
            intro fuel31
            induction fuel31 with
            | zero => intro y25 y26 m27 n28 b34 b35 b36 b37 b38 b39 I29 K30 z40; omega
            | succ fuel31 ih33 =>
              intro y25 y26 m27 n28 b34 b35 b36 b37 b38 b39 I29 K30 z40
              have kf30 := (show ∀ j : Nat, y7.toInt < (j : Int) → (j : Int) < y26.toInt → (amv x0 (Int32.ofInt (y7.toInt.toNat : Nat))).toInt = 0 ∨ (amv x0 (Int32.ofInt j)).toInt = 0 by assumption)
              refine pv_iload (M := mX11_bound) dX11_bound_30 32 rfl rfl ?_
              refine pv_bipush (M := mX11_bound) (v := 8) dX11_bound_32 34 rfl (by decide) ?_
              refine pv_icmp_ge (M := mX11_bound) (tgt := 85) dX11_bound_34 37 rfl (by decide) (fun c42 => ?_) (fun c42 => ?_)
              · have c42 := iv_le (X := 8) (Y := y26.toInt) c42 (by decide) rfl
                refine iv_inc (M := mX11_bound) (C := 1) dX11_bound_85 88 rfl rfl (by decide) rfl rfl (by decide) (by omega) (by omega) (fun v43 ev43 => ?_)
                show PV _ _ _ _ _ _ _ 88 [.ref 0, .int x0, .int v2, .int y25, .int v43, .int y26] [] _
                refine pv_goto (M := mX11_bound) (tgt := 17) dX11_bound_88 (by decide) ?_
                refine pv_fg (lo2 := [.ref 0, .int x0, .int v2, .int y25, .int v43, pv_U]) ⟨Or.inr rfl, ⟨Or.inr rfl, ⟨Or.inr rfl, ⟨Or.inr rfl, ⟨Or.inr rfl, ⟨Or.inl rfl, trivial⟩⟩⟩⟩⟩⟩ ?_
                have kb17 : ∀ i j : Nat, i < j → j < 8 → (i : Int) < v43.toInt → (amv x0 (Int32.ofInt i)).toInt = 0 ∨ (amv x0 (Int32.ofInt j)).toInt = 0 := fun i j h h8 a => if z : (i : Int) = y7.toInt then (by rw [show i = (y7.toInt).toNat by omega]; exact kf30 j (by omega) (by omega)) else kf17 i j h h8 (by omega)
                exact ih14 y25 v43 m27 n28 (by first | omega | assumption | exact (iv_rng _).2 | exact (iv_rng _).1 | decide) (by first | omega | assumption | exact (iv_rng _).2 | exact (iv_rng _).1 | decide) (by first | omega | assumption | exact (iv_rng _).2 | exact (iv_rng _).1 | decide) (by first | omega | assumption | exact (iv_rng _).2 | exact (iv_rng _).1 | decide) kb17 I29 K30 (by omega)
              · have c42 := iv_nle (X := 8) (Y := y26.toInt) c42 (by decide) rfl
                refine pv_iload_n (M := mX11_bound) 1 dX11_bound_37 38 rfl rfl rfl ?_
                refine pv_iload (M := mX11_bound) dX11_bound_38 40 rfl rfl ?_
                refine pv_calls (M := mX11_bound) (as := [.int x0, .int y7]) (st := []) (kc2 := 11) (ks2 := 57200) dX11_bound_40 wd931 YX11_isAmong wd932 (s_X11_isAmong g hT I29 x0 y7) rfl rfl (Nat.le_of_ble_eq_true rfl) (by decide) rfl rfl 43 rfl (fun rv h1 q45 => ?_)
                obtain ⟨v46, rfl, rfl, pv46, qv46, rv46⟩ := q45
                replace rv46 : v46 = amv x0 y7 := rv46
                show PV _ _ _ _ _ _ _ 43 [.ref 0, .int x0, .int v2, .int y25, .int y7, .int y26] [.int v46] _
                have k43 : (amv x0 (Int32.ofInt (y7.toInt.toNat : Nat))).toInt = v46.toInt := by rw [ofn (by omega), rv46]
                refine pv_if_eq (M := mX11_bound) (tgt := 79) dX11_bound_43 46 rfl (by decide) (fun c48 => ?_) (fun c48 => ?_)
                · have c48 := iv_eq (X := v46.toInt) (Y := 0) c48 rfl (by decide)
                  refine iv_inc (M := mX11_bound) (C := 1) dX11_bound_79 82 rfl rfl (by decide) rfl rfl (by decide) (by omega) (by omega) (fun v49 ev49 => ?_)
                  show PV _ _ _ _ _ _ _ 82 [.ref 0, .int x0, .int v2, .int y25, .int y7, .int v49] [] _
                  refine pv_goto (M := mX11_bound) (tgt := 30) dX11_bound_82 (by decide) ?_
                  have kb30 : ∀ j : Nat, y7.toInt < (j : Int) → (j : Int) < v49.toInt → (amv x0 (Int32.ofInt (y7.toInt.toNat : Nat))).toInt = 0 ∨ (amv x0 (Int32.ofInt j)).toInt = 0 := fun j a b => if z : (j : Int) = y26.toInt then (by rw [show j = (y26.toInt).toNat by omega]; omega) else kf30 j a (by omega)
                  exact ih33 y25 v49 m27 n28 (by first | omega | assumption | exact (iv_rng _).2 | exact (iv_rng _).1 | decide) (by first | omega | assumption | exact (iv_rng _).2 | exact (iv_rng _).1 | decide) (by first | omega | assumption | exact (iv_rng _).2 | exact (iv_rng _).1 | decide) (by first | omega | assumption | exact (iv_rng _).2 | exact (iv_rng _).1 | decide) (by first | omega | assumption | (show y7.toInt < v49.toInt; omega) | decide) kb30 I29 K30 (by omega)
                · have c48 := iv_ne (X := v46.toInt) (Y := 0) c48 rfl (by decide)
                  refine pv_iload_n (M := mX11_bound) 1 dX11_bound_46 47 rfl rfl rfl ?_
                  refine pv_iload (M := mX11_bound) dX11_bound_47 49 rfl rfl ?_
                  refine pv_calls (M := mX11_bound) (as := [.int x0, .int y26]) (st := []) (kc2 := 11) (ks2 := 57200) dX11_bound_49 wd931 YX11_isAmong wd932 (s_X11_isAmong g hT I29 x0 y26) rfl rfl (Nat.le_of_ble_eq_true rfl) (by decide) rfl rfl 52 rfl (fun rv h1 q51 => ?_)
                  obtain ⟨v52, rfl, rfl, pv52, qv52, rv52⟩ := q51
                  replace rv52 : v52 = amv x0 y26 := rv52
                  show PV _ _ _ _ _ _ _ 52 [.ref 0, .int x0, .int v2, .int y25, .int y7, .int y26] [.int v52] _
                  have k52 : (amv x0 (Int32.ofInt (y26.toInt.toNat : Nat))).toInt = v52.toInt := by rw [ofn (by omega), rv52]
                  refine pv_if_eq (M := mX11_bound) (tgt := 79) dX11_bound_52 55 rfl (by decide) (fun c54 => ?_) (fun c54 => ?_)
                  · have c54 := iv_eq (X := v52.toInt) (Y := 0) c54 rfl (by decide)
                    refine iv_inc (M := mX11_bound) (C := 1) dX11_bound_79 82 rfl rfl (by decide) rfl rfl (by decide) (by omega) (by omega) (fun v55 ev55 => ?_)
                    show PV _ _ _ _ _ _ _ 82 [.ref 0, .int x0, .int v2, .int y25, .int y7, .int v55] [] _
                    refine pv_goto (M := mX11_bound) (tgt := 30) dX11_bound_82 (by decide) ?_
                    have kb30 : ∀ j : Nat, y7.toInt < (j : Int) → (j : Int) < v55.toInt → (amv x0 (Int32.ofInt (y7.toInt.toNat : Nat))).toInt = 0 ∨ (amv x0 (Int32.ofInt j)).toInt = 0 := fun j a b => if z : (j : Int) = y26.toInt then (by rw [show j = (y26.toInt).toNat by omega]; omega) else kf30 j a (by omega)
                    exact ih33 y25 v55 m27 n28 (by first | omega | assumption | exact (iv_rng _).2 | exact (iv_rng _).1 | decide) (by first | omega | assumption | exact (iv_rng _).2 | exact (iv_rng _).1 | decide) (by first | omega | assumption | exact (iv_rng _).2 | exact (iv_rng _).1 | decide) (by first | omega | assumption | exact (iv_rng _).2 | exact (iv_rng _).1 | decide) (by first | omega | assumption | (show y7.toInt < v55.toInt; omega) | decide) kb30 I29 K30 (by omega)
                  · have c54 := iv_ne (X := v52.toInt) (Y := 0) c54 rfl (by decide)
                    refine pv_iload_n (M := mX11_bound) 3 dX11_bound_55 56 rfl rfl rfl ?_
                    refine pv_aload_n (M := mX11_bound) 0 dX11_bound_56 57 rfl rfl rfl ?_
                    refine pv_iconst (M := mX11_bound) (v := 1) dX11_bound_57 58 rfl (by decide) ?_
                    refine pv_iload (M := mX11_bound) dX11_bound_58 60 rfl rfl ?_
                    refine iv_shlU (M := mX11_bound) dX11_bound_60 61 rfl (fun v57 ev57 => ?_)
                    have pv57 : 1 ≤ v57.toInt ∧ v57.toInt ≤ 128 := by rw [ev57]; exact iv_sh17 (by omega) (by omega)
                    have k61 := ev57
                    refine pv_iconst (M := mX11_bound) (v := 1) dX11_bound_61 62 rfl (by decide) ?_
                    refine pv_iload (M := mX11_bound) dX11_bound_62 64 rfl rfl ?_
                    refine iv_shlU (M := mX11_bound) dX11_bound_64 65 rfl (fun v59 ev59 => ?_)
                    have pv59 : 1 ≤ v59.toInt ∧ v59.toInt ≤ 128 := by rw [ev59]; exact iv_sh17 (by omega) (by omega)
                    have k65 := ev59
                    refine iv_orU (M := mX11_bound) dX11_bound_65 66 rfl (fun v61 ev61 => ?_)
                    have pv61 : 0 ≤ v61.toInt ∧ v61.toInt ≤ 255 := by rw [ev61]; exact iv_or8 (by omega) (by omega) (by omega) (by omega)
                    have kpx : v61 = pxy y7.toInt.toNat y26.toInt.toNat := by rw [ev61, k61, k65]; unfold pxy; rw [ofn (by omega), ofn (by omega)]
                    have kpo := pxy_ok (i := y7.toInt.toNat) (j := y26.toInt.toNat) (by omega) (by omega)
                    have kps := pxy_sz (m := m) (m2 := m27) (x := x0) (i := y7.toInt.toNat) (j := y26.toInt.toNat) (by omega) (by omega) kG.2 (by omega) (by omega) (fun a q h => K30 a q (wF_isW h))
                    rw [← kpx] at kpo kps
                    refine pv_callv (M := mX11_bound) (as := [.int v61]) (st := [.int y25]) (kc2 := 0) (ks2 := 0) dX11_bound_66 wd963 YX11_coverFor ⟨wd965, wd39⟩ (mk_get (tl0 hT)) rfl rfl (k_coverFor_nq g hTL I29 R hc0 v61 kpo.1 kpo.2 kps) rfl rfl (Nat.le_of_ble_eq_true rfl) (by decide) rfl rfl 69 rfl (fun rv h1 q66 => ?_)
                    generalize hG : TL2 = T2 at q66 ⊢
                    obtain ⟨m67, n68, r71, rfl, rfl, I69, K70, or71, kCv⟩ := q66
                    have hC : TC T2 := hG.symm
                    have hT : TX T2 := TC_TX hC
                    have hc2 := or71.1
                    have R := RX_rnT R or71
                    rw [hG] at R
                    have zR := R.2.2.2.2.1.1
                    have zR2 := R.2.2.2.2.2.1
                    have K70 := K30.trans (K70.sub WX_wF)
                    show PV _ _ _ _ _ _ _ 69 [.ref 0, .int x0, .int v2, .int y25, .int y7, .int y26] [.ref 169, .int y25] _
                    have kCC : CCN m67 n68 := CCN_of kCv
                    refine mv_get (M := mX11_bound) (v := .ref 170) dX11_bound_69 FX3 0 wd980 (by decide) (tc169 hC) rfl rfl 72 rfl ?_
                    refine iv_get (M := mX11_bound) (l1 := 0) (l2 := 48) dX11_bound_72 FX8 1 wd200 (by decide) (tc170 hC) rfl I69 rfl 75 rfl (fun v73 ev73 pv73 qv73 => ?_)
                    refine iv_max (M := mX11_bound) (X := y25.toInt) (Y := v73.toInt) dX11_bound_75 wd883 Wmmax (Nat.le_of_ble_eq_true rfl) (by decide) rfl rfl 78 rfl (fun v74 ev74 fv74 gv74 => ?_)
                    refine pv_istore_n (M := mX11_bound) 3 (lo2 := [.ref 0, .int x0, .int v2, .int v74, .int y7, .int y26]) dX11_bound_78 79 rfl rfl (by decide) rfl rfl ?_
                    refine iv_inc (M := mX11_bound) (C := 1) dX11_bound_79 82 rfl rfl (by decide) rfl rfl (by decide) (by omega) (by omega) (fun v75 ev75 => ?_)
                    show PV _ _ _ _ _ _ _ 82 [.ref 0, .int x0, .int v2, .int v74, .int y7, .int v75] [] _
                    refine pv_goto (M := mX11_bound) (tgt := 30) dX11_bound_82 (by decide) ?_
                    exact pv_fg (lo2 := [.ref 0, .int x0, pv_U, .int v74, .int y7, .int v75]) ⟨Or.inr rfl, Or.inr rfl, Or.inl rfl, Or.inr rfl, Or.inr rfl, Or.inr rfl, trivial⟩ (s_X11_bound_vs30q g hT I69 K70 or71 R hC hc2 x0 kCC kG.1 kG.2 v74 y7 (by omega) (by omega) v75 (by omega) (by omega) (by omega))
          exact lp32 (((8 - v24.toInt) : Int).toNat + 1) y6 v24 m8 n9 (by first | omega | assumption | exact (iv_rng _).2 | exact (iv_rng _).1 | decide) (by first | omega | assumption | exact (iv_rng _).2 | exact (iv_rng _).1 | decide) (by first | omega | assumption | exact (iv_rng _).2 | exact (iv_rng _).1 | decide) (by first | omega | assumption | exact (iv_rng _).2 | exact (iv_rng _).1 | decide) (by first | omega | assumption | (show y7.toInt < v24.toInt; omega) | decide) (fun j a b => by omega) I10 K11 (by omega)
    have z77 : (0 : Int32).toInt = 0 := by decide
    have z78 : (0 : Int32).toInt = 0 := by decide
    exact lp13 (((8 - 0) : Int).toNat + 1) 0 0 m n (by first | omega | assumption | exact (iv_rng _).2 | exact (iv_rng _).1 | decide) (by first | omega | assumption | exact (iv_rng _).2 | exact (iv_rng _).1 | decide) (by first | omega | assumption | exact (iv_rng _).2 | exact (iv_rng _).1 | decide) (by first | omega | assumption | exact (iv_rng _).2 | exact (iv_rng _).1 | decide) (fun i j _ _ a => by rw [Int32.toInt_zero] at a; omega) I Kp (by omega)
  · have c5 := iv_ne (X := v2.toInt) (Y := 0) c5 rfl (by decide)
    exact absurd (Iff.mpr kr hp0) (by omega)
