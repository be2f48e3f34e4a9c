set_option maxHeartbeats 2000000 in
set_option maxRecDepth 20000 in
theorem s_X11_shortest_vcf (g : pv_G) {T : List mv_T} {m : Nat → Nat → Int32} {n : Nat → Nat → Int64} {r : Nat → Value} {la lb : Nat} (hT : TX T) (I : IV BB m) (R : RX T r la lb) (hC : TC T) (hc2 : r 2 = .ref 169) (x0 : Int32) (x1 : Int32) (hp0 : CCL m) : PM g mX11_shortest yX11_shortest (sqIr T BB wF rn r m (-2147483648) 2147483647 (fun m' r' v => GSV (G1 m x0) (G2 m x0) (nmb m x0) (smb m x0) x1.toInt v.toInt ∧ CCL m')) 6 0 0 [.ref 0, .int x0, .int x1] (mk T m n r) := by
  have Kp : fr wF m m := fr.rf
  have R0 := R
  have zR := R.2.2.2.2.1.1
  have zR2 := R.2.2.2.2.2.1
  have hc20 := hc2
  refine PM.of 2 (lo := [.ref 0, .int x0, .int x1, pv_U, pv_U]) rfl (by decide) rfl rfl (Nat.le_of_ble_eq_true rfl) ?_
  refine pv_iload_n (M := mX11_shortest) 2 dX11_shortest_0 1 rfl rfl rfl ?_
  refine pv_iconst (M := mX11_shortest) (v := (-1)) dX11_shortest_1 2 rfl (by decide) ?_
  refine pv_icmp_ge (M := mX11_shortest) (tgt := 7) dX11_shortest_2 5 rfl (by decide) (fun c1 => ?_) (fun c1 => ?_)
  · have c1 := iv_le (X := (-1)) (Y := x1.toInt) c1 (by decide) rfl
    refine pv_aload_n (M := mX11_shortest) 0 dX11_shortest_7 8 rfl rfl rfl ?_
    refine pv_iload_n (M := mX11_shortest) 1 dX11_shortest_8 9 rfl rfl rfl ?_
    refine pv_callv (M := mX11_shortest) (as := [.int x0]) (st := []) (kc2 := 0) (ks2 := 0) dX11_shortest_9 wd959 YX11_refuseCover ⟨wd961, wd38⟩ (mk_get (tl0 hT)) rfl rfl (s_X11_refuseCover_ve g hT I R x0) rfl rfl (Nat.le_of_ble_eq_true rfl) (by decide) rfl rfl 12 rfl (fun rv h1 q2 => ?_)
    obtain ⟨v3, rfl, rfl, pv3, qv3, rv3⟩ := q2
    replace rv3 : RFV m x0 v3.toInt := rv3
    show PV _ _ _ _ _ _ _ 12 [.ref 0, .int x0, .int x1, pv_U, pv_U] [.int v3] _
    have ke := rv3
    refine pv_istore_n (M := mX11_shortest) 3 (lo2 := [.ref 0, .int x0, .int x1, .int v3, pv_U]) dX11_shortest_12 13 rfl rfl (by decide) rfl rfl ?_
    refine pv_iload_n (M := mX11_shortest) 3 dX11_shortest_13 14 rfl rfl rfl ?_
    refine pv_if_eq (M := mX11_shortest) (tgt := 19) dX11_shortest_14 17 rfl (by decide) (fun c5 => ?_) (fun c5 => ?_)
    · have c5 := iv_eq (X := v3.toInt) (Y := 0) c5 rfl (by decide)
      have kok := RFV_ok ke (by omega)
      have kO := cOK_mbs (cOK_G.mpr kok)
      refine pv_aload_n (M := mX11_shortest) 0 dX11_shortest_19 20 rfl rfl rfl ?_
      refine pv_iload_n (M := mX11_shortest) 1 dX11_shortest_20 21 rfl rfl rfl ?_
      refine pv_callv (M := mX11_shortest) (as := [.int x0]) (st := []) (kc2 := 0) (ks2 := 0) dX11_shortest_21 wd963 YX11_coverFor ⟨wd965, wd39⟩ (mk_get (tl0 hT)) rfl rfl (s_X11_coverFor_vf g hT I R hC hc2 x0 kO.1 kO.2.1 kO.2.2 hp0) rfl rfl (Nat.le_of_ble_eq_true rfl) (by decide) rfl rfl 24 rfl (fun rv h1 q8 => ?_)
      obtain ⟨m9, n10, r13, rfl, rfl, I11, K12, qr13, rm9⟩ := q8
      replace rm9 : m9 169 1 = x0 ∧ SCL m9 x0 := rm9
      have or13 := rn.trans (rn.rf hc20) qr13
      have R := RX_rn R qr13
      have zR := R.2.2.2.2.1.1
      have zR2 := R.2.2.2.2.2.1
      have hc2 : r13 2 = .ref 169 := or13.1
      have K12c := K12
      have K12 := Kp.trans (K12.sub WX_wF)
      show PV _ _ _ _ _ _ _ 24 [.ref 0, .int x0, .int x1, .int v3, pv_U] [.ref 169] _
      have kSC := rm9.2
      have kCC := CCL_of rm9
      refine mv_get (M := mX11_shortest) (v := .ref 170) dX11_shortest_24 FX3 0 wd980 (by decide) (tc169 hC) rfl rfl 27 rfl ?_
      refine pv_astore (M := mX11_shortest) (lo2 := [.ref 0, .int x0, .int x1, .int v3, .ref 170]) dX11_shortest_27 29 rfl (by decide) rfl rfl ?_
      refine pv_iload_n (M := mX11_shortest) 2 dX11_shortest_29 30 rfl rfl rfl ?_
      refine pv_iconst (M := mX11_shortest) (v := (-1)) dX11_shortest_30 31 rfl (by decide) ?_
      refine pv_icmp_ne (M := mX11_shortest) (tgt := 42) dX11_shortest_31 34 rfl (by decide) (fun c16 => ?_) (fun c16 => ?_)
      · have c16 := iv_ne (X := x1.toInt) (Y := (-1)) c16 rfl (by decide)
        refine pv_aload (M := mX11_shortest) dX11_shortest_42 44 rfl rfl ?_
        refine pv_iload_n (M := mX11_shortest) 2 dX11_shortest_44 45 rfl rfl rfl ?_
        refine pv_callv (M := mX11_shortest) (as := [.int x1]) (st := []) (kc2 := 0) (ks2 := 0) dX11_shortest_45 wd704 YX8_at ⟨wd705, wd706⟩ (mk_get (tc170 hC)) rfl rfl (s_X8_at g hT I11 170 48 (row170 hC) x1) rfl rfl (Nat.le_of_ble_eq_true rfl) (by decide) rfl rfl 48 rfl (fun rv h1 q17 => ?_)
        obtain ⟨v18, rfl, rfl, pv18, qv18, rv18⟩ := q17
        replace rv18 : v18.toInt = atv m9 170 x1.toInt := rv18
        show PV _ _ _ _ _ _ _ 48 [.ref 0, .int x0, .int x1, .int v3, .ref 170] [.int v18] _
        try have k48 := rv18
        exact pv_iret (M := mX11_shortest) dX11_shortest_48 rfl rfl ⟨_, _, _, _, rfl, rfl, I11, K12, or13, (iv_rng v18).1, (iv_rng v18).2, ⟨GSV_ok kok (by omega) (fun a q z => K12 a q (wF_isW z)) kSC (by first | exact Or.inl ⟨by omega, by omega⟩ | exact Or.inr ⟨by omega, by omega⟩), kCC⟩⟩
      · have c16 := iv_eq (X := x1.toInt) (Y := (-1)) c16 rfl (by decide)
        refine pv_aload (M := mX11_shortest) dX11_shortest_34 36 rfl rfl ?_
        refine iv_get (M := mX11_shortest) (l1 := 0) (l2 := 48) dX11_shortest_36 FX8 1 wd200 (by decide) (tc170 hC) rfl I11 rfl 39 rfl (fun v20 ev20 pv20 qv20 => ?_)
        have k39 : v20.toInt = (m9 170 1).toInt := congrArg Int32.toInt ev20
        refine pv_goto (M := mX11_shortest) (tgt := 48) dX11_shortest_39 (by decide) ?_
        try have k48 := rv20
        exact pv_iret (M := mX11_shortest) dX11_shortest_48 rfl rfl ⟨_, _, _, _, rfl, rfl, I11, K12, or13, (iv_rng v20).1, (iv_rng v20).2, ⟨GSV_ok kok (by omega) (fun a q z => K12 a q (wF_isW z)) kSC (by first | exact Or.inl ⟨by omega, by omega⟩ | exact Or.inr ⟨by omega, by omega⟩), kCC⟩⟩
    · have c5 := iv_ne (X := v3.toInt) (Y := 0) c5 rfl (by decide)
      refine pv_iload_n (M := mX11_shortest) 3 dX11_shortest_17 18 rfl rfl rfl ?_
      exact pv_iret (M := mX11_shortest) dX11_shortest_18 rfl rfl ⟨_, _, _, _, rfl, rfl, I, Kp, (rn.rf hc20), (iv_rng v3).1, (iv_rng v3).2, ⟨GSV_no ke (by omega) (by omega), hp0⟩⟩
  · have c1 := iv_nle (X := (-1)) (Y := x1.toInt) c1 (by decide) rfl
    refine pv_iconst (M := mX11_shortest) (v := (-1)) dX11_shortest_5 6 rfl (by decide) ?_
    have z23 : ((-1) : Int32).toInt = (-1) := by decide
    exact pv_iret (M := mX11_shortest) dX11_shortest_6 rfl rfl ⟨_, _, _, _, rfl, rfl, I, Kp, (rn.rf hc20), by decide, by decide, ⟨Or.inl ⟨Or.inl (by omega), by decide⟩, hp0⟩⟩

set_option maxHeartbeats 2000000 in
set_option maxRecDepth 20000 in
theorem s_X11_shortest_vnf (g : pv_G) {T : List mv_T} {m : Nat → Nat → Int32} {n : Nat → Nat → Int64} {r : Nat → Value} {la lb : Nat} (hT : TX T) (I : IV BB m) (R : RX T r la lb) (hTL : T = TL) (hc0 : r 2 = .null) (x0 : Int32) (x1 : Int32) (hp0 : -1 ≤ x1.toInt) (hp1 : cOK m x0) : PM g mX11_shortest yX11_shortest (sqIr TL2 BB wF rn r m (-2147483648) 2147483647 (fun m' r' v => GSV (G1 m x0) (G2 m x0) (nmb m x0) (smb m x0) x1.toInt v.toInt ∧ CCL m')) 6 11 57200 [.ref 0, .int x0, .int x1] (mk T m n r) := by
  have Kp : fr wF m m := fr.rf
  have R0 := R
  have zR := R.2.2.2.2.1.1
  have zR2 := R.2.2.2.2.2.1
  refine PM.of 2 (lo := [.ref 0, .int x0, .int x1, pv_U, pv_U]) rfl (by decide) rfl rfl (Nat.le_of_ble_eq_true rfl) ?_
  refine pv_iload_n (M := mX11_shortest) 2 dX11_shortest_0 1 rfl rfl rfl ?_
  refine pv_iconst (M := mX11_shortest) (v := (-1)) dX11_shortest_1 2 rfl (by decide) ?_
  refine pv_icmp_ge (M := mX11_shortest) (tgt := 7) dX11_shortest_2 5 rfl (by decide) (fun c1 => ?_) (fun c1 => ?_)
  · have c1 := iv_le (X := (-1)) (Y := x1.toInt) c1 (by decide) rfl
    refine pv_aload_n (M := mX11_shortest) 0 dX11_shortest_7 8 rfl rfl rfl ?_
    refine pv_iload_n (M := mX11_shortest) 1 dX11_shortest_8 9 rfl rfl rfl ?_
    refine pv_callv (M := mX11_shortest) (as := [.int x0]) (st := []) (kc2 := 11) (ks2 := 57200) dX11_shortest_9 wd959 YX11_refuseCover ⟨wd961, wd38⟩ (mk_get (tl0 hT)) rfl rfl (s_X11_refuseCover_ve g hT I R x0) rfl rfl (Nat.le_of_ble_eq_true rfl) (by decide) rfl rfl 12 rfl (fun rv h1 q2 => ?_)
    obtain ⟨v3, rfl, rfl, pv3, qv3, rv3⟩ := q2
    replace rv3 : RFV m x0 v3.toInt := rv3
    show PV _ _ _ _ _ _ _ 12 [.ref 0, .int x0, .int x1, pv_U, pv_U] [.int v3] _
    have ke := rv3
    have kr : RFZ m x0 v3 := RFV_Z ke
    refine pv_istore_n (M := mX11_shortest) 3 (lo2 := [.ref 0, .int x0, .int x1, .int v3, pv_U]) dX11_shortest_12 13 rfl rfl (by decide) rfl rfl ?_
    refine pv_iload_n (M := mX11_shortest) 3 dX11_shortest_13 14 rfl rfl rfl ?_
    refine pv_if_eq (M := mX11_shortest) (tgt := 19) dX11_shortest_14 17 rfl (by decide) (fun c6 => ?_) (fun c6 => ?_)
    · have c6 := iv_eq (X := v3.toInt) (Y := 0) c6 rfl (by decide)
      have kok := RFV_ok ke (by omega)
      have kO := cOK_mbs (cOK_G.mpr kok)
      refine pv_aload_n (M := mX11_shortest) 0 dX11_shortest_19 20 rfl rfl rfl ?_
      refine pv_iload_n (M := mX11_shortest) 1 dX11_shortest_20 21 rfl rfl rfl ?_
      refine pv_callv (M := mX11_shortest) (as := [.int x0]) (st := []) (kc2 := 0) (ks2 := 0) dX11_shortest_21 wd963 YX11_coverFor ⟨wd965, wd39⟩ (mk_get (tl0 hT)) rfl rfl (k_coverFor_nf g hTL I R hc0 x0 kO.1 kO.2.1 kO.2.2) rfl rfl (Nat.le_of_ble_eq_true rfl) (by decide) rfl rfl 24 rfl (fun rv h1 q9 => ?_)
      generalize hG : TL2 = T2 at q9 ⊢
      obtain ⟨m10, n11, r14, rfl, rfl, I12, K13, or14, kCv⟩ := q9
      have hC : TC T2 := hG.symm
      have hT : TX T2 := TC_TX hC
      have hc2 := or14.1
      have R := RX_rnT R or14
      rw [hG] at R
      have zR := R.2.2.2.2.1.1
      have zR2 := R.2.2.2.2.2.1
      have K13 := Kp.trans (K13.sub WX_wF)
      show PV _ _ _ _ _ _ _ 24 [.ref 0, .int x0, .int x1, .int v3, pv_U] [.ref 169] _
      have kSC := kCv.2
      have kCC := CCL_of kCv
      refine mv_get (M := mX11_shortest) (v := .ref 170) dX11_shortest_24 FX3 0 wd980 (by decide) (tc169 hC) rfl rfl 27 rfl ?_
      refine pv_astore (M := mX11_shortest) (lo2 := [.ref 0, .int x0, .int x1, .int v3, .ref 170]) dX11_shortest_27 29 rfl (by decide) rfl rfl ?_
      refine pv_iload_n (M := mX11_shortest) 2 dX11_shortest_29 30 rfl rfl rfl ?_
      refine pv_iconst (M := mX11_shortest) (v := (-1)) dX11_shortest_30 31 rfl (by decide) ?_
      refine pv_icmp_ne (M := mX11_shortest) (tgt := 42) dX11_shortest_31 34 rfl (by decide) (fun c17 => ?_) (fun c17 => ?_)
      · have c17 := iv_ne (X := x1.toInt) (Y := (-1)) c17 rfl (by decide)
        refine pv_aload (M := mX11_shortest) dX11_shortest_42 44 rfl rfl ?_
        refine pv_iload_n (M := mX11_shortest) 2 dX11_shortest_44 45 rfl rfl rfl ?_
        refine pv_callv (M := mX11_shortest) (as := [.int x1]) (st := []) (kc2 := 0) (ks2 := 0) dX11_shortest_45 wd704 YX8_at ⟨wd705, wd706⟩ (mk_get (tc170 hC)) rfl rfl (s_X8_at g hT I12 170 48 (row170 hC) x1) rfl rfl (Nat.le_of_ble_eq_true rfl) (by decide) rfl rfl 48 rfl (fun rv h1 q18 => ?_)
        obtain ⟨v19, rfl, rfl, pv19, qv19, rv19⟩ := q18
        replace rv19 : v19.toInt = atv m10 170 x1.toInt := rv19
        show PV _ _ _ _ _ _ _ 48 [.ref 0, .int x0, .int x1, .int v3, .ref 170] [.int v19] _
        try have k48 := rv19
        exact pv_iret (M := mX11_shortest) dX11_shortest_48 rfl rfl ⟨_, _, _, _, rfl, rfl, I12, K13, or14, (iv_rng v19).1, (iv_rng v19).2, ⟨GSV_ok kok (by omega) (fun a q z => K13 a q (wF_isW z)) kSC (by first | exact Or.inl ⟨by omega, by omega⟩ | exact Or.inr ⟨by omega, by omega⟩), kCC⟩⟩
      · have c17 := iv_eq (X := x1.toInt) (Y := (-1)) c17 rfl (by decide)
        refine pv_aload (M := mX11_shortest) dX11_shortest_34 36 rfl rfl ?_
        refine iv_get (M := mX11_shortest) (l1 := 0) (l2 := 48) dX11_shortest_36 FX8 1 wd200 (by decide) (tc170 hC) rfl I12 rfl 39 rfl (fun v21 ev21 pv21 qv21 => ?_)
        have k39 : v21.toInt = (m10 170 1).toInt := congrArg Int32.toInt ev21
        refine pv_goto (M := mX11_shortest) (tgt := 48) dX11_shortest_39 (by decide) ?_
        try have k48 := rv21
        exact pv_iret (M := mX11_shortest) dX11_shortest_48 rfl rfl ⟨_, _, _, _, rfl, rfl, I12, K13, or14, (iv_rng v21).1, (iv_rng v21).2, ⟨GSV_ok kok (by omega) (fun a q z => K13 a q (wF_isW z)) kSC (by first | exact Or.inl ⟨by omega, by omega⟩ | exact Or.inr ⟨by omega, by omega⟩), kCC⟩⟩
    · have c6 := iv_ne (X := v3.toInt) (Y := 0) c6 rfl (by decide)
      exact absurd (Iff.mpr kr hp1) (by omega)
  · have c1 := iv_nle (X := (-1)) (Y := x1.toInt) c1 (by decide) rfl
    omega

set_option maxHeartbeats 2000000 in
set_option maxRecDepth 20000 in
theorem s_X11_shortest_vrf (g : pv_G) {T : List mv_T} {m : Nat → Nat → Int32} {n : Nat → Nat → Int64} {r : Nat → Value} {la lb : Nat} (hT : TX T) (I : IV BB m) (R : RX T r la lb) (x0 : Int32) (x1 : Int32) (hp0 : x1.toInt < -1 ∨ ¬ cOK m x0) : PM g mX11_shortest yX11_shortest (sqP (mk T m n r) (-2147483648) 2147483647 (fun v => GSV (G1 m x0) (G2 m x0) (nmb m x0) (smb m x0) x1.toInt v.toInt)) 5 0 0 [.ref 0, .int x0, .int x1] (mk T m n r) := by
  have Kp : fr (wl []) m m := fr.rf
  have R0 := R
  have zR := R.2.2.2.2.1.1
  have zR2 := R.2.2.2.2.2.1
  refine PM.of 2 (lo := [.ref 0, .int x0, .int x1, pv_U, pv_U]) rfl (by decide) rfl rfl (Nat.le_of_ble_eq_true rfl) ?_
  refine pv_iload_n (M := mX11_shortest) 2 dX11_shortest_0 1 rfl rfl rfl ?_
  refine pv_iconst (M := mX11_shortest) (v := (-1)) dX11_shortest_1 2 rfl (by decide) ?_
  refine pv_icmp_ge (M := mX11_shortest) (tgt := 7) dX11_shortest_2 5 rfl (by decide) (fun c1 => ?_) (fun c1 => ?_)
  · have c1 := iv_le (X := (-1)) (Y := x1.toInt) c1 (by decide) rfl
    refine pv_aload_n (M := mX11_shortest) 0 dX11_shortest_7 8 rfl rfl rfl ?_
    refine pv_iload_n (M := mX11_shortest) 1 dX11_shortest_8 9 rfl rfl rfl ?_
    refine pv_callv (M := mX11_shortest) (as := [.int x0]) (st := []) (kc2 := 0) (ks2 := 0) dX11_shortest_9 wd959 YX11_refuseCover ⟨wd961, wd38⟩ (mk_get (tl0 hT)) rfl rfl (s_X11_refuseCover_ve g hT I R x0) rfl rfl (Nat.le_of_ble_eq_true rfl) (by decide) rfl rfl 12 rfl (fun rv h1 q2 => ?_)
    obtain ⟨v3, rfl, rfl, pv3, qv3, rv3⟩ := q2
    replace rv3 : RFV m x0 v3.toInt := rv3
    show PV _ _ _ _ _ _ _ 12 [.ref 0, .int x0, .int x1, pv_U, pv_U] [.int v3] _
    have ke := rv3
    have kr : RFZ m x0 v3 := RFV_Z ke
    refine pv_istore_n (M := mX11_shortest) 3 (lo2 := [.ref 0, .int x0, .int x1, .int v3, pv_U]) dX11_shortest_12 13 rfl rfl (by decide) rfl rfl ?_
    refine pv_iload_n (M := mX11_shortest) 3 dX11_shortest_13 14 rfl rfl rfl ?_
    refine pv_if_eq (M := mX11_shortest) (tgt := 19) dX11_shortest_14 17 rfl (by decide) (fun c6 => ?_) (fun c6 => ?_)
    · have c6 := iv_eq (X := v3.toInt) (Y := 0) c6 rfl (by decide)
      exact absurd (Iff.mp kr (by omega)) (hp0.resolve_left (by omega))
    · have c6 := iv_ne (X := v3.toInt) (Y := 0) c6 rfl (by decide)
      refine pv_iload_n (M := mX11_shortest) 3 dX11_shortest_17 18 rfl rfl rfl ?_
      exact pv_iret (M := mX11_shortest) dX11_shortest_18 rfl rfl ⟨_, rfl, rfl, (iv_rng v3).1, (iv_rng v3).2, (GSV_no ke (by omega) (by omega))⟩
  · have c1 := iv_nle (X := (-1)) (Y := x1.toInt) c1 (by decide) rfl
    refine pv_iconst (M := mX11_shortest) (v := (-1)) dX11_shortest_5 6 rfl (by decide) ?_
    have z8 : ((-1) : Int32).toInt = (-1) := by decide
    exact pv_iret (M := mX11_shortest) dX11_shortest_6 rfl rfl ⟨_, rfl, rfl, by decide, by decide, (Or.inl ⟨Or.inl (by omega), by decide⟩)⟩

set_option maxHeartbeats 2000000 in
set_option maxRecDepth 20000 in
theorem s_X11_shortestMany_vcf (g : pv_G) {T : List mv_T} {m : Nat → Nat → Int32} {n : Nat → Nat → Int64} {r : Nat → Value} {la lb : Nat} (hT : TX T) (I : IV BB m) (R : RX T r la lb) (hC : TC T) (hc2 : r 2 = .ref 169) (x0 : Int32) (hp0 : CCL m) : PM g mX11_shortestMany yX11_shortestMany (sqJr T BB wF rn r m (fun m' r' => CCL m')) 6 0 0 [.ref 0, .int x0] (mk T m n r) := by
  have Kp : fr wF m m := fr.rf
  have R0 := R
  have zR := R.2.2.2.2.1.1
  have zR2 := R.2.2.2.2.2.1
  have hc20 := hc2
  refine PM.of 1 (lo := [.ref 0, .int x0, pv_U]) rfl (by decide) rfl rfl (Nat.le_of_ble_eq_true rfl) ?_
  refine pv_aload_n (M := mX11_shortestMany) 0 dX11_shortestMany_0 1 rfl rfl rfl ?_
  refine pv_iload_n (M := mX11_shortestMany) 1 dX11_shortestMany_1 2 rfl rfl rfl ?_
  refine pv_callv (M := mX11_shortestMany) (as := [.int x0]) (st := []) (kc2 := 0) (ks2 := 0) dX11_shortestMany_2 wd959 YX11_refuseCover ⟨wd961, wd38⟩ (mk_get (tl0 hT)) rfl rfl (s_X11_refuseCover g hT I R x0) rfl rfl (Nat.le_of_ble_eq_true rfl) (by decide) rfl rfl 5 rfl (fun rv h1 q1 => ?_)
  obtain ⟨v2, rfl, rfl, pv2, qv2, rv2⟩ := q1
  replace rv2 : RFZ m x0 v2 := rv2
  show PV _ _ _ _ _ _ _ 5 [.ref 0, .int x0, pv_U] [.int v2] _
  have kr : RFZ m x0 v2 := rv2
  refine pv_istore_n (M := mX11_shortestMany) 2 (lo2 := [.ref 0, .int x0, .int v2]) dX11_shortestMany_5 6 rfl rfl (by decide) rfl rfl ?_
  refine pv_iload_n (M := mX11_shortestMany) 2 dX11_shortestMany_6 7 rfl rfl rfl ?_
  refine pv_if_eq (M := mX11_shortestMany) (tgt := 13) dX11_shortestMany_7 10 rfl (by decide) (fun c4 => ?_) (fun c4 => ?_)
  · have c4 := iv_eq (X := v2.toInt) (Y := 0) c4 rfl (by decide)
    refine pv_aload_n (M := mX11_shortestMany) 0 dX11_shortestMany_13 14 rfl rfl rfl ?_
    refine pv_iload_n (M := mX11_shortestMany) 1 dX11_shortestMany_14 15 rfl rfl rfl ?_
    have kO := cOK_mbs (Iff.mp kr (by omega))
    refine pv_callv (M := mX11_shortestMany) (as := [.int x0]) (st := []) (kc2 := 0) (ks2 := 0) dX11_shortestMany_15 wd963 YX11_coverFor ⟨wd965, wd39⟩ (mk_get (tl0 hT)) rfl rfl (s_X11_coverFor_vf g hT I R hC hc2 x0 kO.1 kO.2.1 kO.2.2 hp0) rfl rfl (Nat.le_of_ble_eq_true rfl) (by decide) rfl rfl 18 rfl (fun rv h1 q6 => ?_)
    obtain ⟨m7, n8, r11, rfl, rfl, I9, K10, qr11, rm7⟩ := q6
    replace rm7 : m7 169 1 = x0 ∧ SCL m7 x0 := rm7
    have or11 := rn.trans (rn.rf hc20) qr11
    have R := RX_rn R qr11
    have zR := R.2.2.2.2.1.1
    have zR2 := R.2.2.2.2.2.1
    have hc2 : r11 2 = .ref 169 := or11.1
    have K10c := K10
    have K10 := Kp.trans (K10.sub WX_wF)
    show PV _ _ _ _ _ _ _ 18 [.ref 0, .int x0, .int v2] [.ref 169] _
    have kCC := CCL_of rm7
    refine pv_callv (M := mX11_shortestMany) (as := []) (st := []) (kc2 := 0) (ks2 := 0) dX11_shortestMany_18 wd1048 YX3_howMany ⟨wd1049, wd1050⟩ (mk_get (tc169 hC)) rfl rfl (s_X3_howMany g hT I9 hC) rfl rfl (Nat.le_of_ble_eq_true rfl) (by decide) rfl rfl 21 rfl (fun rv h1 q13 => ?_)
    obtain ⟨v14, rfl, rfl⟩ := q13
    show PV _ _ _ _ _ _ _ 21 [.ref 0, .int x0, .int v2] [.long v14] _
    try have kCD : CCL m7 := by first | exact kCC | exact CCL_eq kCC (K10c 169 1 rfl) (K10c 170 1 rfl) (fun j => K10c 171 j rfl) (fun a j h1 h2 => K10c a j (wr_out (by omega)))
    exact pv_lret (M := mX11_shortestMany) dX11_shortestMany_21 rfl ⟨_, _, _, _, rfl, rfl, I9, K10, or11, (by first | exact hp0 | exact kCC | exact kCD)⟩
  · have c4 := iv_ne (X := v2.toInt) (Y := 0) c4 rfl (by decide)
    refine pv_iload_n (M := mX11_shortestMany) 2 dX11_shortestMany_10 11 rfl rfl rfl ?_
    refine iv_i2l (M := mX11_shortestMany) dX11_shortestMany_11 12 rfl (fun v16 ev16 => ?_)
    exact pv_lret (M := mX11_shortestMany) dX11_shortestMany_12 rfl ⟨_, _, _, _, rfl, rfl, I, Kp, (rn.rf hc20), (by first | exact hp0 | exact kCC | exact kCD)⟩

set_option maxHeartbeats 2000000 in
set_option maxRecDepth 20000 in
theorem s_X11_shortestMany_vnf (g : pv_G) {T : List mv_T} {m : Nat → Nat → Int32} {n : Nat → Nat → Int64} {r : Nat → Value} {la lb : Nat} (hT : TX T) (I : IV BB m) (R : RX T r la lb) (hTL : T = TL) (hc0 : r 2 = .null) (x0 : Int32) (hp0 : cOK m x0) : PM g mX11_shortestMany yX11_shortestMany (sqJr TL2 BB wF rn r m (fun m' r' => CCL m')) 6 11 57200 [.ref 0, .int x0] (mk T m n r) := by
  have Kp : fr wF m m := fr.rf
  have R0 := R
  have zR := R.2.2.2.2.1.1
  have zR2 := R.2.2.2.2.2.1
  refine PM.of 1 (lo := [.ref 0, .int x0, pv_U]) rfl (by decide) rfl rfl (Nat.le_of_ble_eq_true rfl) ?_
  refine pv_aload_n (M := mX11_shortestMany) 0 dX11_shortestMany_0 1 rfl rfl rfl ?_
  refine pv_iload_n (M := mX11_shortestMany) 1 dX11_shortestMany_1 2 rfl rfl rfl ?_
  refine pv_callv (M := mX11_shortestMany) (as := [.int x0]) (st := []) (kc2 := 11) (ks2 := 57200) dX11_shortestMany_2 wd959 YX11_refuseCover ⟨wd961, wd38⟩ (mk_get (tl0 hT)) rfl rfl (s_X11_refuseCover g hT I R x0) rfl rfl (Nat.le_of_ble_eq_true rfl) (by decide) rfl rfl 5 rfl (fun rv h1 q1 => ?_)
  obtain ⟨v2, rfl, rfl, pv2, qv2, rv2⟩ := q1
  replace rv2 : RFZ m x0 v2 := rv2
  show PV _ _ _ _ _ _ _ 5 [.ref 0, .int x0, pv_U] [.int v2] _
  have kr : RFZ m x0 v2 := rv2
  refine pv_istore_n (M := mX11_shortestMany) 2 (lo2 := [.ref 0, .int x0, .int v2]) dX11_shortestMany_5 6 rfl rfl (by decide) rfl rfl ?_
  refine pv_iload_n (M := mX11_shortestMany) 2 dX11_shortestMany_6 7 rfl rfl rfl ?_
  refine pv_if_eq (M := mX11_shortestMany) (tgt := 13) dX11_shortestMany_7 10 rfl (by decide) (fun c4 => ?_) (fun c4 => ?_)
  · have c4 := iv_eq (X := v2.toInt) (Y := 0) c4 rfl (by decide)
    refine pv_aload_n (M := mX11_shortestMany) 0 dX11_shortestMany_13 14 rfl rfl rfl ?_
    refine pv_iload_n (M := mX11_shortestMany) 1 dX11_shortestMany_14 15 rfl rfl rfl ?_
    have kO := cOK_mbs hp0
    refine pv_callv (M := mX11_shortestMany) (as := [.int x0]) (st := []) (kc2 := 0) (ks2 := 0) dX11_shortestMany_15 wd963 YX11_coverFor ⟨wd965, wd39⟩ (mk_get (tl0 hT)) rfl rfl (k_coverFor_nf g hTL I R hc0 x0 kO.1 kO.2.1 kO.2.2) rfl rfl (Nat.le_of_ble_eq_true rfl) (by decide) rfl rfl 18 rfl (fun rv h1 q6 => ?_)
    generalize hG : TL2 = T2 at q6 ⊢
    obtain ⟨m7, n8, r11, rfl, rfl, I9, K10, or11, kCv⟩ := q6
    have hC : TC T2 := hG.symm
    have hT : TX T2 := TC_TX hC
    have hc2 := or11.1
    have R := RX_rnT R or11
    rw [hG] at R
    have zR := R.2.2.2.2.1.1
    have zR2 := R.2.2.2.2.2.1
    have K10 := Kp.trans (K10.sub WX_wF)
    show PV _ _ _ _ _ _ _ 18 [.ref 0, .int x0, .int v2] [.ref 169] _
    have kCC := CCL_of kCv
    refine pv_callv (M := mX11_shortestMany) (as := []) (st := []) (kc2 := 0) (ks2 := 0) dX11_shortestMany_18 wd1048 YX3_howMany ⟨wd1049, wd1050⟩ (mk_get (tc169 hC)) rfl rfl (s_X3_howMany g hT I9 hC) rfl rfl (Nat.le_of_ble_eq_true rfl) (by decide) rfl rfl 21 rfl (fun rv h1 q13 => ?_)
    obtain ⟨v14, rfl, rfl⟩ := q13
    show PV _ _ _ _ _ _ _ 21 [.ref 0, .int x0, .int v2] [.long v14] _
    try have kCD : CCL m7 := by first | exact kCC | exact CCL_eq kCC (noE 169 1 rfl) (noE 170 1 rfl) (fun j => noE 171 j rfl) (fun a j h1 h2 => noE a j (wr_out (by omega)))
    exact pv_lret (M := mX11_shortestMany) dX11_shortestMany_21 rfl ⟨_, _, _, _, rfl, rfl, I9, K10, or11, (by first | exact kCC | exact kCD)⟩
  · have c4 := iv_ne (X := v2.toInt) (Y := 0) c4 rfl (by decide)
    exact absurd (Iff.mpr kr hp0) (by omega)

set_option maxHeartbeats 2000000 in
set_option maxRecDepth 20000 in
theorem s_X11_bound_vs17f (g : pv_G) {T : List mv_T} {m : Nat → Nat → Int32} {n : Nat → Nat → Int64} {r : Nat → Value} {m0 : Nat → Nat → Int32} {r0 : Nat → Value} {la lb : Nat} (hT : TX T) (I : IV BB m) (Kp : fr wF m0 m) (or : rn r0 r) (R : RX T r la lb) (hC : TC T) (hc2 : r 2 = .ref 169) (x0 : Int32) (hp0 : CCL m) (hp1 : G1 m0 x0) (hp2 : G2 m0 x0) (y3 : Int32) (y4 : Int32) (hy4 : 0 ≤ y4.toInt) (hz4 : y4.toInt ≤ 8) (hq0 : BMP (SHC m0) x0 y3.toInt y4.toInt 0) : PV none g mX11_bound (sqIr T BB wF rn r0 m0 (-2147483648) 2147483647 (fun m' r' v => BDV (G1 m0 x0) (G2 m0 x0) (SHC m0) x0 v.toInt ∧ CCL m')) 6 0 0 17 [.ref 0, .int x0, pv_U, .int y3, .int y4, pv_U] [] (mk T m n r) := by
  have R0 := R
  have zR := R.2.2.2.2.1.1
  have zR2 := R.2.2.2.2.2.1
  have hc20 := hc2
  have lp8 : ∀ (fuel7 : Nat) (y1 : Int32) (y2 : Int32) (m3 : Nat → Nat → Int32) (n4 : Nat → Nat → Int64) (r12 : Nat → Value), (0 ≤ y2.toInt) → (y2.toInt ≤ 8) → (BMP (SHC m0) x0 y1.toInt y2.toInt 0) → (CCL m3) → IV BB m3 → fr wF m0 m3 → rn r0 r12 → ((8 - y2.toInt) : Int).toNat < fuel7 → PV none g mX11_bound (sqIr T BB wF rn r0 m0 (-2147483648) 2147483647 (fun m' r' v => BDV (G1 m0 x0) (G2 m0 x0) (SHC m0) x0 v.toInt ∧ CCL m')) 6 0 0 17 [.ref 0, .int x0, pv_U, .int y1, .int y2, pv_U] [] (mk T m3 n4 r12) := by
    intro fuel7
    induction fuel7 with
    | zero => intro y1 y2 m3 n4 r12 b10 b11 b13 b14 I5 K6 or12 z15; omega
    | succ fuel7 ih9 =>
      intro y1 y2 m3 n4 r12 b10 b11 b13 b14 I5 K6 or12 z15
      have hc2 := or12.1
      have R := RX_rn2 R0 or or12
      have zR := R.2.2.2.2.1.1
      have zR2 := R.2.2.2.2.2.1
      have kg17 := (show BMP (SHC m0) x0 y1.toInt y2.toInt 0 by assumption)
      have kgc17 := (show CCL m3 by assumption)
      refine pv_iload (M := mX11_bound) dX11_bound_17 19 rfl rfl ?_
      refine pv_bipush (M := mX11_bound) (v := 8) dX11_bound_19 21 rfl (by decide) ?_
      refine pv_icmp_ge (M := mX11_bound) (tgt := 91) dX11_bound_21 24 rfl (by decide) (fun c18 => ?_) (fun c18 => ?_)
      · have c18 := iv_le (X := 8) (Y := y2.toInt) c18 (by decide) rfl
        refine pv_iload_n (M := mX11_bound) 3 dX11_bound_91 92 rfl rfl rfl ?_
        exact pv_iret (M := mX11_bound) dX11_bound_92 rfl rfl ⟨_, _, _, _, rfl, rfl, I5, K6, or12, (iv_rng y1).1, (iv_rng y1).2, ⟨Or.inr (Or.inr ⟨hp1, hp2, BMP_end kg17 (by omega)⟩), kgc17⟩⟩
      · have c18 := iv_nle (X := 8) (Y := y2.toInt) c18 (by decide) rfl
        refine pv_iload (M := mX11_bound) dX11_bound_24 26 rfl rfl ?_
        refine pv_iconst (M := mX11_bound) (v := 1) dX11_bound_26 27 rfl (by decide) ?_
        refine iv_iadd (M := mX11_bound) (X := y2.toInt) (Y := 1) dX11_bound_27 28 rfl rfl (by decide) (by omega) (by omega) (fun v19 ev19 => ?_)
        refine pv_istore (M := mX11_bound) (lo2 := [.ref 0, .int x0, pv_U, .int y1, .int y2, .int v19]) dX11_bound_28 30 rfl (by decide) rfl rfl ?_
        have lp27 : ∀ (fuel26 : Nat) (y20 : Int32) (y21 : Int32) (m22 : Nat → Nat → Int32) (n23 : Nat → Nat → Int64) (r31 : Nat → Value), (1 ≤ y21.toInt) → (y21.toInt ≤ 8) → (y2.toInt < y21.toInt) → (BMP (SHC m0) x0 y20.toInt y2.toInt y21.toInt) → (CCL m22) → IV BB m22 → fr wF m0 m22 → rn r0 r31 → ((8 - y21.toInt) : Int).toNat < fuel26 → PV none g mX11_bound (sqIr T BB wF rn r0 m0 (-2147483648) 2147483647 (fun m' r' v => BDV (G1 m0 x0) (G2 m0 x0) (SHC m0) x0 v.toInt ∧ CCL m')) 6 0 0 30 [.ref 0, .int x0, pv_U, .int y20, .int y2, .int y21] [] (mk T m22 n23 r31) := by
          intro fuel26
          induction fuel26 with
          | zero => intro y20 y21 m22 n23 r31 b29 b30 b32 b33 b34 I24 K25 or31 z35; omega
          | succ fuel26 ih28 =>
            intro y20 y21 m22 n23 r31 b29 b30 b32 b33 b34 I24 K25 or31 z35
            have hc2 := or31.1
            have R := RX_rn2 R0 or or31
            have zR := R.2.2.2.2.1.1
            have zR2 := R.2.2.2.2.2.1
            have kg30 := (show BMP (SHC m0) x0 y20.toInt y2.toInt y21.toInt by assumption)
            have kgc30 := (show CCL m22 by assumption)
            refine pv_iload (M := mX11_bound) dX11_bound_30 32 rfl rfl ?_
            refine pv_bipush (M := mX11_bound) (v := 8) dX11_bound_32 34 rfl (by decide) ?_
            refine pv_icmp_ge (M := mX11_bound) (tgt := 85) dX11_bound_34 37 rfl (by decide) (fun c38 => ?_) (fun c38 => ?_)
            · have c38 := iv_le (X := 8) (Y := y21.toInt) c38 (by decide) rfl
              refine iv_inc (M := mX11_bound) (C := 1) dX11_bound_85 88 rfl rfl (by decide) rfl rfl (by decide) (by omega) (by omega) (fun v39 ev39 => ?_)
              show PV _ _ _ _ _ _ _ 88 [.ref 0, .int x0, pv_U, .int y20, .int v39, .int y21] [] _
              refine pv_goto (M := mX11_bound) (tgt := 17) dX11_bound_88 (by decide) ?_
              refine pv_fg (lo2 := [.ref 0, .int x0, pv_U, .int y20, .int v39, pv_U]) ⟨Or.inr rfl, ⟨Or.inr rfl, ⟨Or.inl rfl, ⟨Or.inr rfl, ⟨Or.inr rfl, ⟨Or.inl rfl, trivial⟩⟩⟩⟩⟩⟩ ?_
              have kbm17 : BMP (SHC m0) x0 y20.toInt v39.toInt 0 := BMP_row kg30 (by omega) (by omega)
              have kbc17 := kgc30
              exact ih9 y20 v39 m22 n23 r31 (by first | omega | assumption | exact (iv_rng _).2 | exact (iv_rng _).1 | decide) (by first | omega | assumption | exact (iv_rng _).2 | exact (iv_rng _).1 | decide) kbm17 kbc17 I24 K25 or31 (by omega)
            · have c38 := iv_nle (X := 8) (Y := y21.toInt) c38 (by decide) rfl
              refine pv_iload_n (M := mX11_bound) 1 dX11_bound_37 38 rfl rfl rfl ?_
              refine pv_iload (M := mX11_bound) dX11_bound_38 40 rfl rfl ?_
              refine pv_calls (M := mX11_bound) (as := [.int x0, .int y2]) (st := []) (kc2 := 0) (ks2 := 0) dX11_bound_40 wd931 YX11_isAmong wd932 (s_X11_isAmong g hT I24 x0 y2) rfl rfl (Nat.le_of_ble_eq_true rfl) (by decide) rfl rfl 43 rfl (fun rv h1 q42 => ?_)
              obtain ⟨v43, rfl, rfl, pv43, qv43, rv43⟩ := q42
              replace rv43 : v43 = amv x0 y2 := rv43
              show PV _ _ _ _ _ _ _ 43 [.ref 0, .int x0, pv_U, .int y20, .int y2, .int y21] [.int v43] _
              have k43 : (amv x0 (Int32.ofInt (y2.toInt.toNat : Nat))).toInt = v43.toInt := by rw [ofn (by omega), rv43]
              have k43b : bt x0 y2.toInt = v43.toInt := by rw [← k43, amv_bt, show ((y2.toInt.toNat : Nat) : Int) = y2.toInt by omega]
              refine pv_if_eq (M := mX11_bound) (tgt := 79) dX11_bound_43 46 rfl (by decide) (fun c46 => ?_) (fun c46 => ?_)
              · have c46 := iv_eq (X := v43.toInt) (Y := 0) c46 rfl (by decide)
                refine iv_inc (M := mX11_bound) (C := 1) dX11_bound_79 82 rfl rfl (by decide) rfl rfl (by decide) (by omega) (by omega) (fun v47 ev47 => ?_)
                show PV _ _ _ _ _ _ _ 82 [.ref 0, .int x0, pv_U, .int y20, .int y2, .int v47] [] _
                refine pv_goto (M := mX11_bound) (tgt := 30) dX11_bound_82 (by decide) ?_
                have kbm30 : BMP (SHC m0) x0 y20.toInt y2.toInt v47.toInt := by first | exact BMP_hit kg30 (by omega) (by omega) (by omega) (by omega) (by omega) kSH (by omega) (by omega) | exact BMP_skip kg30 (by omega) (by omega)
                have kbc30 : CCL m22 := by first | exact kCC | exact kgc30
                exact ih28 y20 v47 m22 n23 r31 (by first | omega | assumption | exact (iv_rng _).2 | exact (iv_rng _).1 | decide) (by first | omega | assumption | exact (iv_rng _).2 | exact (iv_rng _).1 | decide) (by first | omega | assumption | (show y2.toInt < v47.toInt; omega) | decide) kbm30 kbc30 I24 K25 or31 (by omega)
              · have c46 := iv_ne (X := v43.toInt) (Y := 0) c46 rfl (by decide)
                refine pv_iload_n (M := mX11_bound) 1 dX11_bound_46 47 rfl rfl rfl ?_
                refine pv_iload (M := mX11_bound) dX11_bound_47 49 rfl rfl ?_
                refine pv_calls (M := mX11_bound) (as := [.int x0, .int y21]) (st := []) (kc2 := 0) (ks2 := 0) dX11_bound_49 wd931 YX11_isAmong wd932 (s_X11_isAmong g hT I24 x0 y21) rfl rfl (Nat.le_of_ble_eq_true rfl) (by decide) rfl rfl 52 rfl (fun rv h1 q50 => ?_)
                obtain ⟨v51, rfl, rfl, pv51, qv51, rv51⟩ := q50
                replace rv51 : v51 = amv x0 y21 := rv51
                show PV _ _ _ _ _ _ _ 52 [.ref 0, .int x0, pv_U, .int y20, .int y2, .int y21] [.int v51] _
                have k52 : (amv x0 (Int32.ofInt (y21.toInt.toNat : Nat))).toInt = v51.toInt := by rw [ofn (by omega), rv51]
                have k52b : bt x0 y21.toInt = v51.toInt := by rw [← k52, amv_bt, show ((y21.toInt.toNat : Nat) : Int) = y21.toInt by omega]
                refine pv_if_eq (M := mX11_bound) (tgt := 79) dX11_bound_52 55 rfl (by decide) (fun c54 => ?_) (fun c54 => ?_)
                · have c54 := iv_eq (X := v51.toInt) (Y := 0) c54 rfl (by decide)
                  refine iv_inc (M := mX11_bound) (C := 1) dX11_bound_79 82 rfl rfl (by decide) rfl rfl (by decide) (by omega) (by omega) (fun v55 ev55 => ?_)
                  show PV _ _ _ _ _ _ _ 82 [.ref 0, .int x0, pv_U, .int y20, .int y2, .int v55] [] _
                  refine pv_goto (M := mX11_bound) (tgt := 30) dX11_bound_82 (by decide) ?_
                  have kbm30 : BMP (SHC m0) x0 y20.toInt y2.toInt v55.toInt := by first | exact BMP_hit kg30 (by omega) (by omega) (by omega) (by omega) (by omega) kSH (by omega) (by omega) | exact BMP_skip kg30 (by omega) (by omega)
                  have kbc30 : CCL m22 := by first | exact kCC | exact kgc30
                  exact ih28 y20 v55 m22 n23 r31 (by first | omega | assumption | exact (iv_rng _).2 | exact (iv_rng _).1 | decide) (by first | omega | assumption | exact (iv_rng _).2 | exact (iv_rng _).1 | decide) (by first | omega | assumption | (show y2.toInt < v55.toInt; omega) | decide) kbm30 kbc30 I24 K25 or31 (by omega)
                · have c54 := iv_ne (X := v51.toInt) (Y := 0) c54 rfl (by decide)
                  refine pv_iload_n (M := mX11_bound) 3 dX11_bound_55 56 rfl rfl rfl ?_
                  refine pv_aload_n (M := mX11_bound) 0 dX11_bound_56 57 rfl rfl rfl ?_
                  refine pv_iconst (M := mX11_bound) (v := 1) dX11_bound_57 58 rfl (by decide) ?_
                  refine pv_iload (M := mX11_bound) dX11_bound_58 60 rfl rfl ?_
                  refine iv_shlU (M := mX11_bound) dX11_bound_60 61 rfl (fun v58 ev58 => ?_)
                  have pv58 : 1 ≤ v58.toInt ∧ v58.toInt ≤ 128 := by rw [ev58]; exact iv_sh17 (by omega) (by omega)
                  have k61 := ev58
                  refine pv_iconst (M := mX11_bound) (v := 1) dX11_bound_61 62 rfl (by decide) ?_
                  refine pv_iload (M := mX11_bound) dX11_bound_62 64 rfl rfl ?_
                  refine iv_shlU (M := mX11_bound) dX11_bound_64 65 rfl (fun v60 ev60 => ?_)
                  have pv60 : 1 ≤ v60.toInt ∧ v60.toInt ≤ 128 := by rw [ev60]; exact iv_sh17 (by omega) (by omega)
                  have k65 := ev60
                  refine iv_orU (M := mX11_bound) dX11_bound_65 66 rfl (fun v62 ev62 => ?_)
                  have pv62 : 0 ≤ v62.toInt ∧ v62.toInt ≤ 255 := by rw [ev62]; exact iv_or8 (by omega) (by omega) (by omega) (by omega)
                  have kpx : v62 = pxy y2.toInt.toNat y21.toInt.toNat := by rw [ev62, k61, k65]; unfold pxy; rw [ofn (by omega), ofn (by omega)]
                  have kpo := pxy_ok (i := y2.toInt.toNat) (j := y21.toInt.toNat) (by omega) (by omega)
                  have kps := pxy_sz (m := m0) (m2 := m22) (x := x0) (i := y2.toInt.toNat) (j := y21.toInt.toNat) (by omega) (by omega) hp2 (by omega) (by omega) (fun a q h => K25 a q (wF_isW h))
                  rw [← kpx] at kpo kps
                  refine pv_callv (M := mX11_bound) (as := [.int v62]) (st := [.int y20]) (kc2 := 0) (ks2 := 0) dX11_bound_66 wd963 YX11_coverFor ⟨wd965, wd39⟩ (mk_get (tl0 hT)) rfl rfl (s_X11_coverFor_vf g hT I24 R hC hc2 v62 kpo.1 kpo.2 kps kgc30) rfl rfl (Nat.le_of_ble_eq_true rfl) (by decide) rfl rfl 69 rfl (fun rv h1 q67 => ?_)
                  obtain ⟨m68, n69, r72, rfl, rfl, I70, K71, qr72, rm68⟩ := q67
                  replace rm68 : m68 169 1 = v62 ∧ SCL m68 v62 := rm68
                  have or72 := rn.trans or31 qr72
                  have R := RX_rn R qr72
                  have zR := R.2.2.2.2.1.1
                  have zR2 := R.2.2.2.2.2.1
                  have hc2 : r72 2 = .ref 169 := or72.1
                  have K71c := K71
                  have K71 := K25.trans (K71.sub WX_wF)
                  show PV _ _ _ _ _ _ _ 69 [.ref 0, .int x0, pv_U, .int y20, .int y2, .int y21] [.ref 169, .int y20] _
                  have k69 := rm68
                  have kSH : SHC m0 (pxy y2.toInt.toNat y21.toInt.toNat) (m68 170 1).toInt := by have z := SHC_fr (m := m0) (m2 := m68) (fun a q h => K71 a q (wF_isW h)) (SCL_C k69.2); rw [kpx] at z; exact z
                  have kCC : CCL m68 := CCL_of k69
                  refine mv_get (M := mX11_bound) (v := .ref 170) dX11_bound_69 FX3 0 wd980 (by decide) (tc169 hC) rfl rfl 72 rfl ?_
                  refine iv_get (M := mX11_bound) (l1 := 0) (l2 := 48) dX11_bound_72 FX8 1 wd200 (by decide) (tc170 hC) rfl I70 rfl 75 rfl (fun v76 ev76 pv76 qv76 => ?_)
                  have k75 : v76.toInt = (m68 170 1).toInt := congrArg Int32.toInt ev76
                  refine iv_max (M := mX11_bound) (X := y20.toInt) (Y := v76.toInt) dX11_bound_75 wd883 Wmmax (Nat.le_of_ble_eq_true rfl) (by decide) rfl rfl 78 rfl (fun v78 ev78 fv78 gv78 => ?_)
                  refine pv_istore_n (M := mX11_bound) 3 (lo2 := [.ref 0, .int x0, pv_U, .int v78, .int y2, .int y21]) dX11_bound_78 79 rfl rfl (by decide) rfl rfl ?_
                  refine iv_inc (M := mX11_bound) (C := 1) dX11_bound_79 82 rfl rfl (by decide) rfl rfl (by decide) (by omega) (by omega) (fun v79 ev79 => ?_)
                  show PV _ _ _ _ _ _ _ 82 [.ref 0, .int x0, pv_U, .int v78, .int y2, .int v79] [] _
                  refine pv_goto (M := mX11_bound) (tgt := 30) dX11_bound_82 (by decide) ?_
                  have kbm30 : BMP (SHC m0) x0 v78.toInt y2.toInt v79.toInt := by first | exact BMP_hit kg30 (by omega) (by omega) (by omega) (by omega) (by omega) kSH (by omega) (by omega) | exact BMP_skip kg30 (by omega) (by omega)
                  have kbc30 : CCL m68 := by first | exact kCC | exact kgc30
                  exact ih28 v78 v79 m68 n69 r72 (by first | omega | assumption | exact (iv_rng _).2 | exact (iv_rng _).1 | decide) (by first | omega | assumption | exact (iv_rng _).2 | exact (iv_rng _).1 | decide) (by first | omega | assumption | (show y2.toInt < v79.toInt; omega) | decide) kbm30 kbc30 I70 K71 or72 (by omega)
        exact lp27 (((8 - v19.toInt) : Int).toNat + 1) y1 v19 m3 n4 r12 (by first | omega | assumption | exact (iv_rng _).2 | exact (iv_rng _).1 | decide) (by first | omega | assumption | exact (iv_rng _).2 | exact (iv_rng _).1 | decide) (by first | omega | assumption | (show y2.toInt < v19.toInt; omega) | decide) (BMP_in kg17 (by omega)) kgc17 I5 K6 or12 (by omega)
  exact lp8 (((8 - y4.toInt) : Int).toNat + 1) y3 y4 m n r (by first | omega | assumption | exact (iv_rng _).2 | exact (iv_rng _).1 | decide) (by first | omega | assumption | exact (iv_rng _).2 | exact (iv_rng _).1 | decide) hq0 hp0 I Kp or (by omega)

set_option maxHeartbeats 2000000 in
set_option maxRecDepth 20000 in
theorem s_X11_bound_vs30f (g : pv_G) {T : List mv_T} {m : Nat → Nat → Int32} {n : Nat → Nat → Int64} {r : Nat → Value} {m0 : Nat → Nat → Int32} {r0 : Nat → Value} {la lb : Nat} (hT : TX T) (I : IV BB m) (Kp : fr wF m0 m) (or : rn r0 r) (R : RX T r la lb) (hC : TC T) (hc2 : r 2 = .ref 169) (x0 : Int32) (hp0 : CCL m) (hp1 : G1 m0 x0) (hp2 : G2 m0 x0) (y3 : Int32) (y4 : Int32) (hy4 : 0 ≤ y4.toInt) (hz4 : y4.toInt ≤ 7) (y5 : Int32) (hy5 : 1 ≤ y5.toInt) (hz5 : y5.toInt ≤ 8) (hq0 : BMP (SHC m0) x0 y3.toInt y4.toInt y5.toInt) (hq1 : y4.toInt < y5.toInt) : PV none g mX11_bound (sqIr T BB wF rn r0 m0 (-2147483648) 2147483647 (fun m' r' v => BDV (G1 m0 x0) (G2 m0 x0) (SHC m0) x0 v.toInt ∧ CCL m')) 6 0 0 30 [.ref 0, .int x0, pv_U, .int y3, .int y4, .int y5] [] (mk T m n r) := by
  have R0 := R
  have zR := R.2.2.2.2.1.1
  have zR2 := R.2.2.2.2.2.1
  have hc20 := hc2
  have lp8 : ∀ (fuel7 : Nat) (y1 : Int32) (y2 : Int32) (m3 : Nat → Nat → Int32) (n4 : Nat → Nat → Int64) (r12 : Nat → Value), (1 ≤ y2.toInt) → (y2.toInt ≤ 8) → (y4.toInt < y2.toInt) → (BMP (SHC m0) x0 y1.toInt y4.toInt y2.toInt) → (CCL m3) → IV BB m3 → fr wF m0 m3 → rn r0 r12 → ((8 - y2.toInt) : Int).toNat < fuel7 → PV none g mX11_bound (sqIr T BB wF rn r0 m0 (-2147483648) 2147483647 (fun m' r' v => BDV (G1 m0 x0) (G2 m0 x0) (SHC m0) x0 v.toInt ∧ CCL m')) 6 0 0 30 [.ref 0, .int x0, pv_U, .int y1, .int y4, .int y2] [] (mk T m3 n4 r12) := by
    intro fuel7
    induction fuel7 with
    | zero => intro y1 y2 m3 n4 r12 b10 b11 b13 b14 b15 I5 K6 or12 z16; omega
    | succ fuel7 ih9 =>
      intro y1 y2 m3 n4 r12 b10 b11 b13 b14 b15 I5 K6 or12 z16
      have hc2 := or12.1
      have R := RX_rn2 R0 or or12
      have zR := R.2.2.2.2.1.1
      have zR2 := R.2.2.2.2.2.1
      have kg30 := (show BMP (SHC m0) x0 y1.toInt y4.toInt y2.toInt by assumption)
      have kgc30 := (show CCL m3 by assumption)
      refine pv_iload (M := mX11_bound) dX11_bound_30 32 rfl rfl ?_
      refine pv_bipush (M := mX11_bound) (v := 8) dX11_bound_32 34 rfl (by decide) ?_
      refine pv_icmp_ge (M := mX11_bound) (tgt := 85) dX11_bound_34 37 rfl (by decide) (fun c19 => ?_) (fun c19 => ?_)
      · have c19 := iv_le (X := 8) (Y := y2.toInt) c19 (by decide) rfl
        refine iv_inc (M := mX11_bound) (C := 1) dX11_bound_85 88 rfl rfl (by decide) rfl rfl (by decide) (by omega) (by omega) (fun v20 ev20 => ?_)
        show PV _ _ _ _ _ _ _ 88 [.ref 0, .int x0, pv_U, .int y1, .int v20, .int y2] [] _
        refine pv_goto (M := mX11_bound) (tgt := 17) dX11_bound_88 (by decide) ?_
        exact pv_fg (lo2 := [.ref 0, .int x0, pv_U, .int y1, .int v20, pv_U]) ⟨Or.inr rfl, Or.inr rfl, Or.inr rfl, Or.inr rfl, Or.inr rfl, Or.inl rfl, trivial⟩ (s_X11_bound_vs17f g hT I5 K6 or12 R hC hc2 x0 kgc30 hp1 hp2 y1 v20 (by omega) (by omega) (BMP_row kg30 (by omega) (by omega)))
      · have c19 := iv_nle (X := 8) (Y := y2.toInt) c19 (by decide) rfl
        refine pv_iload_n (M := mX11_bound) 1 dX11_bound_37 38 rfl rfl rfl ?_
        refine pv_iload (M := mX11_bound) dX11_bound_38 40 rfl rfl ?_
        refine pv_calls (M := mX11_bound) (as := [.int x0, .int y4]) (st := []) (kc2 := 0) (ks2 := 0) dX11_bound_40 wd931 YX11_isAmong wd932 (s_X11_isAmong g hT I5 x0 y4) rfl rfl (Nat.le_of_ble_eq_true rfl) (by decide) rfl rfl 43 rfl (fun rv h1 q22 => ?_)
        obtain ⟨v23, rfl, rfl, pv23, qv23, rv23⟩ := q22
        replace rv23 : v23 = amv x0 y4 := rv23
        show PV _ _ _ _ _ _ _ 43 [.ref 0, .int x0, pv_U, .int y1, .int y4, .int y2] [.int v23] _
        have k43 : (amv x0 (Int32.ofInt (y4.toInt.toNat : Nat))).toInt = v23.toInt := by rw [ofn (by omega), rv23]
        have k43b : bt x0 y4.toInt = v23.toInt := by rw [← k43, amv_bt, show ((y4.toInt.toNat : Nat) : Int) = y4.toInt by omega]
        refine pv_if_eq (M := mX11_bound) (tgt := 79) dX11_bound_43 46 rfl (by decide) (fun c26 => ?_) (fun c26 => ?_)
        · have c26 := iv_eq (X := v23.toInt) (Y := 0) c26 rfl (by decide)
          refine iv_inc (M := mX11_bound) (C := 1) dX11_bound_79 82 rfl rfl (by decide) rfl rfl (by decide) (by omega) (by omega) (fun v27 ev27 => ?_)
          show PV _ _ _ _ _ _ _ 82 [.ref 0, .int x0, pv_U, .int y1, .int y4, .int v27] [] _
          refine pv_goto (M := mX11_bound) (tgt := 30) dX11_bound_82 (by decide) ?_
          have kbm30 : BMP (SHC m0) x0 y1.toInt y4.toInt v27.toInt := by first | exact BMP_hit kg30 (by omega) (by omega) (by omega) (by omega) (by omega) kSH (by omega) (by omega) | exact BMP_skip kg30 (by omega) (by omega)
          have kbc30 : CCL m3 := by first | exact kCC | exact kgc30
          exact ih9 y1 v27 m3 n4 r12 (by first | omega | assumption | exact (iv_rng _).2 | exact (iv_rng _).1 | decide) (by first | omega | assumption | exact (iv_rng _).2 | exact (iv_rng _).1 | decide) (by first | omega | assumption | (show y4.toInt < v27.toInt; omega) | decide) kbm30 kbc30 I5 K6 or12 (by omega)
        · have c26 := iv_ne (X := v23.toInt) (Y := 0) c26 rfl (by decide)
          refine pv_iload_n (M := mX11_bound) 1 dX11_bound_46 47 rfl rfl rfl ?_
          refine pv_iload (M := mX11_bound) dX11_bound_47 49 rfl rfl ?_
          refine pv_calls (M := mX11_bound) (as := [.int x0, .int y2]) (st := []) (kc2 := 0) (ks2 := 0) dX11_bound_49 wd931 YX11_isAmong wd932 (s_X11_isAmong g hT I5 x0 y2) rfl rfl (Nat.le_of_ble_eq_true rfl) (by decide) rfl rfl 52 rfl (fun rv h1 q30 => ?_)
          obtain ⟨v31, rfl, rfl, pv31, qv31, rv31⟩ := q30
          replace rv31 : v31 = amv x0 y2 := rv31
          show PV _ _ _ _ _ _ _ 52 [.ref 0, .int x0, pv_U, .int y1, .int y4, .int y2] [.int v31] _
          have k52 : (amv x0 (Int32.ofInt (y2.toInt.toNat : Nat))).toInt = v31.toInt := by rw [ofn (by omega), rv31]
          have k52b : bt x0 y2.toInt = v31.toInt := by rw [← k52, amv_bt, show ((y2.toInt.toNat : Nat) : Int) = y2.toInt by omega]
          refine pv_if_eq (M := mX11_bound) (tgt := 79) dX11_bound_52 55 rfl (by decide) (fun c34 => ?_) (fun c34 => ?_)
          · have c34 := iv_eq (X := v31.toInt) (Y := 0) c34 rfl (by decide)
            refine iv_inc (M := mX11_bound) (C := 1) dX11_bound_79 82 rfl rfl (by decide) rfl rfl (by decide) (by omega) (by omega) (fun v35 ev35 => ?_)
            show PV _ _ _ _ _ _ _ 82 [.ref 0, .int x0, pv_U, .int y1, .int y4, .int v35] [] _
            refine pv_goto (M := mX11_bound) (tgt := 30) dX11_bound_82 (by decide) ?_
            have kbm30 : BMP (SHC m0) x0 y1.toInt y4.toInt v35.toInt := by first | exact BMP_hit kg30 (by omega) (by omega) (by omega) (by omega) (by omega) kSH (by omega) (by omega) | exact BMP_skip kg30 (by omega) (by omega)
            have kbc30 : CCL m3 := by first | exact kCC | exact kgc30
            exact ih9 y1 v35 m3 n4 r12 (by first | omega | assumption | exact (iv_rng _).2 | exact (iv_rng _).1 | decide) (by first | omega | assumption | exact (iv_rng _).2 | exact (iv_rng _).1 | decide) (by first | omega | assumption | (show y4.toInt < v35.toInt; omega) | decide) kbm30 kbc30 I5 K6 or12 (by omega)
          · have c34 := iv_ne (X := v31.toInt) (Y := 0) c34 rfl (by decide)
            refine pv_iload_n (M := mX11_bound) 3 dX11_bound_55 56 rfl rfl rfl ?_
            refine pv_aload_n (M := mX11_bound) 0 dX11_bound_56 57 rfl rfl rfl ?_
            refine pv_iconst (M := mX11_bound) (v := 1) dX11_bound_57 58 rfl (by decide) ?_
            refine pv_iload (M := mX11_bound) dX11_bound_58 60 rfl rfl ?_
            refine iv_shlU (M := mX11_bound) dX11_bound_60 61 rfl (fun v38 ev38 => ?_)
            have pv38 : 1 ≤ v38.toInt ∧ v38.toInt ≤ 128 := by rw [ev38]; exact iv_sh17 (by omega) (by omega)
            have k61 := ev38
            refine pv_iconst (M := mX11_bound) (v := 1) dX11_bound_61 62 rfl (by decide) ?_
            refine pv_iload (M := mX11_bound) dX11_bound_62 64 rfl rfl ?_
            refine iv_shlU (M := mX11_bound) dX11_bound_64 65 rfl (fun v40 ev40 => ?_)
            have pv40 : 1 ≤ v40.toInt ∧ v40.toInt ≤ 128 := by rw [ev40]; exact iv_sh17 (by omega) (by omega)
            have k65 := ev40
            refine iv_orU (M := mX11_bound) dX11_bound_65 66 rfl (fun v42 ev42 => ?_)
            have pv42 : 0 ≤ v42.toInt ∧ v42.toInt ≤ 255 := by rw [ev42]; exact iv_or8 (by omega) (by omega) (by omega) (by omega)
            have kpx : v42 = pxy y4.toInt.toNat y2.toInt.toNat := by rw [ev42, k61, k65]; unfold pxy; rw [ofn (by omega), ofn (by omega)]
            have kpo := pxy_ok (i := y4.toInt.toNat) (j := y2.toInt.toNat) (by omega) (by omega)
            have kps := pxy_sz (m := m0) (m2 := m3) (x := x0) (i := y4.toInt.toNat) (j := y2.toInt.toNat) (by omega) (by omega) hp2 (by omega) (by omega) (fun a q h => K6 a q (wF_isW h))
            rw [← kpx] at kpo kps
            refine pv_callv (M := mX11_bound) (as := [.int v42]) (st := [.int y1]) (kc2 := 0) (ks2 := 0) dX11_bound_66 wd963 YX11_coverFor ⟨wd965, wd39⟩ (mk_get (tl0 hT)) rfl rfl (s_X11_coverFor_vf g hT I5 R hC hc2 v42 kpo.1 kpo.2 kps kgc30) rfl rfl (Nat.le_of_ble_eq_true rfl) (by decide) rfl rfl 69 rfl (fun rv h1 q47 => ?_)
            obtain ⟨m48, n49, r52, rfl, rfl, I50, K51, qr52, rm48⟩ := q47
            replace rm48 : m48 169 1 = v42 ∧ SCL m48 v42 := rm48
            have or52 := rn.trans or12 qr52
            have R := RX_rn R qr52
            have zR := R.2.2.2.2.1.1
            have zR2 := R.2.2.2.2.2.1
            have hc2 : r52 2 = .ref 169 := or52.1
            have K51c := K51
            have K51 := K6.trans (K51.sub WX_wF)
            show PV _ _ _ _ _ _ _ 69 [.ref 0, .int x0, pv_U, .int y1, .int y4, .int y2] [.ref 169, .int y1] _
            have k69 := rm48
            have kSH : SHC m0 (pxy y4.toInt.toNat y2.toInt.toNat) (m48 170 1).toInt := by have z := SHC_fr (m := m0) (m2 := m48) (fun a q h => K51 a q (wF_isW h)) (SCL_C k69.2); rw [kpx] at z; exact z
            have kCC : CCL m48 := CCL_of k69
            refine mv_get (M := mX11_bound) (v := .ref 170) dX11_bound_69 FX3 0 wd980 (by decide) (tc169 hC) rfl rfl 72 rfl ?_
            refine iv_get (M := mX11_bound) (l1 := 0) (l2 := 48) dX11_bound_72 FX8 1 wd200 (by decide) (tc170 hC) rfl I50 rfl 75 rfl (fun v56 ev56 pv56 qv56 => ?_)
            have k75 : v56.toInt = (m48 170 1).toInt := congrArg Int32.toInt ev56
            refine iv_max (M := mX11_bound) (X := y1.toInt) (Y := v56.toInt) dX11_bound_75 wd883 Wmmax (Nat.le_of_ble_eq_true rfl) (by decide) rfl rfl 78 rfl (fun v58 ev58 fv58 gv58 => ?_)
            refine pv_istore_n (M := mX11_bound) 3 (lo2 := [.ref 0, .int x0, pv_U, .int v58, .int y4, .int y2]) dX11_bound_78 79 rfl rfl (by decide) rfl rfl ?_
            refine iv_inc (M := mX11_bound) (C := 1) dX11_bound_79 82 rfl rfl (by decide) rfl rfl (by decide) (by omega) (by omega) (fun v59 ev59 => ?_)
            show PV _ _ _ _ _ _ _ 82 [.ref 0, .int x0, pv_U, .int v58, .int y4, .int v59] [] _
            refine pv_goto (M := mX11_bound) (tgt := 30) dX11_bound_82 (by decide) ?_
            have kbm30 : BMP (SHC m0) x0 v58.toInt y4.toInt v59.toInt := by first | exact BMP_hit kg30 (by omega) (by omega) (by omega) (by omega) (by omega) kSH (by omega) (by omega) | exact BMP_skip kg30 (by omega) (by omega)
            have kbc30 : CCL m48 := by first | exact kCC | exact kgc30
            exact ih9 v58 v59 m48 n49 r52 (by first | omega | assumption | exact (iv_rng _).2 | exact (iv_rng _).1 | decide) (by first | omega | assumption | exact (iv_rng _).2 | exact (iv_rng _).1 | decide) (by first | omega | assumption | (show y4.toInt < v59.toInt; omega) | decide) kbm30 kbc30 I50 K51 or52 (by omega)
  exact lp8 (((8 - y5.toInt) : Int).toNat + 1) y3 y5 m n r (by first | omega | assumption | exact (iv_rng _).2 | exact (iv_rng _).1 | decide) (by first | omega | assumption | exact (iv_rng _).2 | exact (iv_rng _).1 | decide) (by first | omega | assumption | (show y4.toInt < y5.toInt; omega) | decide) hq0 hp0 I Kp or (by omega)

set_option maxHeartbeats 2000000 in
set_option maxRecDepth 20000 in
theorem s_X11_bound_vcf (g : pv_G) {T : List mv_T} {m : Nat → Nat → Int32} {n : Nat → Nat → Int64} {r : Nat → Value} {la lb : Nat} (hT : TX T) (I : IV BB m) (R : RX T r la lb) (hC : TC T) (hc2 : r 2 = .ref 169) (x0 : Int32) (hp0 : CCL m) : PM g mX11_bound yX11_bound (sqIr T BB wF rn r m (-2147483648) 2147483647 (fun m' r' v => BDV (G1 m x0) (G2 m x0) (SHC m) x0 v.toInt ∧ CCL m')) 6 0 0 [.ref 0, .int x0] (mk T m n r) := by
  have Kp : fr wF m m := fr.rf
  have R0 := R
  have zR := R.2.2.2.2.1.1
  have zR2 := R.2.2.2.2.2.1
  have hc20 := hc2
  refine PM.of 4 (lo := [.ref 0, .int x0, pv_U, pv_U, pv_U, pv_U]) rfl (by decide) rfl rfl (Nat.le_of_ble_eq_true rfl) ?_
  refine pv_aload_n (M := mX11_bound) 0 dX11_bound_0 1 rfl rfl rfl ?_
  refine pv_iload_n (M := mX11_bound) 1 dX11_bound_1 2 rfl rfl rfl ?_
  refine pv_callv (M := mX11_bound) (as := [.int x0]) (st := []) (kc2 := 0) (ks2 := 0) dX11_bound_2 wd959 YX11_refuseCover ⟨wd961, wd38⟩ (mk_get (tl0 hT)) rfl rfl (s_X11_refuseCover_ve g hT I R x0) rfl rfl (Nat.le_of_ble_eq_true rfl) (by decide) rfl rfl 5 rfl (fun rv h1 q1 => ?_)
  obtain ⟨v2, rfl, rfl, pv2, qv2, rv2⟩ := q1
  replace rv2 : RFV m x0 v2.toInt := rv2
  show PV _ _ _ _ _ _ _ 5 [.ref 0, .int x0, pv_U, pv_U, pv_U, pv_U] [.int v2] _
  have ke := rv2
  refine pv_istore_n (M := mX11_bound) 2 (lo2 := [.ref 0, .int x0, .int v2, pv_U, pv_U, pv_U]) dX11_bound_5 6 rfl rfl (by decide) rfl rfl ?_
  refine pv_iload_n (M := mX11_bound) 2 dX11_bound_6 7 rfl rfl rfl ?_
  refine pv_if_eq (M := mX11_bound) (tgt := 12) dX11_bound_7 10 rfl (by decide) (fun c4 => ?_) (fun c4 => ?_)
  · have c4 := iv_eq (X := v2.toInt) (Y := 0) c4 rfl (by decide)
    have kok := RFV_ok ke (by omega)
    refine pv_iconst (M := mX11_bound) (v := 0) dX11_bound_12 13 rfl (by decide) ?_
    refine pv_istore_n (M := mX11_bound) 3 (lo2 := [.ref 0, .int x0, .int v2, .int 0, pv_U, pv_U]) dX11_bound_13 14 rfl rfl (by decide) rfl rfl ?_
    refine pv_iconst (M := mX11_bound) (v := 0) dX11_bound_14 15 rfl (by decide) ?_
    refine pv_istore (M := mX11_bound) (lo2 := [.ref 0, .int x0, .int v2, .int 0, .int 0, pv_U]) dX11_bound_15 17 rfl (by decide) rfl rfl ?_
    exact pv_fg (lo2 := [.ref 0, .int x0, pv_U, .int 0, .int 0, pv_U]) ⟨Or.inr rfl, Or.inr rfl, Or.inl rfl, Or.inr rfl, Or.inr rfl, Or.inr rfl, trivial⟩ (s_X11_bound_vs17f g hT I Kp (rn.rf hc20) R hC hc2 x0 hp0 kok.1 kok.2 0 0 (by decide) (by decide) (by rw [Int32.toInt_zero]; exact BMP_0))
  · have c4 := iv_ne (X := v2.toInt) (Y := 0) c4 rfl (by decide)
    refine pv_iload_n (M := mX11_bound) 2 dX11_bound_10 11 rfl rfl rfl ?_
    exact pv_iret (M := mX11_bound) dX11_bound_11 rfl rfl ⟨_, _, _, _, rfl, rfl, I, Kp, (rn.rf hc20), (iv_rng v2).1, (iv_rng v2).2, ⟨RFV_no ke (by omega), hp0⟩⟩

set_option maxHeartbeats 2000000 in
set_option maxRecDepth 20000 in
theorem s_X11_bound_vnf (g : pv_G) {T : List mv_T} {m : Nat → Nat → Int32} {n : Nat → Nat → Int64} {r : Nat → Value} {la lb : Nat} (hT : TX T) (I : IV BB m) (R : RX T r la lb) (hTL : T = TL) (hc0 : r 2 = .null) (x0 : Int32) (hp0 : cOK m x0) (hp1 : ¬ (∀ i j : Nat, i < j → j < 8 → (amv x0 (Int32.ofInt i)).toInt = 0 ∨ (amv x0 (Int32.ofInt j)).toInt = 0)) : PM g mX11_bound yX11_bound (sqIr TL2 BB wF rn r m (-2147483648) 2147483647 (fun m' r' v => BDV (G1 m x0) (G2 m x0) (SHC m) x0 v.toInt ∧ CCL m')) 6 11 57200 [.ref 0, .int x0] (mk T m n r) := by
  have Kp : fr wF m m := fr.rf
  have R0 := R
  have zR := R.2.2.2.2.1.1
  have zR2 := R.2.2.2.2.2.1
  refine PM.of 4 (lo := [.ref 0, .int x0, pv_U, pv_U, pv_U, pv_U]) rfl (by decide) rfl rfl (Nat.le_of_ble_eq_true rfl) ?_
  refine pv_aload_n (M := mX11_bound) 0 dX11_bound_0 1 rfl rfl rfl ?_
  refine pv_iload_n (M := mX11_bound) 1 dX11_bound_1 2 rfl rfl rfl ?_
  refine pv_callv (M := mX11_bound) (as := [.int x0]) (st := []) (kc2 := 11) (ks2 := 57200) dX11_bound_2 wd959 YX11_refuseCover ⟨wd961, wd38⟩ (mk_get (tl0 hT)) rfl rfl (s_X11_refuseCover g hT I R x0) rfl rfl (Nat.le_of_ble_eq_true rfl) (by decide) rfl rfl 5 rfl (fun rv h1 q1 => ?_)
  obtain ⟨v2, rfl, rfl, pv2, qv2, rv2⟩ := q1
  replace rv2 : RFZ m x0 v2 := rv2
  show PV _ _ _ _ _ _ _ 5 [.ref 0, .int x0, pv_U, pv_U, pv_U, pv_U] [.int v2] _
  have kr : RFZ m x0 v2 := rv2
  have kG := cOK_G.mp hp0
  refine pv_istore_n (M := mX11_bound) 2 (lo2 := [.ref 0, .int x0, .int v2, pv_U, pv_U, pv_U]) dX11_bound_5 6 rfl rfl (by decide) rfl rfl ?_
  refine pv_iload_n (M := mX11_bound) 2 dX11_bound_6 7 rfl rfl rfl ?_
  refine pv_if_eq (M := mX11_bound) (tgt := 12) dX11_bound_7 10 rfl (by decide) (fun c5 => ?_) (fun c5 => ?_)
  · have c5 := iv_eq (X := v2.toInt) (Y := 0) c5 rfl (by decide)
    refine pv_iconst (M := mX11_bound) (v := 0) dX11_bound_12 13 rfl (by decide) ?_
    refine pv_istore_n (M := mX11_bound) 3 (lo2 := [.ref 0, .int x0, .int v2, .int 0, pv_U, pv_U]) dX11_bound_13 14 rfl rfl (by decide) rfl rfl ?_
    refine pv_iconst (M := mX11_bound) (v := 0) dX11_bound_14 15 rfl (by decide) ?_
    refine pv_istore (M := mX11_bound) (lo2 := [.ref 0, .int x0, .int v2, .int 0, .int 0, pv_U]) dX11_bound_15 17 rfl (by decide) rfl rfl ?_
    have lp13 : ∀ (fuel12 : Nat) (y6 : Int32) (y7 : Int32) (m8 : Nat → Nat → Int32) (n9 : Nat → Nat → Int64), (0 ≤ y6.toInt) → (y6.toInt ≤ 48) → (0 ≤ y7.toInt) → (y7.toInt ≤ 8) → (∀ i j : Nat, i < j → j < 8 → (i : Int) < y7.toInt → (amv x0 (Int32.ofInt i)).toInt = 0 ∨ (amv x0 (Int32.ofInt j)).toInt = 0) → (BMP (SHC m) x0 y6.toInt y7.toInt 0) → IV BB m8 → fr wF m m8 → ((8 - y7.toInt) : Int).toNat < fuel12 → PV none g mX11_bound (sqIr TL2 BB wF rn r m (-2147483648) 2147483647 (fun m' r' v => BDV (G1 m x0) (G2 m x0) (SHC m) x0 v.toInt ∧ CCL m')) 6 11 57200 17 [.ref 0, .int x0, .int v2, .int y6, .int y7, pv_U] [] (mk T m8 n9 r) := by
      intro fuel12
      induction fuel12 with
      | zero => intro y6 y7 m8 n9 b15 b16 b17 b18 b19 b20 I10 K11 z21; omega
      | succ fuel12 ih14 =>
        intro y6 y7 m8 n9 b15 b16 b17 b18 b19 b20 I10 K11 z21
        have kf17 := (show ∀ i j : Nat, i < j → j < 8 → (i : Int) < y7.toInt → (amv x0 (Int32.ofInt i)).toInt = 0 ∨ (amv x0 (Int32.ofInt j)).toInt = 0 by assumption)
        have kg17 := (show BMP (SHC m) x0 y6.toInt y7.toInt 0 by assumption)
        refine pv_iload (M := mX11_bound) dX11_bound_17 19 rfl rfl ?_
        refine pv_bipush (M := mX11_bound) (v := 8) dX11_bound_19 21 rfl (by decide) ?_
        refine pv_icmp_ge (M := mX11_bound) (tgt := 91) dX11_bound_21 24 rfl (by decide) (fun c24 => ?_) (fun c24 => ?_)
        · have c24 := iv_le (X := 8) (Y := y7.toInt) c24 (by decide) rfl
          exact absurd (fun i j h h8 => kf17 i j h h8 (by omega)) hp1
        · have c24 := iv_nle (X := 8) (Y := y7.toInt) c24 (by decide) rfl
          refine pv_iload (M := mX11_bound) dX11_bound_24 26 rfl rfl ?_
          refine pv_iconst (M := mX11_bound) (v := 1) dX11_bound_26 27 rfl (by decide) ?_
          refine iv_iadd (M := mX11_bound) (X := y7.toInt) (Y := 1) dX11_bound_27 28 rfl rfl (by decide) (by omega) (by omega) (fun v26 ev26 => ?_)
          refine pv_istore (M := mX11_bound) (lo2 := [.ref 0, .int x0, .int v2, .int y6, .int y7, .int v26]) dX11_bound_28 30 rfl (by decide) rfl rfl ?_
          have lp34 : ∀ (fuel33 : Nat) (y27 : Int32) (y28 : Int32) (m29 : Nat → Nat → Int32) (n30 : Nat → Nat → Int64), (0 ≤ y27.toInt) → (y27.toInt ≤ 48) → (1 ≤ y28.toInt) → (y28.toInt ≤ 8) → (y7.toInt < y28.toInt) → (∀ j : Nat, y7.toInt < (j : Int) → (j : Int) < y28.toInt → (amv x0 (Int32.ofInt (y7.toInt.toNat : Nat))).toInt = 0 ∨ (amv x0 (Int32.ofInt j)).toInt = 0) → (BMP (SHC m) x0 y27.toInt y7.toInt y28.toInt) → IV BB m29 → fr wF m m29 → ((8 - y28.toInt) : Int).toNat < fuel33 → PV none g mX11_bound (sqIr TL2 BB wF rn r m (-2147483648) 2147483647 (fun m' r' v => BDV (G1 m x0) (G2 m x0) (SHC m) x0 v.toInt ∧ CCL m')) 6 11 57200 30 [.ref 0, .int x0, .int v2, .int y27, .int y7, .int y28] [] (mk T m29 n30 r) := by
            intro fuel33
            induction fuel33 with
            | zero => intro y27 y28 m29 n30 b36 b37 b38 b39 b40 b41 b42 I31 K32 z43; omega
            | succ fuel33 ih35 =>
              intro y27 y28 m29 n30 b36 b37 b38 b39 b40 b41 b42 I31 K32 z43
              have kf30 := (show ∀ j : Nat, y7.toInt < (j : Int) → (j : Int) < y28.toInt → (amv x0 (Int32.ofInt (y7.toInt.toNat : Nat))).toInt = 0 ∨ (amv x0 (Int32.ofInt j)).toInt = 0 by assumption)
              have kg30 := (show BMP (SHC m) x0 y27.toInt y7.toInt y28.toInt by assumption)
              refine pv_iload (M := mX11_bound) dX11_bound_30 32 rfl rfl ?_
              refine pv_bipush (M := mX11_bound) (v := 8) dX11_bound_32 34 rfl (by decide) ?_
              refine pv_icmp_ge (M := mX11_bound) (tgt := 85) dX11_bound_34 37 rfl (by decide) (fun c46 => ?_) (fun c46 => ?_)
              · have c46 := iv_le (X := 8) (Y := y28.toInt) c46 (by decide) rfl
                refine iv_inc (M := mX11_bound) (C := 1) dX11_bound_85 88 rfl rfl (by decide) rfl rfl (by decide) (by omega) (by omega) (fun v47 ev47 => ?_)
                show PV _ _ _ _ _ _ _ 88 [.ref 0, .int x0, .int v2, .int y27, .int v47, .int y28] [] _
                refine pv_goto (M := mX11_bound) (tgt := 17) dX11_bound_88 (by decide) ?_
                refine pv_fg (lo2 := [.ref 0, .int x0, .int v2, .int y27, .int v47, pv_U]) ⟨Or.inr rfl, ⟨Or.inr rfl, ⟨Or.inr rfl, ⟨Or.inr rfl, ⟨Or.inr rfl, ⟨Or.inl rfl, trivial⟩⟩⟩⟩⟩⟩ ?_
                have kb17 : ∀ i j : Nat, i < j → j < 8 → (i : Int) < v47.toInt → (amv x0 (Int32.ofInt i)).toInt = 0 ∨ (amv x0 (Int32.ofInt j)).toInt = 0 := fun i j h h8 a => if z : (i : Int) = y7.toInt then (by rw [show i = (y7.toInt).toNat by omega]; exact kf30 j (by omega) (by omega)) else kf17 i j h h8 (by omega)
                have kbm17 : BMP (SHC m) x0 y27.toInt v47.toInt 0 := BMP_row kg30 (by omega) (by omega)
                exact ih14 y27 v47 m29 n30 (by first | omega | assumption | exact (iv_rng _).2 | exact (iv_rng _).1 | decide) (by first | omega | assumption | exact (iv_rng _).2 | exact (iv_rng _).1 | decide) (by first | omega | assumption | exact (iv_rng _).2 | exact (iv_rng _).1 | decide) (by first | omega | assumption | exact (iv_rng _).2 | exact (iv_rng _).1 | decide) kb17 kbm17 I31 K32 (by omega)
              · have c46 := iv_nle (X := 8) (Y := y28.toInt) c46 (by decide) rfl
                refine pv_iload_n (M := mX11_bound) 1 dX11_bound_37 38 rfl rfl rfl ?_
                refine pv_iload (M := mX11_bound) dX11_bound_38 40 rfl rfl ?_
                refine pv_calls (M := mX11_bound) (as := [.int x0, .int y7]) (st := []) (kc2 := 11) (ks2 := 57200) dX11_bound_40 wd931 YX11_isAmong wd932 (s_X11_isAmong g hT I31 x0 y7) rfl rfl (Nat.le_of_ble_eq_true rfl) (by decide) rfl rfl 43 rfl (fun rv h1 q50 => ?_)
                obtain ⟨v51, rfl, rfl, pv51, qv51, rv51⟩ := q50
                replace rv51 : v51 = amv x0 y7 := rv51
                show PV _ _ _ _ _ _ _ 43 [.ref 0, .int x0, .int v2, .int y27, .int y7, .int y28] [.int v51] _
                have k43 : (amv x0 (Int32.ofInt (y7.toInt.toNat : Nat))).toInt = v51.toInt := by rw [ofn (by omega), rv51]
                have k43b : bt x0 y7.toInt = v51.toInt := by rw [← k43, amv_bt, show ((y7.toInt.toNat : Nat) : Int) = y7.toInt by omega]
                refine pv_if_eq (M := mX11_bound) (tgt := 79) dX11_bound_43 46 rfl (by decide) (fun c54 => ?_) (fun c54 => ?_)
                · have c54 := iv_eq (X := v51.toInt) (Y := 0) c54 rfl (by decide)
                  refine iv_inc (M := mX11_bound) (C := 1) dX11_bound_79 82 rfl rfl (by decide) rfl rfl (by decide) (by omega) (by omega) (fun v55 ev55 => ?_)
                  show PV _ _ _ _ _ _ _ 82 [.ref 0, .int x0, .int v2, .int y27, .int y7, .int v55] [] _
                  refine pv_goto (M := mX11_bound) (tgt := 30) dX11_bound_82 (by decide) ?_
                  have kb30 : ∀ j : Nat, y7.toInt < (j : Int) → (j : Int) < v55.toInt → (amv x0 (Int32.ofInt (y7.toInt.toNat : Nat))).toInt = 0 ∨ (amv x0 (Int32.ofInt j)).toInt = 0 := fun j a b => if z : (j : Int) = y28.toInt then (by rw [show j = (y28.toInt).toNat by omega]; omega) else kf30 j a (by omega)
                  have kbm30 : BMP (SHC m) x0 y27.toInt y7.toInt v55.toInt := by first | exact BMP_hit kg30 (by omega) (by omega) (by omega) (by omega) (by omega) kSH (by omega) (by omega) | exact BMP_skip kg30 (by omega) (by omega)
                  exact ih35 y27 v55 m29 n30 (by first | omega | assumption | exact (iv_rng _).2 | exact (iv_rng _).1 | decide) (by first | omega | assumption | exact (iv_rng _).2 | exact (iv_rng _).1 | decide) (by first | omega | assumption | exact (iv_rng _).2 | exact (iv_rng _).1 | decide) (by first | omega | assumption | exact (iv_rng _).2 | exact (iv_rng _).1 | decide) (by first | omega | assumption | (show y7.toInt < v55.toInt; omega) | decide) kb30 kbm30 I31 K32 (by omega)
                · have c54 := iv_ne (X := v51.toInt) (Y := 0) c54 rfl (by decide)
                  refine pv_iload_n (M := mX11_bound) 1 dX11_bound_46 47 rfl rfl rfl ?_
                  refine pv_iload (M := mX11_bound) dX11_bound_47 49 rfl rfl ?_
                  refine pv_calls (M := mX11_bound) (as := [.int x0, .int y28]) (st := []) (kc2 := 11) (ks2 := 57200) dX11_bound_49 wd931 YX11_isAmong wd932 (s_X11_isAmong g hT I31 x0 y28) rfl rfl (Nat.le_of_ble_eq_true rfl) (by decide) rfl rfl 52 rfl (fun rv h1 q58 => ?_)
                  obtain ⟨v59, rfl, rfl, pv59, qv59, rv59⟩ := q58
                  replace rv59 : v59 = amv x0 y28 := rv59
                  show PV _ _ _ _ _ _ _ 52 [.ref 0, .int x0, .int v2, .int y27, .int y7, .int y28] [.int v59] _
                  have k52 : (amv x0 (Int32.ofInt (y28.toInt.toNat : Nat))).toInt = v59.toInt := by rw [ofn (by omega), rv59]
                  have k52b : bt x0 y28.toInt = v59.toInt := by rw [← k52, amv_bt, show ((y28.toInt.toNat : Nat) : Int) = y28.toInt by omega]
                  refine pv_if_eq (M := mX11_bound) (tgt := 79) dX11_bound_52 55 rfl (by decide) (fun c62 => ?_) (fun c62 => ?_)
                  · have c62 := iv_eq (X := v59.toInt) (Y := 0) c62 rfl (by decide)
                    refine iv_inc (M := mX11_bound) (C := 1) dX11_bound_79 82 rfl rfl (by decide) rfl rfl (by decide) (by omega) (by omega) (fun v63 ev63 => ?_)
                    show PV _ _ _ _ _ _ _ 82 [.ref 0, .int x0, .int v2, .int y27, .int y7, .int v63] [] _
                    refine pv_goto (M := mX11_bound) (tgt := 30) dX11_bound_82 (by decide) ?_
                    have kb30 : ∀ j : Nat, y7.toInt < (j : Int) → (j : Int) < v63.toInt → (amv x0 (Int32.ofInt (y7.toInt.toNat : Nat))).toInt = 0 ∨ (amv x0 (Int32.ofInt j)).toInt = 0 := fun j a b => if z : (j : Int) = y28.toInt then (by rw [show j = (y28.toInt).toNat by omega]; omega) else kf30 j a (by omega)
                    have kbm30 : BMP (SHC m) x0 y27.toInt y7.toInt v63.toInt := by first | exact BMP_hit kg30 (by omega) (by omega) (by omega) (by omega) (by omega) kSH (by omega) (by omega) | exact BMP_skip kg30 (by omega) (by omega)
                    exact ih35 y27 v63 m29 n30 (by first | omega | assumption | exact (iv_rng _).2 | exact (iv_rng _).1 | decide) (by first | omega | assumption | exact (iv_rng _).2 | exact (iv_rng _).1 | decide) (by first | omega | assumption | exact (iv_rng _).2 | exact (iv_rng _).1 | decide) (by first | omega | assumption | exact (iv_rng _).2 | exact (iv_rng _).1 | decide) (by first | omega | assumption | (show y7.toInt < v63.toInt; omega) | decide) kb30 kbm30 I31 K32 (by omega)
                  · have c62 := iv_ne (X := v59.toInt) (Y := 0) c62 rfl (by decide)
                    refine pv_iload_n (M := mX11_bound) 3 dX11_bound_55 56 rfl rfl rfl ?_
                    refine pv_aload_n (M := mX11_bound) 0 dX11_bound_56 57 rfl rfl rfl ?_
                    refine pv_iconst (M := mX11_bound) (v := 1) dX11_bound_57 58 rfl (by decide) ?_
                    refine pv_iload (M := mX11_bound) dX11_bound_58 60 rfl rfl ?_
                    refine iv_shlU (M := mX11_bound) dX11_bound_60 61 rfl (fun v66 ev66 => ?_)
                    have pv66 : 1 ≤ v66.toInt ∧ v66.toInt ≤ 128 := by rw [ev66]; exact iv_sh17 (by omega) (by omega)
                    have k61 := ev66
                    refine pv_iconst (M := mX11_bound) (v := 1) dX11_bound_61 62 rfl (by decide) ?_
                    refine pv_iload (M := mX11_bound) dX11_bound_62 64 rfl rfl ?_
                    refine iv_shlU (M := mX11_bound) dX11_bound_64 65 rfl (fun v68 ev68 => ?_)
                    have pv68 : 1 ≤ v68.toInt ∧ v68.toInt ≤ 128 := by rw [ev68]; exact iv_sh17 (by omega) (by omega)
                    have k65 := ev68
                    refine iv_orU (M := mX11_bound) dX11_bound_65 66 rfl (fun v70 ev70 => ?_)
                    have pv70 : 0 ≤ v70.toInt ∧ v70.toInt ≤ 255 := by rw [ev70]; exact iv_or8 (by omega) (by omega) (by omega) (by omega)
                    have kpx : v70 = pxy y7.toInt.toNat y28.toInt.toNat := by rw [ev70, k61, k65]; unfold pxy; rw [ofn (by omega), ofn (by omega)]
                    have kpo := pxy_ok (i := y7.toInt.toNat) (j := y28.toInt.toNat) (by omega) (by omega)
                    have kps := pxy_sz (m := m) (m2 := m29) (x := x0) (i := y7.toInt.toNat) (j := y28.toInt.toNat) (by omega) (by omega) kG.2 (by omega) (by omega) (fun a q h => K32 a q (wF_isW h))
                    rw [← kpx] at kpo kps
                    refine pv_callv (M := mX11_bound) (as := [.int v70]) (st := [.int y27]) (kc2 := 0) (ks2 := 0) dX11_bound_66 wd963 YX11_coverFor ⟨wd965, wd39⟩ (mk_get (tl0 hT)) rfl rfl (k_coverFor_nf g hTL I31 R hc0 v70 kpo.1 kpo.2 kps) rfl rfl (Nat.le_of_ble_eq_true rfl) (by decide) rfl rfl 69 rfl (fun rv h1 q75 => ?_)
                    generalize hG : TL2 = T2 at q75 ⊢
                    obtain ⟨m76, n77, r80, rfl, rfl, I78, K79, or80, kCv⟩ := q75
                    have hC : TC T2 := hG.symm
                    have hT : TX T2 := TC_TX hC
                    have hc2 := or80.1
                    have R := RX_rnT R or80
                    rw [hG] at R
                    have zR := R.2.2.2.2.1.1
                    have zR2 := R.2.2.2.2.2.1
                    have K79 := K32.trans (K79.sub WX_wF)
                    show PV _ _ _ _ _ _ _ 69 [.ref 0, .int x0, .int v2, .int y27, .int y7, .int y28] [.ref 169, .int y27] _
                    have k69 := kCv
                    have kSH : SHC m (pxy y7.toInt.toNat y28.toInt.toNat) (m76 170 1).toInt := by have z := SHC_fr (m := m) (m2 := m76) (fun a q h => K79 a q (wF_isW h)) (SCL_C k69.2); rw [kpx] at z; exact z
                    have kCC : CCL m76 := CCL_of k69
                    refine mv_get (M := mX11_bound) (v := .ref 170) dX11_bound_69 FX3 0 wd980 (by decide) (tc169 hC) rfl rfl 72 rfl ?_
                    refine iv_get (M := mX11_bound) (l1 := 0) (l2 := 48) dX11_bound_72 FX8 1 wd200 (by decide) (tc170 hC) rfl I78 rfl 75 rfl (fun v84 ev84 pv84 qv84 => ?_)
                    have k75 : v84.toInt = (m76 170 1).toInt := congrArg Int32.toInt ev84
                    refine iv_max (M := mX11_bound) (X := y27.toInt) (Y := v84.toInt) dX11_bound_75 wd883 Wmmax (Nat.le_of_ble_eq_true rfl) (by decide) rfl rfl 78 rfl (fun v86 ev86 fv86 gv86 => ?_)
                    refine pv_istore_n (M := mX11_bound) 3 (lo2 := [.ref 0, .int x0, .int v2, .int v86, .int y7, .int y28]) dX11_bound_78 79 rfl rfl (by decide) rfl rfl ?_
                    refine iv_inc (M := mX11_bound) (C := 1) dX11_bound_79 82 rfl rfl (by decide) rfl rfl (by decide) (by omega) (by omega) (fun v87 ev87 => ?_)
                    show PV _ _ _ _ _ _ _ 82 [.ref 0, .int x0, .int v2, .int v86, .int y7, .int v87] [] _
                    refine pv_goto (M := mX11_bound) (tgt := 30) dX11_bound_82 (by decide) ?_
                    exact pv_fg (lo2 := [.ref 0, .int x0, pv_U, .int v86, .int y7, .int v87]) ⟨Or.inr rfl, Or.inr rfl, Or.inl rfl, Or.inr rfl, Or.inr rfl, Or.inr rfl, trivial⟩ (s_X11_bound_vs30f g hT I78 K79 or80 R hC hc2 x0 kCC kG.1 kG.2 v86 y7 (by omega) (by omega) v87 (by omega) (by omega) (BMP_hit kg30 (by omega) (by omega) (by omega) (by omega) (by omega) kSH (by omega) (by omega)) (by omega))
          exact lp34 (((8 - v26.toInt) : Int).toNat + 1) y6 v26 m8 n9 (by first | omega | assumption | exact (iv_rng _).2 | exact (iv_rng _).1 | decide) (by first | omega | assumption | exact (iv_rng _).2 | exact (iv_rng _).1 | decide) (by first | omega | assumption | exact (iv_rng _).2 | exact (iv_rng _).1 | decide) (by first | omega | assumption | exact (iv_rng _).2 | exact (iv_rng _).1 | decide) (by first | omega | assumption | (show y7.toInt < v26.toInt; omega) | decide) (fun j a b => by omega) (BMP_in kg17 (by omega)) I10 K11 (by omega)
    have z89 : (0 : Int32).toInt = 0 := by decide
    have z90 : (0 : Int32).toInt = 0 := by decide
    exact lp13 (((8 - 0) : Int).toNat + 1) 0 0 m n (by first | omega | assumption | exact (iv_rng _).2 | exact (iv_rng _).1 | decide) (by first | omega | assumption | exact (iv_rng _).2 | exact (iv_rng _).1 | decide) (by first | omega | assumption | exact (iv_rng _).2 | exact (iv_rng _).1 | decide) (by first | omega | assumption | exact (iv_rng _).2 | exact (iv_rng _).1 | decide) (fun i j _ _ a => by rw [Int32.toInt_zero] at a; omega) (by rw [Int32.toInt_zero]; exact BMP_0) I Kp (by omega)
  · have c5 := iv_ne (X := v2.toInt) (Y := 0) c5 rfl (by decide)
    exact absurd (Iff.mpr kr hp0) (by omega)

set_option maxHeartbeats 2000000 in
set_option maxRecDepth 20000 in
theorem s_X12_shortest_ve (g : pv_G) {T : List mv_T} {m : Nat → Nat → Int32} {n : Nat → Nat → Int64} {r : Nat → Value} (hT : TX T) (I : IV BB m) (x0 : Int32) (x1 : Int32) : PM g mX12_shortest yX12_shortest (sqI T BB (wl [(123, 123, some 50), (157, 157, none), (158, 158, none), (159, 159, none), (163, 163, none)]) r m (-2147483648) 2147483647 (fun m' v => GSR (SPR m x0 2 4) (¬ TOO m x0) (nmr m x0) (smr m x0) x1.toInt v.toInt)) 5 0 0 [.ref 123, .int x0, .int x1] (mk T m n r) := by
  have Kp : fr (wl [(123, 123, some 50), (157, 157, none), (158, 158, none), (159, 159, none), (163, 163, none)]) m m := fr.rf
  refine PM.of 4 (lo := [.ref 123, .int x0, .int x1, pv_U, pv_U, pv_U, pv_U]) rfl (by decide) rfl rfl (Nat.le_of_ble_eq_true rfl) ?_
  refine pv_aload_n (M := mX12_shortest) 0 dX12_shortest_0 1 rfl rfl rfl ?_
  refine pv_iload_n (M := mX12_shortest) 1 dX12_shortest_1 2 rfl rfl rfl ?_
  refine pv_iconst (M := mX12_shortest) (v := 2) dX12_shortest_2 3 rfl (by decide) ?_
  refine pv_iconst (M := mX12_shortest) (v := 4) dX12_shortest_3 4 rfl (by decide) ?_
  have z1 : (2 : Int32).toInt = 2 := by decide
  have z2 : (4 : Int32).toInt = 4 := by decide
  refine pv_callv (M := mX12_shortest) (as := [.int x0, .int 2, .int 4]) (st := []) (kc2 := 0) (ks2 := 0) dX12_shortest_4 wd1622 YX12_spreads ⟨wd1624, wd96⟩ (mk_get (tl123 hT)) rfl rfl (s_X12_spreads_ve g hT I x0 2 (by decide) (by decide) 4 (by decide) (by decide)) rfl rfl (Nat.le_of_ble_eq_true rfl) (by decide) rfl rfl 7 rfl (fun rv h1 q3 => ?_)
  obtain ⟨m4, n5, v8, rfl, rfl, I6, K7, pv8, qv8, rv8⟩ := q3
  replace rv8 : (v8.toInt = 0 ∧ ¬ SPR m x0 (2 : Int) (4 : Int) ∧ m4 = m) ∨ (v8.toInt = 1 ∧ SPR m x0 (2 : Int) (4 : Int) ∧ CHLi m4 x0 8 ∧ CHI m4 x0 8 ∧ CHA m4 x0 8) := by have q_ := rv8; (try rw [z1] at q_); (try rw [z2] at q_); exact q_
  have K7c := K7
  have K7 := Kp.trans (K7.sub (wl_sub (by decide)))
  show PV _ _ _ _ _ _ _ 7 [.ref 123, .int x0, .int x1, pv_U, pv_U, pv_U, pv_U] [.int v8] _
  have k7 := rv8
  refine pv_if_eq (M := mX12_shortest) (tgt := 15) dX12_shortest_7 10 rfl (by decide) (fun c10 => ?_) (fun c10 => ?_)
  · have c10 := iv_eq (X := v8.toInt) (Y := 0) c10 rfl (by decide)
    refine pv_iconst (M := mX12_shortest) (v := (-1)) dX12_shortest_15 16 rfl (by decide) ?_
    have z11 : ((-1) : Int32).toInt = (-1) := by decide
    exact pv_iret (M := mX12_shortest) dX12_shortest_16 rfl rfl ⟨_, _, _, rfl, rfl, I6, K7, by decide, by decide, (by first | exact Or.inl ⟨Or.inr (k7.resolve_right (fun q => by omega)).2.1, by decide⟩ | exact Or.inl ⟨Or.inl (by omega), by decide⟩)⟩
  · have c10 := iv_ne (X := v8.toInt) (Y := 0) c10 rfl (by decide)
    refine pv_iload_n (M := mX12_shortest) 2 dX12_shortest_10 11 rfl rfl rfl ?_
    refine pv_iconst (M := mX12_shortest) (v := (-1)) dX12_shortest_11 12 rfl (by decide) ?_
    refine pv_icmp_ge (M := mX12_shortest) (tgt := 17) dX12_shortest_12 15 rfl (by decide) (fun c12 => ?_) (fun c12 => ?_)
    · have c12 := iv_le (X := (-1)) (Y := x1.toInt) c12 (by decide) rfl
      have k12 := k7.resolve_left (fun q => by omega)
      have kSP := k12.2.1
      have kCL := k12.2.2.1
      refine pv_aload_n (M := mX12_shortest) 0 dX12_shortest_17 18 rfl rfl rfl ?_
      refine pv_callv (M := mX12_shortest) (as := []) (st := []) (kc2 := 0) (ks2 := 0) dX12_shortest_18 wd1660 YX12_isTooLong ⟨wd1662, wd103⟩ (mk_get (tl123 hT)) rfl rfl (s_X12_isTooLong_ve g hT I6) rfl rfl (Nat.le_of_ble_eq_true rfl) (by decide) rfl rfl 21 rfl (fun rv h1 q16 => ?_)
      obtain ⟨v17, rfl, rfl, pv17, qv17, rv17⟩ := q16
      replace rv17 : (v17.toInt = 1 ∧ ∃ q : Nat, (q : Int) < (m4 123 50).toInt ∧ 12 < LOq m4 q) ∨ (v17.toInt = 0 ∧ LO12 m4) := rv17
      show PV _ _ _ _ _ _ _ 21 [.ref 123, .int x0, .int x1, pv_U, pv_U, pv_U, pv_U] [.int v17] _
      have k16 := rv17
      refine pv_if_eq (M := mX12_shortest) (tgt := 27) dX12_shortest_21 24 rfl (by decide) (fun c19 => ?_) (fun c19 => ?_)
      · have c19 := iv_eq (X := v17.toInt) (Y := 0) c19 rfl (by decide)
        have kl := (k16.resolve_left (fun q => by omega)).2
        have kD0 := D12_of k12.2.2.2.2 kl
        have kD : D12 m x0 := fun k a b c => by rw [← K7 126 k.toNat rfl]; exact kD0 k a b c
        have kTO : ¬ TOO m x0 := fun ⟨k, hk, h12⟩ => by have z := mbs_lt hk; have y := mbs_am hk; rw [amv_bt] at y; have b := bt_b x0 k; have q := kD k (by omega) (by omega) (by omega); rw [show ((k : Nat) : Int).toNat = k by omega] at q; omega
        clear k7 k12 k16
        refine pv_aload_n (M := mX12_shortest) 0 dX12_shortest_27 28 rfl rfl rfl ?_
        refine pv_callv (M := mX12_shortest) (as := []) (st := []) (kc2 := 0) (ks2 := 0) dX12_shortest_28 wd1664 YX12_laysShort ⟨wd1666, wd104⟩ (mk_get (tl123 hT)) rfl rfl (s_X12_laysShort_ve g hT I6 kl) rfl rfl (Nat.le_of_ble_eq_true rfl) (by decide) rfl rfl 31 rfl (fun rv h1 q25 => ?_)
        obtain ⟨m26, n27, rfl, rfl, I28, K29, rm26⟩ := q25
        replace rm26 : SHp m26 (-1) 16 16 16 ∧ SHm m26 (-1) 16 16 16 := rm26
        have K29c := K29
        have K29 := K7.trans (K29.sub (wl_sub (by decide)))
        show PV _ _ _ _ _ _ _ 31 [.ref 123, .int x0, .int x1, pv_U, pv_U, pv_U, pv_U] [] _
        have kCL2 : CHLi m26 x0 8 := ⟨by rw [K29c 123 50 rfl]; exact kCL.1, fun q k z => by rw [K29c 157 q rfl]; exact kCL.2 q k z⟩
        have kOB : OBY (nmr m26 x0) (smr m26 x0) (SE m26) := OBY_SE I28 kCL2 rm26.1 rm26.2
        have k6a : ∀ j, m26 126 j = m 126 j := fun j => K29 126 j rfl
        have k7a : ∀ j, m26 127 j = m 127 j := fun j => K29 127 j rfl
        have kF := rm26.1
        have kS : HSAME _ m26 := ⟨K29c 123 50 rfl, fun j => K29c 157 j rfl, fun j => K29c 126 j rfl, fun j => K29c 127 j rfl⟩
        have kl1 : LO12 m26 := LO12_eq kS kl
        refine pv_aload_n (M := mX12_shortest) 0 dX12_shortest_31 32 rfl rfl rfl ?_
        refine mv_get (M := mX12_shortest) (v := .ref 163) dX12_shortest_32 FX12 57 wd1230 (by decide) (tl123 hT) rfl rfl 35 rfl ?_
        refine pv_iconst (M := mX12_shortest) (v := 0) dX12_shortest_35 36 rfl (by decide) ?_
        refine iv_iald (M := mX12_shortest) (X := 0) (l1 := 0) (l2 := 1000000000) dX12_shortest_36 (tl163 hT) (by decide) (by omega) (by omega) I28 (fun _ => rfl) 37 rfl (fun v37 ev37 pv37 qv37 => ?_)
        have k37 : (m26 163 0).toInt = v37.toInt := (congrArg Int32.toInt ev37).symm
        refine pv_istore_n (M := mX12_shortest) 3 (lo2 := [.ref 123, .int x0, .int x1, .int v37, pv_U, pv_U, pv_U]) dX12_shortest_37 38 rfl rfl (by decide) rfl rfl ?_
        refine pv_iload_n (M := mX12_shortest) 2 dX12_shortest_38 39 rfl rfl rfl ?_
        refine pv_iconst (M := mX12_shortest) (v := (-1)) dX12_shortest_39 40 rfl (by decide) ?_
        refine pv_icmp_ne (M := mX12_shortest) (tgt := 45) dX12_shortest_40 43 rfl (by decide) (fun c39 => ?_) (fun c39 => ?_)
        · have c39 := iv_ne (X := x1.toInt) (Y := (-1)) c39 rfl (by decide)
          refine pv_iload_n (M := mX12_shortest) 2 dX12_shortest_45 46 rfl rfl rfl ?_
          refine pv_iload_n (M := mX12_shortest) 3 dX12_shortest_46 47 rfl rfl rfl ?_
          refine pv_icmp_lt (M := mX12_shortest) (tgt := 52) dX12_shortest_47 50 rfl (by decide) (fun c40 => ?_) (fun c40 => ?_)
          · have c40 := iv_lt (X := x1.toInt) (Y := v37.toInt) c40 rfl rfl
            refine pv_iconst (M := mX12_shortest) (v := 0) dX12_shortest_52 53 rfl (by decide) ?_
            refine pv_istore (M := mX12_shortest) (lo2 := [.ref 123, .int x0, .int x1, .int v37, .int 0, pv_U, pv_U]) dX12_shortest_53 55 rfl (by decide) rfl rfl ?_
            have lp47 : ∀ (fuel46 : Nat) (y41 : Int32) (m42 : Nat → Nat → Int32) (n43 : Nat → Nat → Int64), (0 ≤ y41.toInt) → (y41.toInt ≤ 4) → (SHp m42 (-1) 16 16 16) → (LO12 m42) → (∀ q : Nat, (q : Int) < y41.toInt → (m42 158 q).toInt = 0) → ((m42 163 0).toInt = v37.toInt) → (OBC m42 x0) → IV BB m42 → fr (wl [(123, 123, some 50), (157, 157, none), (158, 158, none), (159, 159, none), (163, 163, none)]) m m42 → ((4 - y41.toInt) : Int).toNat < fuel46 → PV none g mX12_shortest (sqI T BB (wl [(123, 123, some 50), (157, 157, none), (158, 158, none), (159, 159, none), (163, 163, none)]) r m (-2147483648) 2147483647 (fun m' v => GSR (SPR m x0 2 4) (¬ TOO m x0) (nmr m x0) (smr m x0) x1.toInt v.toInt)) 5 0 0 55 [.ref 123, .int x0, .int x1, .int v37, .int y41, pv_U, pv_U] [] (mk T m42 n43 r) := by
              intro fuel46
              induction fuel46 with
              | zero => intro y41 m42 n43 b49 b50 b51 b52 b53 b54 b55 I44 K45 z56; omega
              | succ fuel46 ih48 =>
                intro y41 m42 n43 b49 b50 b51 b52 b53 b54 b55 I44 K45 z56
                have kgF := (show SHp m42 (-1) 16 16 16 by assumption)
                have kgL := (show LO12 m42 by assumption)
                have kgZ := (show ∀ q : Nat, (q : Int) < y41.toInt → (m42 158 q).toInt = 0 by assumption)
                have kg163 := (show (m42 163 0).toInt = v37.toInt by assumption)
                have kgO := (show OBC m42 x0 by assumption)
                refine pv_iload (M := mX12_shortest) dX12_shortest_55 57 rfl rfl ?_
                refine pv_iconst (M := mX12_shortest) (v := 4) dX12_shortest_57 58 rfl (by decide) ?_
                refine pv_icmp_ge (M := mX12_shortest) (tgt := 75) dX12_shortest_58 61 rfl (by decide) (fun c62 => ?_) (fun c62 => ?_)
                · have c62 := iv_le (X := 4) (Y := y41.toInt) c62 (by decide) rfl
                  have kZ4 : ∀ q : Nat, q < 4 → (m42 158 q).toInt = 0 := fun q hq => kgZ q (by omega)
                  refine pv_iconst (M := mX12_shortest) (v := 0) dX12_shortest_75 76 rfl (by decide) ?_
                  refine pv_istore (M := mX12_shortest) (lo2 := [.ref 123, .int x0, .int x1, .int v37, .int 0, pv_U, pv_U]) dX12_shortest_76 78 rfl (by decide) rfl rfl ?_
                  have lp70 : ∀ (fuel69 : Nat) (y64 : Int32) (m65 : Nat → Nat → Int32) (n66 : Nat → Nat → Int64), (0 ≤ y64.toInt) → (y64.toInt ≤ 1000000000) → (y64.toInt ≤ x1.toInt) → (SL m65 (pa m65) (v37.toInt - y64.toInt)) → (PTG m65 x0 v37.toInt y64.toInt (pa m65)) → IV BB m65 → fr (wl [(123, 123, some 50), (157, 157, none), (158, 158, none), (159, 159, none), (163, 163, none)]) m m65 → ((x1.toInt - y64.toInt) : Int).toNat < fuel69 → PV none g mX12_shortest (sqI T BB (wl [(123, 123, some 50), (157, 157, none), (158, 158, none), (159, 159, none), (163, 163, none)]) r m (-2147483648) 2147483647 (fun m' v => GSR (SPR m x0 2 4) (¬ TOO m x0) (nmr m x0) (smr m x0) x1.toInt v.toInt)) 5 0 0 78 [.ref 123, .int x0, .int x1, .int v37, .int y64, pv_U, pv_U] [] (mk T m65 n66 r) := by
                    intro fuel69
                    induction fuel69 with
                    | zero => intro y64 m65 n66 b72 b73 b74 b75 b76 I67 K68 z77; omega
                    | succ fuel69 ih71 =>
                      intro y64 m65 n66 b72 b73 b74 b75 b76 I67 K68 z77
                      have kgS := (show SL m65 (pa m65) (v37.toInt - y64.toInt) by assumption)
                      have kgP := (show PTG m65 x0 v37.toInt y64.toInt (pa m65) by assumption)
                      refine pv_iconst (M := mX12_shortest) (v := 0) dX12_shortest_78 79 rfl (by decide) ?_
                      refine pv_istore (M := mX12_shortest) (lo2 := [.ref 123, .int x0, .int x1, .int v37, .int y64, .int 0, pv_U]) dX12_shortest_79 81 rfl (by decide) rfl rfl ?_
                      have lp86 : ∀ (fuel85 : Nat) (y80 : Int32) (m81 : Nat → Nat → Int32) (n82 : Nat → Nat → Int64), (0 ≤ y80.toInt) → (y80.toInt ≤ 25) → (SL m81 (pa m81) (v37.toInt - y64.toInt)) → (SW1 m81 (pa m81) y80.toInt (v37.toInt - y64.toInt)) → (PTG m81 x0 v37.toInt y64.toInt (pa m81)) → (NLL m81 (v37.toInt - y64.toInt - 1) y80.toInt) → IV BB m81 → fr (wl [(123, 123, some 50), (157, 157, none), (158, 158, none), (159, 159, none), (163, 163, none)]) m m81 → ((25 - y80.toInt) : Int).toNat < fuel85 → PV none g mX12_shortest (sqI T BB (wl [(123, 123, some 50), (157, 157, none), (158, 158, none), (159, 159, none), (163, 163, none)]) r m (-2147483648) 2147483647 (fun m' v => GSR (SPR m x0 2 4) (¬ TOO m x0) (nmr m x0) (smr m x0) x1.toInt v.toInt)) 5 0 0 81 [.ref 123, .int x0, .int x1, .int v37, .int y64, .int y80, pv_U] [] (mk T m81 n82 r) := by
                        intro fuel85
                        induction fuel85 with
                        | zero => intro y80 m81 n82 b88 b89 b90 b91 b92 b93 I83 K84 z94; omega
                        | succ fuel85 ih87 =>
                          intro y80 m81 n82 b88 b89 b90 b91 b92 b93 I83 K84 z94
                          have kgS2 := (show SL m81 (pa m81) (v37.toInt - y64.toInt) by assumption)
                          have kgW := (show SW1 m81 (pa m81) y80.toInt (v37.toInt - y64.toInt) by assumption)
                          have kgP2 := (show PTG m81 x0 v37.toInt y64.toInt (pa m81) by assumption)
                          have kgN := (show NLL m81 (v37.toInt - y64.toInt - 1) y80.toInt by assumption)
                          have kI81 := I83
                          have k81a : ∀ j, m81 126 j = m 126 j := fun j => K84 126 j rfl
                          have k81b : ∀ j, m81 127 j = m 127 j := fun j => K84 127 j rfl
                          refine pv_aload_n (M := mX12_shortest) 0 dX12_shortest_81 82 rfl rfl rfl ?_
                          refine pv_iload (M := mX12_shortest) dX12_shortest_82 84 rfl rfl ?_
                          refine pv_callv (M := mX12_shortest) (as := [.int y80]) (st := []) (kc2 := 0) (ks2 := 0) dX12_shortest_84 wd1672 YX12_takesLetter ⟨wd1674, wd106⟩ (mk_get (tl123 hT)) rfl rfl (s_X12_takesLetter g hT I83 y80 (by omega) (by omega)) rfl rfl (Nat.le_of_ble_eq_true rfl) (by decide) rfl rfl 87 rfl (fun rv h1 q102 => ?_)
                          obtain ⟨m103, n104, v107, rfl, rfl, I105, K106, pv107, qv107, rv107⟩ := q102
                          replace rv107 : NX m81 (pa m81) y80.toInt 4 m103 ∧ (v107.toInt = 0 → tkF m81 (pa m81) y80.toInt 4 = 0) ∧ (v107.toInt ≠ 0 → 0 < tkF m81 (pa m81) y80.toInt 4) := rv107
                          have K106c := K106
                          have K106 := K84.trans (K106.sub (wl_sub (by decide)))
                          show PV _ _ _ _ _ _ _ 87 [.ref 123, .int x0, .int x1, .int v37, .int y64, .int y80, pv_U] [.int v107] _
                          have k87 := rv107
                          have kS : HSAME m81 m103 := ⟨K106c 123 50 rfl, fun j => K106c 157 j rfl, fun j => K106c 126 j rfl, fun j => K106c 127 j rfl⟩
                          have k163 : ∀ j, m103 163 j = m81 163 j := fun j => K106c 163 j rfl
                          have kpa : pa m103 = pa m81 := funext fun q => congrArg Int32.toInt (K106c 158 q rfl)
                          have kA1 := k87.1
                          have kA2 := k87.2.1
                          have kA3 := k87.2.2
                          have kb81 : SL m103 (pa m103) (v37.toInt - y64.toInt) := by rw [kpa]; exact SL_eq kS k163 kgS2
                          have kpb81 : PTG m103 x0 v37.toInt y64.toInt (pa m103) := PTG_eq kgP2 kS k163 (fun q _ => by rw [kpa])
                          refine pv_if_eq (M := mX12_shortest) (tgt := 108) dX12_shortest_87 90 rfl (by decide) (fun c117 => ?_) (fun c117 => ?_)
                          · have c117 := iv_eq (X := v107.toInt) (Y := 0) c117 rfl (by decide)
                            refine pv_iload (M := mX12_shortest) dX12_shortest_108 110 rfl rfl ?_
                            refine pv_iconst (M := mX12_shortest) (v := 1) dX12_shortest_110 111 rfl (by decide) ?_
                            refine iv_iadd (M := mX12_shortest) (X := y80.toInt) (Y := 1) dX12_shortest_111 112 rfl rfl (by decide) (by omega) (by omega) (fun v118 ev118 => ?_)
                            refine pv_istore (M := mX12_shortest) (lo2 := [.ref 123, .int x0, .int x1, .int v37, .int y64, .int v118, pv_U]) dX12_shortest_112 114 rfl (by decide) rfl rfl ?_
                            refine pv_goto (M := mX12_shortest) (tgt := 81) dX12_shortest_114 (by decide) ?_
                            have knb : NLL m103 (v37.toInt - y64.toInt - 1) v118.toInt := by rw [show v118.toInt = y80.toInt + 1 by omega]; exact NLL_eq kS k163 kpa (NLL_step kgN (by first | exact Or.inl (by omega) | exact Or.inr (by omega)))
                            have kwb : SW1 m103 (pa m103) v118.toInt (v37.toInt - y64.toInt) := by rw [kpa, show v118.toInt = y80.toInt + 1 by omega]; exact SW1_eq kS k163 (SW1.step kgW (by first | exact Or.inl (by omega) | exact Or.inr (by omega)))
                            have kx : v118.toInt ≤ 25 := kwb.le
                            exact ih87 v118 m103 n104 (by first | omega | assumption | exact (iv_rng _).2 | exact (iv_rng _).1 | decide) (by first | omega | assumption | exact (iv_rng _).2 | exact (iv_rng _).1 | decide) kb81 kwb kpb81 knb I105 K106 (by omega)
                          · have c117 := iv_ne (X := v107.toInt) (Y := 0) c117 rfl (by decide)
                            have k12n := NX_12 kA1 kgS2.2.2.1 kgS2.1 (by omega)
                            refine pv_aload_n (M := mX12_shortest) 0 dX12_shortest_90 91 rfl rfl rfl ?_
                            refine mv_get (M := mX12_shortest) (v := .ref 163) dX12_shortest_91 FX12 57 wd1230 (by decide) (tl123 hT) rfl rfl 94 rfl ?_
                            refine pv_aload_n (M := mX12_shortest) 0 dX12_shortest_94 95 rfl rfl rfl ?_
                            refine pv_callv (M := mX12_shortest) (as := []) (st := [.ref 163]) (kc2 := 0) (ks2 := 0) dX12_shortest_95 wd1676 YX12_nextShort ⟨wd1678, wd107⟩ (mk_get (tl123 hT)) rfl rfl (s_X12_nextShort g hT I105 k12n) rfl rfl (Nat.le_of_ble_eq_true rfl) (by decide) rfl rfl 98 rfl (fun rv h1 q123 => ?_)
                            obtain ⟨v124, rfl, rfl, pv124, qv124, rv124⟩ := q123
                            replace rv124 : v124.toInt.toNat = sx (pn m103) := rv124
                            show PV _ _ _ _ _ _ _ 98 [.ref 123, .int x0, .int x1, .int v37, .int y64, .int y80, pv_U] [.int v124, .ref 163] _
                            have k98 : v124.toInt.toNat = sx (stp m81 (pa m81) y80.toInt) := (rv124).trans (NX_sx kA1)
                            refine iv_iald (M := mX12_shortest) (X := v124.toInt) (l1 := 0) (l2 := 1000000000) dX12_shortest_98 (tl163 hT) rfl (by omega) (by omega) I105 (fun _ => rfl) 99 rfl (fun v126 ev126 pv126 qv126 => ?_)
                            have k99 : v126.toInt = SE m81 (stp m81 (pa m81) y80.toInt) := congrArg Int32.toInt (ev126.trans ((congrArg (m103 163) k98).trans (k163 _)))
                            refine pv_iload_n (M := mX12_shortest) 3 dX12_shortest_99 100 rfl rfl rfl ?_
                            refine pv_iload (M := mX12_shortest) dX12_shortest_100 102 rfl rfl ?_
                            refine iv_isub (M := mX12_shortest) (X := v37.toInt) (Y := y64.toInt) dX12_shortest_102 103 rfl rfl rfl (by omega) (by omega) (fun v128 ev128 => ?_)
                            refine pv_iconst (M := mX12_shortest) (v := 1) dX12_shortest_103 104 rfl (by decide) ?_
                            refine iv_isub (M := mX12_shortest) (X := v128.toInt) (Y := 1) dX12_shortest_104 105 rfl rfl (by decide) (by omega) (by omega) (fun v129 ev129 => ?_)
                            refine pv_icmp_eq (M := mX12_shortest) (tgt := 117) dX12_shortest_105 108 rfl (by decide) (fun c130 => ?_) (fun c130 => ?_)
                            · have c130 := iv_eq (X := v126.toInt) (Y := v129.toInt) c130 rfl rfl
                              have kN : SL m103 (pn m103) (v37.toInt - y64.toInt - 1) := SL_next kgS2 (by omega) kA1 kS k163 (by omega)
                              have kHit := PTG_hit kI81 kgP2 kgS2.2.2.2 kgN (by omega) (kA3 (by omega)) (by omega)
                              have kP9 : PTG m103 x0 v37.toInt (y64.toInt + 1) (pn m103) := PTG_next kgP2 kHit (by omega) kS k163 (fun q hq => kA1 q (by omega)) rfl
                              have k1630 : (m81 163 0).toInt = v37.toInt := kgP2.2.1
                              refine pv_iload (M := mX12_shortest) dX12_shortest_117 119 rfl rfl ?_
                              refine pv_iload_n (M := mX12_shortest) 2 dX12_shortest_119 120 rfl rfl rfl ?_
                              refine pv_icmp_ne (M := mX12_shortest) (tgt := 126) dX12_shortest_120 123 rfl (by decide) (fun c135 => ?_) (fun c135 => ?_)
                              · have c135 := iv_ne (X := y64.toInt) (Y := x1.toInt) c135 rfl rfl
                                refine pv_iconst (M := mX12_shortest) (v := 0) dX12_shortest_126 127 rfl (by decide) ?_
                                refine pv_istore (M := mX12_shortest) (lo2 := [.ref 123, .int x0, .int x1, .int v37, .int y64, .int y80, .int 0]) dX12_shortest_127 129 rfl (by decide) rfl rfl ?_
                                have lp142 : ∀ (fuel141 : Nat) (y136 : Int32) (m137 : Nat → Nat → Int32) (n138 : Nat → Nat → Int64), (0 ≤ y136.toInt) → (y136.toInt ≤ 4) → (SL m137 (pn m137) (v37.toInt - y64.toInt - 1)) → (∀ q : Nat, (q : Int) < y136.toInt → (m137 158 q).toInt = (m137 159 q).toInt) → (PTG m137 x0 v37.toInt (y64.toInt + 1) (pn m137)) → IV BB m137 → fr (wl [(123, 123, some 50), (157, 157, none), (158, 158, none), (159, 159, none), (163, 163, none)]) m m137 → ((4 - y136.toInt) : Int).toNat < fuel141 → PV none g mX12_shortest (sqI T BB (wl [(123, 123, some 50), (157, 157, none), (158, 158, none), (159, 159, none), (163, 163, none)]) r m (-2147483648) 2147483647 (fun m' v => GSR (SPR m x0 2 4) (¬ TOO m x0) (nmr m x0) (smr m x0) x1.toInt v.toInt)) 5 0 0 129 [.ref 123, .int x0, .int x1, .int v37, .int y64, .int y80, .int y136] [] (mk T m137 n138 r) := by
                                  intro fuel141
                                  induction fuel141 with
                                  | zero => intro y136 m137 n138 b144 b145 b146 b147 b148 I139 K140 z149; omega
                                  | succ fuel141 ih143 =>
                                    intro y136 m137 n138 b144 b145 b146 b147 b148 I139 K140 z149
                                    have kg129 := (show SL m137 (pn m137) (v37.toInt - y64.toInt - 1) by assumption)
                                    have kgc := (show ∀ q : Nat, (q : Int) < y136.toInt → (m137 158 q).toInt = (m137 159 q).toInt by assumption)
                                    have kgP3 := (show PTG m137 x0 v37.toInt (y64.toInt + 1) (pn m137) by assumption)
                                    refine pv_iload (M := mX12_shortest) dX12_shortest_129 131 rfl rfl ?_
                                    refine pv_iconst (M := mX12_shortest) (v := 4) dX12_shortest_131 132 rfl (by decide) ?_
                                    refine pv_icmp_ge (M := mX12_shortest) (tgt := 155) dX12_shortest_132 135 rfl (by decide) (fun c153 => ?_) (fun c153 => ?_)
                                    · have c153 := iv_le (X := 4) (Y := y136.toInt) c153 (by decide) rfl
                                      refine iv_inc (M := mX12_shortest) (C := 1) dX12_shortest_155 158 rfl rfl (by decide) rfl rfl (by decide) (by omega) (by omega) (fun v154 ev154 => ?_)
                                      show PV _ _ _ _ _ _ _ 158 [.ref 123, .int x0, .int x1, .int v37, .int v154, .int y80, .int y136] [] _
                                      refine pv_goto (M := mX12_shortest) (tgt := 78) dX12_shortest_158 (by decide) ?_
                                      refine pv_fg (lo2 := [.ref 123, .int x0, .int x1, .int v37, .int v154, pv_U, pv_U]) ⟨Or.inr rfl, ⟨Or.inr rfl, ⟨Or.inr rfl, ⟨Or.inr rfl, ⟨Or.inr rfl, ⟨Or.inl rfl, ⟨Or.inl rfl, trivial⟩⟩⟩⟩⟩⟩⟩ ?_
                                      have kb78 : SL m137 (pa m137) (v37.toInt - v154.toInt) := by rw [show v37.toInt - v154.toInt = v37.toInt - y64.toInt - 1 by omega]; exact SL_p kg129 (fun q hq => kgc q (by omega))
                                      have kpb78 : PTG m137 x0 v37.toInt v154.toInt (pa m137) := by rw [show v154.toInt = y64.toInt + 1 by omega]; exact PTG_a kgP3 (fun q hq => kgc q (by omega))
                                      exact ih71 v154 m137 n138 (by first | omega | assumption | exact (iv_rng _).2 | exact (iv_rng _).1 | decide) (by first | omega | assumption | exact (iv_rng _).2 | exact (iv_rng _).1 | decide) (by first | omega | assumption | (show v154.toInt ≤ x1.toInt; omega) | decide) kb78 kpb78 I139 K140 (by omega)
                                    · have c153 := iv_nle (X := 4) (Y := y136.toInt) c153 (by decide) rfl
                                      refine pv_aload_n (M := mX12_shortest) 0 dX12_shortest_135 136 rfl rfl rfl ?_
                                      refine mv_get (M := mX12_shortest) (v := .ref 158) dX12_shortest_136 FX12 52 wd1225 (by decide) (tl123 hT) rfl rfl 139 rfl ?_
                                      refine pv_iload (M := mX12_shortest) dX12_shortest_139 141 rfl rfl ?_
                                      refine pv_aload_n (M := mX12_shortest) 0 dX12_shortest_141 142 rfl rfl rfl ?_
                                      refine mv_get (M := mX12_shortest) (v := .ref 159) dX12_shortest_142 FX12 53 wd1226 (by decide) (tl123 hT) rfl rfl 145 rfl ?_
                                      refine pv_iload (M := mX12_shortest) dX12_shortest_145 147 rfl rfl ?_
                                      refine iv_iald (M := mX12_shortest) (X := y136.toInt) (l1 := 0) (l2 := 17) dX12_shortest_147 (tl159 hT) rfl (by omega) (by omega) I139 (fun _ => rfl) 148 rfl (fun v157 ev157 pv157 qv157 => ?_)
                                      have k148 : v157.toInt = pn m137 y136.toInt.toNat := congrArg Int32.toInt ev157
                                      have k148b := OK12 kg129.2.2.1 kg129.1 y136.toInt.toNat (by omega)
                                      refine iv_iast (M := mX12_shortest) (X := y136.toInt) (l1 := 0) (l2 := 16) dX12_shortest_148 (tl158 hT) rfl (by omega) (by omega) I139 (fun _ => rfl) (by omega) (by omega) 149 rfl (fun m160 e163 I161 => ?_)
                                      have K162 := K140.set e163 rfl
                                      have k149 := (e163).trans (up2_ix (j := y136.toInt.toNat) (by omega))
                                      have kpn : pn m160 = pn m137 := funext fun q => by unfold pn; rw [e163, up2_ne (by omega)]
                                      have kb129 : SL m160 (pn m160) (v37.toInt - y64.toInt - 1) := by rw [kpn]; exact SL_st kg129 e163 (by omega) (by omega)
                                      have kcs := P_set kgc k149 k148 (by omega)
                                      have kpb129 : PTG m160 x0 v37.toInt (y64.toInt + 1) (pn m160) := PTG_eq kgP3 (HSAME.set e163 (by omega)) (fun j => by rw [e163, up2_ne (by omega)]) (fun q _ => by rw [kpn])
                                      refine iv_inc (M := mX12_shortest) (C := 1) dX12_shortest_149 152 rfl rfl (by decide) rfl rfl (by decide) (by omega) (by omega) (fun v169 ev169 => ?_)
                                      show PV _ _ _ _ _ _ _ 152 [.ref 123, .int x0, .int x1, .int v37, .int y64, .int y80, .int v169] [] _
                                      refine pv_goto (M := mX12_shortest) (tgt := 129) dX12_shortest_152 (by decide) ?_
                                      have kc129 : ∀ q : Nat, (q : Int) < v169.toInt → (m160 158 q).toInt = (m160 159 q).toInt := by rw [show v169.toInt = y136.toInt + 1 by omega]; exact kcs
                                      exact ih143 v169 m160 n138 (by first | omega | assumption | exact (iv_rng _).2 | exact (iv_rng _).1 | decide) (by first | omega | assumption | exact (iv_rng _).2 | exact (iv_rng _).1 | decide) kb129 kc129 kpb129 I161 K162 (by omega)
                                have z171 : (0 : Int32).toInt = 0 := by decide
                                exact lp142 (((4 - 0) : Int).toNat + 1) 0 m103 n104 (by first | omega | assumption | exact (iv_rng _).2 | exact (iv_rng _).1 | decide) (by first | omega | assumption | exact (iv_rng _).2 | exact (iv_rng _).1 | decide) kN (fun q a => by rw [Int32.toInt_zero] at a; omega) kP9 I105 K106 (by omega)
                              · have c135 := iv_eq (X := y64.toInt) (Y := x1.toInt) c135 rfl rfl
                                refine pv_iload (M := mX12_shortest) dX12_shortest_123 125 rfl rfl ?_
                                exact pv_iret (M := mX12_shortest) dX12_shortest_125 rfl rfl ⟨_, _, _, rfl, rfl, I105, K106, (iv_rng y80).1, (iv_rng y80).2, (kHit.elim (fun f q => GSR_s kSP kTO (by omega) k81a k81b kgP2.1.1 (Or.inr (Or.inr ⟨by omega, by omega, f, _, (by rw [show x1.toInt.toNat = y64.toInt.toNat by omega]; exact q.1), (by rw [show x1.toInt.toNat = y64.toInt.toNat by omega]; exact q.2.symm)⟩))))⟩
                            · have c130 := iv_ne (X := v126.toInt) (Y := v129.toInt) c130 rfl rfl
                              refine pv_iload (M := mX12_shortest) dX12_shortest_108 110 rfl rfl ?_
                              refine pv_iconst (M := mX12_shortest) (v := 1) dX12_shortest_110 111 rfl (by decide) ?_
                              refine iv_iadd (M := mX12_shortest) (X := y80.toInt) (Y := 1) dX12_shortest_111 112 rfl rfl (by decide) (by omega) (by omega) (fun v172 ev172 => ?_)
                              refine pv_istore (M := mX12_shortest) (lo2 := [.ref 123, .int x0, .int x1, .int v37, .int y64, .int v172, pv_U]) dX12_shortest_112 114 rfl (by decide) rfl rfl ?_
                              refine pv_goto (M := mX12_shortest) (tgt := 81) dX12_shortest_114 (by decide) ?_
                              have knb : NLL m103 (v37.toInt - y64.toInt - 1) v172.toInt := by rw [show v172.toInt = y80.toInt + 1 by omega]; exact NLL_eq kS k163 kpa (NLL_step kgN (by first | exact Or.inl (by omega) | exact Or.inr (by omega)))
                              have kwb : SW1 m103 (pa m103) v172.toInt (v37.toInt - y64.toInt) := by rw [kpa, show v172.toInt = y80.toInt + 1 by omega]; exact SW1_eq kS k163 (SW1.step kgW (by first | exact Or.inl (by omega) | exact Or.inr (by omega)))
                              have kx : v172.toInt ≤ 25 := kwb.le
                              exact ih87 v172 m103 n104 (by first | omega | assumption | exact (iv_rng _).2 | exact (iv_rng _).1 | decide) (by first | omega | assumption | exact (iv_rng _).2 | exact (iv_rng _).1 | decide) kb81 kwb kpb81 knb I105 K106 (by omega)
                      have z176 : (0 : Int32).toInt = 0 := by decide
                      have kw0 : SW1 m65 (pa m65) (0 : Int32).toInt (v37.toInt - y64.toInt) := by rw [Int32.toInt_zero]; exact SW1.start kgS (by omega)
                      exact lp86 (((25 - 0) : Int).toNat + 1) 0 m65 n66 (by first | omega | assumption | exact (iv_rng _).2 | exact (iv_rng _).1 | decide) (by first | omega | assumption | exact (iv_rng _).2 | exact (iv_rng _).1 | decide) kgS kw0 kgP (by rw [Int32.toInt_zero]; exact NLL_0) I67 K68 (by omega)
                  have z178 : (0 : Int32).toInt = 0 := by decide
                  have kin78 : SL m42 (pa m42) (v37.toInt - (0 : Int32).toInt) := by rw [Int32.toInt_zero]; exact SL_start kgL kgF kZ4 (by omega)
                  have kp78 : PTG m42 x0 v37.toInt (0 : Int32).toInt (pa m42) := by rw [Int32.toInt_zero]; exact PTG_0 kgO kZ4 kg163
                  exact lp70 (((x1.toInt - 0) : Int).toNat + 1) 0 m42 n43 (by first | omega | assumption | exact (iv_rng _).2 | exact (iv_rng _).1 | decide) (by first | omega | assumption | exact (iv_rng _).2 | exact (iv_rng _).1 | decide) (by first | omega | assumption | (show 0 ≤ x1.toInt; omega) | decide) kin78 kp78 I44 K45 (by omega)
                · have c62 := iv_nle (X := 4) (Y := y41.toInt) c62 (by decide) rfl
                  refine pv_aload_n (M := mX12_shortest) 0 dX12_shortest_61 62 rfl rfl rfl ?_
                  refine mv_get (M := mX12_shortest) (v := .ref 158) dX12_shortest_62 FX12 52 wd1225 (by decide) (tl123 hT) rfl rfl 65 rfl ?_
                  refine pv_iload (M := mX12_shortest) dX12_shortest_65 67 rfl rfl ?_
                  refine pv_iconst (M := mX12_shortest) (v := 0) dX12_shortest_67 68 rfl (by decide) ?_
                  refine iv_iast (M := mX12_shortest) (X := y41.toInt) (l1 := 0) (l2 := 16) dX12_shortest_68 (tl158 hT) rfl (by omega) (by omega) I44 (fun _ => rfl) (by decide) (by decide) 69 rfl (fun m181 e184 I182 => ?_)
                  have K183 := K45.set e184 rfl
                  have k69 := (e184).trans (up2_ix (j := y41.toInt.toNat) (by omega))
                  have kf55 := SHp_st kgF e184 (by omega) (by omega)
                  have kl55 := LO12_eq (HSAME.set e184 (by omega)) kgL
                  have kz69 := Z_set kgZ k69 Int32.toInt_zero (by omega)
                  have k163b : (m181 163 0).toInt = v37.toInt := by rw [e184, up2_ne (by omega)]; exact kg163
                  have kob55 := OBC_eq kgO (HSAME.set e184 (by omega)) (fun j => by rw [e184, up2_ne (by omega)])
                  refine iv_inc (M := mX12_shortest) (C := 1) dX12_shortest_69 72 rfl rfl (by decide) rfl rfl (by decide) (by omega) (by omega) (fun v191 ev191 => ?_)
                  show PV _ _ _ _ _ _ _ 72 [.ref 123, .int x0, .int x1, .int v37, .int v191, pv_U, pv_U] [] _
                  refine pv_goto (M := mX12_shortest) (tgt := 55) dX12_shortest_72 (by decide) ?_
                  have kz55 : ∀ q : Nat, (q : Int) < v191.toInt → (m181 158 q).toInt = 0 := by rw [show v191.toInt = y41.toInt + 1 by omega]; exact kz69
                  exact ih48 v191 m181 n43 (by first | omega | assumption | exact (iv_rng _).2 | exact (iv_rng _).1 | decide) (by first | omega | assumption | exact (iv_rng _).2 | exact (iv_rng _).1 | decide) kf55 kl55 kz55 k163b kob55 I182 K183 (by omega)
            have z193 : (0 : Int32).toInt = 0 := by decide
            exact lp47 (((4 - 0) : Int).toNat + 1) 0 m26 n27 (by first | omega | assumption | exact (iv_rng _).2 | exact (iv_rng _).1 | decide) (by first | omega | assumption | exact (iv_rng _).2 | exact (iv_rng _).1 | decide) kF kl1 (fun q a => by rw [Int32.toInt_zero] at a; omega) k37 ⟨kOB, kCL2⟩ I28 K29 (by omega)
          · have c40 := iv_nlt (X := x1.toInt) (Y := v37.toInt) c40 rfl rfl
            refine pv_iconst (M := mX12_shortest) (v := (-1)) dX12_shortest_50 51 rfl (by decide) ?_
            have z194 : ((-1) : Int32).toInt = (-1) := by decide
            exact pv_iret (M := mX12_shortest) dX12_shortest_51 rfl rfl ⟨_, _, _, rfl, rfl, I28, K29, by decide, by decide, (GSR_s kSP kTO (by omega) k6a k7a kOB (Or.inr (Or.inl ⟨by omega, by omega, by decide⟩)))⟩
        · have c39 := iv_eq (X := x1.toInt) (Y := (-1)) c39 rfl (by decide)
          refine pv_iload_n (M := mX12_shortest) 3 dX12_shortest_43 44 rfl rfl rfl ?_
          exact pv_iret (M := mX12_shortest) dX12_shortest_44 rfl rfl ⟨_, _, _, rfl, rfl, I28, K29, (iv_rng v37).1, (iv_rng v37).2, (GSR_s kSP kTO (by omega) k6a k7a kOB (Or.inl ⟨by omega, by omega⟩))⟩
      · have c19 := iv_ne (X := v17.toInt) (Y := 0) c19 rfl (by decide)
        refine pv_bipush (M := mX12_shortest) (v := (-2)) dX12_shortest_24 26 rfl (by decide) ?_
        have z195 : ((-2) : Int32).toInt = (-2) := by decide
        exact pv_iret (M := mX12_shortest) dX12_shortest_26 rfl rfl ⟨_, _, _, rfl, rfl, I6, K7, by decide, by decide, (Or.inr (Or.inl ⟨by omega, kSP, fun z => z (by obtain ⟨q, hq, h12⟩ := (k16.resolve_right (fun q => by omega)).2; rw [CHL_LO kCL] at h12; unfold nmr at h12; cases hz : (mbs x0 8)[q]? with | none => (rw [hz] at h12; exact absurd h12 (show ¬ (12 : Int) < 0 by decide)) | some k => (rw [hz] at h12; exact ⟨k, List.mem_of_getElem? hz, by rw [← K7 126 k rfl]; exact h12⟩)), by decide⟩))⟩
    · have c12 := iv_nle (X := (-1)) (Y := x1.toInt) c12 (by decide) rfl
      refine pv_iconst (M := mX12_shortest) (v := (-1)) dX12_shortest_15 16 rfl (by decide) ?_
      have z196 : ((-1) : Int32).toInt = (-1) := by decide
      exact pv_iret (M := mX12_shortest) dX12_shortest_16 rfl rfl ⟨_, _, _, rfl, rfl, I6, K7, by decide, by decide, (by first | exact Or.inl ⟨Or.inr (k7.resolve_right (fun q => by omega)).2.1, by decide⟩ | exact Or.inl ⟨Or.inl (by omega), by decide⟩)⟩
