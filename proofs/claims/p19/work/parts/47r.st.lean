set_option maxHeartbeats 2000000 in
set_option maxRecDepth 20000 in
theorem s_X11_refuseCover_ve (g : pv_G) {T : List mv_T} {m : Nat → Nat → Int32} {n : Nat → Nat → Int64} {r : Nat → Value} {la lb : Nat} (hT : TX T) (I : IV BB m) (R : RX T r la lb) (x0 : Int32) : PM g mX11_refuseCover yX11_refuseCover (sqP (mk T m n r) (-2) 0 (fun v => RFV m x0 v.toInt)) 4 0 0 [.ref 0, .int x0] (mk T m n r) := by
  have Kp : fr (wl []) m m := fr.rf
  have R0 := R
  have zR := R.2.2.2.2.1.1
  have zR2 := R.2.2.2.2.2.1
  refine PM.of 2 (lo := [.ref 0, .int x0, pv_U, pv_U]) rfl (by decide) rfl rfl (Nat.le_of_ble_eq_true rfl) ?_
  refine pv_iload_n (M := mX11_refuseCover) 1 dX11_refuseCover_0 1 rfl rfl rfl ?_
  refine pv_calls (M := mX11_refuseCover) (as := [.int x0]) (st := []) (kc2 := 0) (ks2 := 0) dX11_refuseCover_1 wd913 YJ6_bitCount_0f7a4 wd914 (s_J6_bitCount_0f7a4 g hT I x0) rfl rfl (Nat.le_of_ble_eq_true rfl) (by decide) rfl rfl 4 rfl (fun rv h1 q1 => ?_)
  obtain ⟨v2, rfl, rfl, pv2, qv2, rv2⟩ := q1
  replace rv2 : v2 = bcn x0 := rv2
  show PV _ _ _ _ _ _ _ 4 [.ref 0, .int x0, pv_U, pv_U] [.int v2] _
  have k4 : v2.toInt = (bcn x0).toInt := congrArg Int32.toInt rv2
  refine pv_istore_n (M := mX11_refuseCover) 2 (lo2 := [.ref 0, .int x0, .int v2, pv_U]) dX11_refuseCover_4 5 rfl rfl (by decide) rfl rfl ?_
  refine pv_aload_n (M := mX11_refuseCover) 0 dX11_refuseCover_5 6 rfl rfl rfl ?_
  refine pv_iload_n (M := mX11_refuseCover) 1 dX11_refuseCover_6 7 rfl rfl rfl ?_
  refine pv_callv (M := mX11_refuseCover) (as := [.int x0]) (st := []) (kc2 := 0) (ks2 := 0) dX11_refuseCover_7 wd919 YX11_areDeeds ⟨wd921, wd33⟩ (mk_get (tl0 hT)) rfl rfl (s_X11_areDeeds g hT I R x0) rfl rfl (Nat.le_of_ble_eq_true rfl) (by decide) rfl rfl 10 rfl (fun rv h1 q4 => ?_)
  obtain ⟨v5, rfl, rfl, pv5, qv5, rv5⟩ := q4
  replace rv5 : v5 = adv m x0 := rv5
  show PV _ _ _ _ _ _ _ 10 [.ref 0, .int x0, .int v2, pv_U] [.int v5] _
  have k10 : (adv m x0).toInt = v5.toInt := by rw [rv5]
  refine pv_if_eq (M := mX11_refuseCover) (tgt := 23) dX11_refuseCover_10 13 rfl (by decide) (fun c7 => ?_) (fun c7 => ?_)
  · have c7 := iv_eq (X := v5.toInt) (Y := 0) c7 rfl (by decide)
    refine pv_iconst (M := mX11_refuseCover) (v := (-1)) dX11_refuseCover_23 24 rfl (by decide) ?_
    have z8 : ((-1) : Int32).toInt = (-1) := by decide
    exact pv_iret (M := mX11_refuseCover) dX11_refuseCover_24 rfl rfl ⟨_, rfl, rfl, by decide, by decide, (Or.inl ⟨fun q => by have a := q.1; have b := q.2.1; have d := q.2.2; omega, by decide⟩)⟩
  · have c7 := iv_ne (X := v5.toInt) (Y := 0) c7 rfl (by decide)
    refine pv_iload_n (M := mX11_refuseCover) 2 dX11_refuseCover_13 14 rfl rfl rfl ?_
    refine pv_iconst (M := mX11_refuseCover) (v := 2) dX11_refuseCover_14 15 rfl (by decide) ?_
    refine pv_icmp_lt (M := mX11_refuseCover) (tgt := 23) dX11_refuseCover_15 18 rfl (by decide) (fun c9 => ?_) (fun c9 => ?_)
    · have c9 := iv_lt (X := v2.toInt) (Y := 2) c9 rfl (by decide)
      refine pv_iconst (M := mX11_refuseCover) (v := (-1)) dX11_refuseCover_23 24 rfl (by decide) ?_
      have z10 : ((-1) : Int32).toInt = (-1) := by decide
      exact pv_iret (M := mX11_refuseCover) dX11_refuseCover_24 rfl rfl ⟨_, rfl, rfl, by decide, by decide, (Or.inl ⟨fun q => by have a := q.1; have b := q.2.1; have d := q.2.2; omega, by decide⟩)⟩
    · have c9 := iv_nlt (X := v2.toInt) (Y := 2) c9 rfl (by decide)
      refine pv_iload_n (M := mX11_refuseCover) 2 dX11_refuseCover_18 19 rfl rfl rfl ?_
      refine pv_iconst (M := mX11_refuseCover) (v := 4) dX11_refuseCover_19 20 rfl (by decide) ?_
      refine pv_icmp_le (M := mX11_refuseCover) (tgt := 25) dX11_refuseCover_20 23 rfl (by decide) (fun c11 => ?_) (fun c11 => ?_)
      · have c11 := iv_le (X := v2.toInt) (Y := 4) c11 rfl (by decide)
        refine pv_iconst (M := mX11_refuseCover) (v := 0) dX11_refuseCover_25 26 rfl (by decide) ?_
        refine pv_istore_n (M := mX11_refuseCover) 3 (lo2 := [.ref 0, .int x0, .int v2, .int 0]) dX11_refuseCover_26 27 rfl rfl (by decide) rfl rfl ?_
        have lp18 : ∀ (fuel17 : Nat) (y12 : Int32), (0 ≤ y12.toInt) → (y12.toInt ≤ 8) → (∀ i : Nat, (i : Int) < y12.toInt → (amv x0 (Int32.ofInt i)).toInt ≠ 0 → (m (61 + 2 * i) 1).toInt ≤ 12) → ((8 - y12.toInt) : Int).toNat < fuel17 → PV none g mX11_refuseCover (sqP (mk T m n r) (-2) 0 (fun v => RFV m x0 v.toInt)) 4 0 0 27 [.ref 0, .int x0, .int v2, .int y12] [] (mk T m n r) := by
          intro fuel17
          induction fuel17 with
          | zero => intro y12 b20 b21 b22 z23; omega
          | succ fuel17 ih19 =>
            intro y12 b20 b21 b22 z23
            have kg := (show ∀ i : Nat, (i : Int) < y12.toInt → (amv x0 (Int32.ofInt i)).toInt ≠ 0 → (m (61 + 2 * i) 1).toInt ≤ 12 by assumption)
            refine pv_iload_n (M := mX11_refuseCover) 3 dX11_refuseCover_27 28 rfl rfl rfl ?_
            refine pv_bipush (M := mX11_refuseCover) (v := 8) dX11_refuseCover_28 30 rfl (by decide) ?_
            refine pv_icmp_ge (M := mX11_refuseCover) (tgt := 64) dX11_refuseCover_30 33 rfl (by decide) (fun c25 => ?_) (fun c25 => ?_)
            · have c25 := iv_le (X := 8) (Y := y12.toInt) c25 (by decide) rfl
              refine pv_iconst (M := mX11_refuseCover) (v := 0) dX11_refuseCover_64 65 rfl (by decide) ?_
              have z26 : (0 : Int32).toInt = 0 := by decide
              exact pv_iret (M := mX11_refuseCover) dX11_refuseCover_65 rfl rfl ⟨_, rfl, rfl, by decide, by decide, (Or.inr (Or.inr ⟨⟨by omega, by omega, by omega⟩, fun i hi hb => kg i (by omega) hb, by decide⟩))⟩
            · have c25 := iv_nle (X := 8) (Y := y12.toInt) c25 (by decide) rfl
              refine pv_iload_n (M := mX11_refuseCover) 1 dX11_refuseCover_33 34 rfl rfl rfl ?_
              refine pv_iload_n (M := mX11_refuseCover) 3 dX11_refuseCover_34 35 rfl rfl rfl ?_
              refine pv_calls (M := mX11_refuseCover) (as := [.int x0, .int y12]) (st := []) (kc2 := 0) (ks2 := 0) dX11_refuseCover_35 wd931 YX11_isAmong wd932 (s_X11_isAmong g hT I x0 y12) rfl rfl (Nat.le_of_ble_eq_true rfl) (by decide) rfl rfl 38 rfl (fun rv h1 q27 => ?_)
              obtain ⟨v28, rfl, rfl, pv28, qv28, rv28⟩ := q27
              replace rv28 : v28 = amv x0 y12 := rv28
              show PV _ _ _ _ _ _ _ 38 [.ref 0, .int x0, .int v2, .int y12] [.int v28] _
              have k38 : (amv x0 (Int32.ofInt (y12.toInt.toNat : Nat))).toInt = v28.toInt := by rw [ofn (by omega), rv28]
              refine pv_if_eq (M := mX11_refuseCover) (tgt := 58) dX11_refuseCover_38 41 rfl (by decide) (fun c30 => ?_) (fun c30 => ?_)
              · have c30 := iv_eq (X := v28.toInt) (Y := 0) c30 rfl (by decide)
                refine iv_inc (M := mX11_refuseCover) (C := 1) dX11_refuseCover_58 61 rfl rfl (by decide) rfl rfl (by decide) (by omega) (by omega) (fun v31 ev31 => ?_)
                show PV _ _ _ _ _ _ _ 61 [.ref 0, .int x0, .int v2, .int v31] [] _
                refine pv_goto (M := mX11_refuseCover) (tgt := 27) dX11_refuseCover_61 (by decide) ?_
                have kb : ∀ i : Nat, (i : Int) < v31.toInt → (amv x0 (Int32.ofInt i)).toInt ≠ 0 → (m (61 + 2 * i) 1).toInt ≤ 12 := fun i a b => if z : (i : Int) = y12.toInt then (by rw [show i = (y12.toInt).toNat by omega] at b ⊢; omega) else kg i (by omega) b
                exact ih19 v31 (by first | omega | assumption | exact (iv_rng _).2 | exact (iv_rng _).1 | decide) (by first | omega | assumption | exact (iv_rng _).2 | exact (iv_rng _).1 | decide) kb (by omega)
              · have c30 := iv_ne (X := v28.toInt) (Y := 0) c30 rfl (by decide)
                refine pv_aload_n (M := mX11_refuseCover) 0 dX11_refuseCover_41 42 rfl rfl rfl ?_
                refine mv_get (M := mX11_refuseCover) (v := .ref 60) dX11_refuseCover_42 FX11 3 wd410 (by decide) (tl0 hT) rfl rfl 45 rfl ?_
                refine pv_iload_n (M := mX11_refuseCover) 3 dX11_refuseCover_45 46 rfl rfl rfl ?_
                refine iv_qdeed (M := mX11_refuseCover) (X := y12.toInt) dX11_refuseCover_46 hT R rfl (by omega) (by omega) 47 rfl (fun b33 eb33 hb33 => ?_)
                have zb33 := hb33.2.2.2.2
                refine iv_get (M := mX11_refuseCover) (l1 := 0) (l2 := 16) dX11_refuseCover_47 FX8 1 wd200 (by decide) hb33.1 rfl I hb33.2.2.1 50 rfl (fun v34 ev34 pv34 qv34 => ?_)
                have k50 : v34.toInt = (m (61 + 2 * y12.toInt.toNat) 1).toInt := (congrArg Int32.toInt ev34).trans (congrArg (fun z => (m z 1).toInt) (by omega))
                refine pv_bipush (M := mX11_refuseCover) (v := 12) dX11_refuseCover_50 52 rfl (by decide) ?_
                refine pv_icmp_le (M := mX11_refuseCover) (tgt := 58) dX11_refuseCover_52 55 rfl (by decide) (fun c36 => ?_) (fun c36 => ?_)
                · have c36 := iv_le (X := v34.toInt) (Y := 12) c36 rfl (by decide)
                  refine iv_inc (M := mX11_refuseCover) (C := 1) dX11_refuseCover_58 61 rfl rfl (by decide) rfl rfl (by decide) (by omega) (by omega) (fun v37 ev37 => ?_)
                  show PV _ _ _ _ _ _ _ 61 [.ref 0, .int x0, .int v2, .int v37] [] _
                  refine pv_goto (M := mX11_refuseCover) (tgt := 27) dX11_refuseCover_61 (by decide) ?_
                  have kb : ∀ i : Nat, (i : Int) < v37.toInt → (amv x0 (Int32.ofInt i)).toInt ≠ 0 → (m (61 + 2 * i) 1).toInt ≤ 12 := fun i a b => if z : (i : Int) = y12.toInt then (by rw [show i = (y12.toInt).toNat by omega] at b ⊢; omega) else kg i (by omega) b
                  exact ih19 v37 (by first | omega | assumption | exact (iv_rng _).2 | exact (iv_rng _).1 | decide) (by first | omega | assumption | exact (iv_rng _).2 | exact (iv_rng _).1 | decide) kb (by omega)
                · have c36 := iv_nle (X := v34.toInt) (Y := 12) c36 rfl (by decide)
                  refine pv_bipush (M := mX11_refuseCover) (v := (-2)) dX11_refuseCover_55 57 rfl (by decide) ?_
                  have z39 : ((-2) : Int32).toInt = (-2) := by decide
                  exact pv_iret (M := mX11_refuseCover) dX11_refuseCover_57 rfl rfl ⟨_, rfl, rfl, by decide, by decide, (Or.inr (Or.inl ⟨⟨by omega, by omega, by omega⟩, fun q => by have d := q y12.toInt.toNat (by omega) (by omega); omega, by decide⟩))⟩
        have z40 : (0 : Int32).toInt = 0 := by decide
        exact lp18 (((8 - 0) : Int).toNat + 1) 0 (by first | omega | assumption | exact (iv_rng _).2 | exact (iv_rng _).1 | decide) (by first | omega | assumption | exact (iv_rng _).2 | exact (iv_rng _).1 | decide) (fun i a => by rw [Int32.toInt_zero] at a; omega) (by omega)
      · have c11 := iv_nle (X := v2.toInt) (Y := 4) c11 rfl (by decide)
        refine pv_iconst (M := mX11_refuseCover) (v := (-1)) dX11_refuseCover_23 24 rfl (by decide) ?_
        have z41 : ((-1) : Int32).toInt = (-1) := by decide
        exact pv_iret (M := mX11_refuseCover) dX11_refuseCover_24 rfl rfl ⟨_, rfl, rfl, by decide, by decide, (Or.inl ⟨fun q => by have a := q.1; have b := q.2.1; have d := q.2.2; omega, by decide⟩)⟩

set_option maxHeartbeats 2000000 in
set_option maxRecDepth 20000 in
theorem s_X11_coverFor_ve (g : pv_G) {T : List mv_T} {m : Nat → Nat → Int32} {n : Nat → Nat → Int64} {r : Nat → Value} {la lb : Nat} (hT : TX T) (I : IV BB m) (R : RX T r la lb) (hC : TC T) (hc2 : r 2 = .ref 169) (x0 : Int32) (hp0 : x0.toInt ≠ 0) (hp1 : (mbs x0 8).length ≤ 4) (hp2 : ∀ k, k ∈ mbs x0 8 → (m (61 + 2 * k) 1).toInt ≤ 12) (hp3 : (m 169 1).toInt ≠ 0 → SHC m (m 169 1) (m 170 1).toInt) : PM g mX11_coverFor yX11_coverFor (sqAr T BB WX rn r m 169 (fun m' r' => m' 169 1 = x0 ∧ SHC m' x0 (m' 170 1).toInt)) 5 0 0 [.ref 0, .int x0] (mk T m n r) := by
  have Kp : fr WX m m := fr.rf
  have R0 := R
  have zR := R.2.2.2.2.1.1
  have zR2 := R.2.2.2.2.2.1
  have hc20 := hc2
  refine PM.of 2 (lo := [.ref 0, .int x0, pv_U, pv_U]) rfl (by decide) rfl rfl (Nat.le_of_ble_eq_true rfl) ?_
  refine pv_aload_n (M := mX11_coverFor) 0 dX11_coverFor_0 1 rfl rfl rfl ?_
  refine mv_get (M := mX11_coverFor) (v := .ref 169) dX11_coverFor_1 FX11 12 wd419 (by decide) (tl0 hT) rfl hc2 4 rfl ?_
  refine pv_ifnonnull (M := mX11_coverFor) (tgt := 17) dX11_coverFor_4 (by decide) ?_
  refine pv_aload_n (M := mX11_coverFor) 0 dX11_coverFor_17 18 rfl rfl rfl ?_
  refine mv_get (M := mX11_coverFor) (v := .ref 169) dX11_coverFor_18 FX11 12 wd419 (by decide) (tl0 hT) rfl hc2 21 rfl ?_
  refine pv_astore_n (M := mX11_coverFor) 2 (lo2 := [.ref 0, .int x0, .ref 169, pv_U]) dX11_coverFor_21 22 rfl rfl (by decide) rfl rfl ?_
  refine pv_aload_n (M := mX11_coverFor) 0 dX11_coverFor_22 23 rfl rfl rfl ?_
  refine pv_aload_n (M := mX11_coverFor) 2 dX11_coverFor_23 24 rfl rfl rfl ?_
  refine mv_putr (M := mX11_coverFor) (j := 2) (v := .ref 169) dX11_coverFor_24 FX11 12 wd419 (by decide) rfl (tl0 hT) rfl (hu_of (by decide)) (NM2t hC) (fun _ => rfl) (fun _ => rfl) 27 rfl (fun r1 er1 => ?_)
  rw [er1.trans (up1_same hc2)]
  exact s_X11_coverFor_vte g hT I Kp (rn.rf hc20) R hC hc2 x0 hp0 hp1 hp2 hp3
