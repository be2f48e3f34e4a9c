set_option maxHeartbeats 2000000 in
set_option maxRecDepth 20000 in
theorem s_X11_cheapest_va (g : pv_G) {T : List mv_T} {m : Nat → Nat → Int32} {n : Nat → Nat → Int64} {r : Nat → Value} {la lb : Nat} (hT : TX T) (I : IV BB m) (R : RX T r la lb) (x0 : Int32) (x1 : Int32) (x2 : Int32) (x3 : Int32) (t : Int → Int) (hp0 : RSA m) (hp1 : LAWc m la t (m la 7).toInt.toNat) : PM g mX11_cheapest yX11_cheapest (sqI T BB wN r m (-2147483648) 2147483647 (fun m' v => CHPc ((0 ≤ x0.toInt ∧ x0.toInt < (m 0 2).toInt) ∧ (ddv m x1).toInt = 1 ∧ (0 ≤ x2.toInt ∧ x2.toInt ≤ 7) ∧ -1 ≤ x3.toInt ∧ x3.toInt < (m (61 + 2 * x1.toInt.toNat) 1).toInt) m la t x0.toInt.toNat x2.toInt (m (4 + 7 * x0.toInt.toNat + 4)) (m (62 + 2 * x1.toInt.toNat)) (m (4 + 7 * x0.toInt.toNat + 3) 1).toInt.toNat (m (61 + 2 * x1.toInt.toNat) 1).toInt.toNat x3 v.toInt)) 7 0 0 [.ref 0, .int x0, .int x1, .int x2, .int x3] (mk T m n r) := by
  have Kp : fr wN m m := fr.rf
  have R0 := R
  have zR := R.2.2.2.2.1.1
  have zR2 := R.2.2.2.2.2.1
  refine PM.of 1 (lo := [.ref 0, .int x0, .int x1, .int x2, .int x3, pv_U]) rfl (by decide) rfl rfl (Nat.le_of_ble_eq_true rfl) ?_
  refine pv_aload_n (M := mX11_cheapest) 0 dX11_cheapest_0 1 rfl rfl rfl ?_
  refine pv_iload_n (M := mX11_cheapest) 1 dX11_cheapest_1 2 rfl rfl rfl ?_
  refine pv_callv (M := mX11_cheapest) (as := [.int x0]) (st := []) (kc2 := 0) (ks2 := 0) dX11_cheapest_2 wd700 YX11_isBlank ⟨wd702, wd16⟩ (mk_get (tl0 hT)) rfl rfl (s_X11_isBlank_vx g hT I R x0) rfl rfl (Nat.le_of_ble_eq_true rfl) (by decide) rfl rfl 5 rfl (fun rv h1 q1 => ?_)
  obtain ⟨v2, rfl, rfl, pv2, qv2, rv2⟩ := q1
  replace rv2 : (v2 = 0 ∨ (0 ≤ x0.toInt ∧ x0.toInt ≤ 7)) ∧ ((v2.toInt = 1 ∧ 0 ≤ x0.toInt ∧ x0.toInt < (m 0 2).toInt) ∨ (v2.toInt = 0 ∧ (x0.toInt < 0 ∨ (m 0 2).toInt ≤ x0.toInt))) := rv2
  show PV _ _ _ _ _ _ _ 5 [.ref 0, .int x0, .int x1, .int x2, .int x3, pv_U] [.int v2] _
  have k5 := rv2.2
  refine pv_if_eq (M := mX11_cheapest) (tgt := 23) dX11_cheapest_5 8 rfl (by decide) (fun c4 => ?_) (fun c4 => ?_)
  · have c4 := iv_eq (X := v2.toInt) (Y := 0) c4 rfl (by decide)
    refine pv_iconst (M := mX11_cheapest) (v := (-1)) dX11_cheapest_23 24 rfl (by decide) ?_
    have z5 : ((-1) : Int32).toInt = (-1) := by decide
    exact pv_iret (M := mX11_cheapest) dX11_cheapest_24 rfl rfl ⟨_, _, _, rfl, rfl, I, Kp, by decide, by decide, (Or.inl ⟨by omega, by decide⟩)⟩
  · have pc4 := rv2.1.resolve_left c4
    have c4 := iv_ne (X := v2.toInt) (Y := 0) c4 rfl (by decide)
    refine pv_aload_n (M := mX11_cheapest) 0 dX11_cheapest_8 9 rfl rfl rfl ?_
    refine pv_iload_n (M := mX11_cheapest) 2 dX11_cheapest_9 10 rfl rfl rfl ?_
    refine pv_callv (M := mX11_cheapest) (as := [.int x1]) (st := []) (kc2 := 0) (ks2 := 0) dX11_cheapest_10 wd828 YX11_isDeed ⟨wd830, wd25⟩ (mk_get (tl0 hT)) rfl rfl (s_X11_isDeed g hT I R x1) rfl rfl (Nat.le_of_ble_eq_true rfl) (by decide) rfl rfl 13 rfl (fun rv h1 q6 => ?_)
    obtain ⟨v7, rfl, rfl, pv7, qv7, rv7⟩ := q6
    replace rv7 : (v7 = 0 ∨ (0 ≤ x1.toInt ∧ x1.toInt ≤ 7)) ∧ v7 = ddv m x1 := rv7
    show PV _ _ _ _ _ _ _ 13 [.ref 0, .int x0, .int x1, .int x2, .int x3, pv_U] [.int v7] _
    have k13 := rv7.2
    have k13d : (ddv m x1).toInt = v7.toInt := congrArg Int32.toInt rv7.2.symm
    refine pv_if_eq (M := mX11_cheapest) (tgt := 23) dX11_cheapest_13 16 rfl (by decide) (fun c10 => ?_) (fun c10 => ?_)
    · have c10 := iv_eq (X := v7.toInt) (Y := 0) c10 rfl (by decide)
      refine pv_iconst (M := mX11_cheapest) (v := (-1)) dX11_cheapest_23 24 rfl (by decide) ?_
      have z11 : ((-1) : Int32).toInt = (-1) := by decide
      exact pv_iret (M := mX11_cheapest) dX11_cheapest_24 rfl rfl ⟨_, _, _, rfl, rfl, I, Kp, by decide, by decide, (Or.inl ⟨by omega, by decide⟩)⟩
    · have pc10 := rv7.1.resolve_left c10
      have c10 := iv_ne (X := v7.toInt) (Y := 0) c10 rfl (by decide)
      refine pv_iload_n (M := mX11_cheapest) 3 dX11_cheapest_16 17 rfl rfl rfl ?_
      refine pv_calls (M := mX11_cheapest) (as := [.int x2]) (st := []) (kc2 := 0) (ks2 := 0) dX11_cheapest_17 wd716 YX11_isClerk wd717 (s_X11_isClerk_va g hT I x2) rfl rfl (Nat.le_of_ble_eq_true rfl) (by decide) rfl rfl 20 rfl (fun rv h1 q12 => ?_)
      obtain ⟨v13, rfl, rfl, pv13, qv13, rv13⟩ := q12
      replace rv13 : (v13 = 0 ∨ (0 ≤ x2.toInt ∧ x2.toInt ≤ 7)) ∧ ((v13.toInt = 1 ∧ 0 ≤ x2.toInt ∧ x2.toInt ≤ 7) ∨ (v13.toInt = 0 ∧ (x2.toInt < 0 ∨ 7 < x2.toInt))) := rv13
      show PV _ _ _ _ _ _ _ 20 [.ref 0, .int x0, .int x1, .int x2, .int x3, pv_U] [.int v13] _
      have k20 := rv13.2
      refine pv_if_ne (M := mX11_cheapest) (tgt := 25) dX11_cheapest_20 23 rfl (by decide) (fun c15 => ?_) (fun c15 => ?_)
      · have pc15 := rv13.1.resolve_left c15
        have c15 := iv_ne (X := v13.toInt) (Y := 0) c15 rfl (by decide)
        refine pv_iload (M := mX11_cheapest) dX11_cheapest_25 27 rfl rfl ?_
        refine pv_iconst (M := mX11_cheapest) (v := (-1)) dX11_cheapest_27 28 rfl (by decide) ?_
        refine pv_icmp_lt (M := mX11_cheapest) (tgt := 45) dX11_cheapest_28 31 rfl (by decide) (fun c16 => ?_) (fun c16 => ?_)
        · have c16 := iv_lt (X := x3.toInt) (Y := (-1)) c16 rfl (by decide)
          refine pv_iconst (M := mX11_cheapest) (v := (-1)) dX11_cheapest_45 46 rfl (by decide) ?_
          have z17 : ((-1) : Int32).toInt = (-1) := by decide
          exact pv_iret (M := mX11_cheapest) dX11_cheapest_46 rfl rfl ⟨_, _, _, rfl, rfl, I, Kp, by decide, by decide, (Or.inl ⟨by omega, by decide⟩)⟩
        · have c16 := iv_nlt (X := x3.toInt) (Y := (-1)) c16 rfl (by decide)
          refine pv_iload (M := mX11_cheapest) dX11_cheapest_31 33 rfl rfl ?_
          refine pv_aload_n (M := mX11_cheapest) 0 dX11_cheapest_33 34 rfl rfl rfl ?_
          refine mv_get (M := mX11_cheapest) (v := .ref 60) dX11_cheapest_34 FX11 3 wd410 (by decide) (tl0 hT) rfl rfl 37 rfl ?_
          refine pv_iload_n (M := mX11_cheapest) 2 dX11_cheapest_37 38 rfl rfl rfl ?_
          refine iv_qdeed (M := mX11_cheapest) (X := x1.toInt) dX11_cheapest_38 hT R rfl (by omega) (by omega) 39 rfl (fun b18 eb18 hb18 => ?_)
          have zb18 := hb18.2.2.2.2
          refine iv_get (M := mX11_cheapest) (l1 := 0) (l2 := 16) dX11_cheapest_39 FX8 1 wd200 (by decide) hb18.1 rfl I hb18.2.2.1 42 rfl (fun v19 ev19 pv19 qv19 => ?_)
          have kdd : 0 ≤ x1.toInt ∧ x1.toInt ≤ 7 ∧ 0 < (m (61 + 2 * x1.toInt.toNat) 1).toInt := ddv_1 (by omega)
          have k42 : v19.toInt = (m (61 + 2 * x1.toInt.toNat) 1).toInt := (congrArg Int32.toInt ev19).trans (congrArg (fun z => (m z 1).toInt) (by omega))
          refine pv_icmp_lt (M := mX11_cheapest) (tgt := 47) dX11_cheapest_42 45 rfl (by decide) (fun c22 => ?_) (fun c22 => ?_)
          · have c22 := iv_lt (X := x3.toInt) (Y := v19.toInt) c22 rfl rfl
            refine pv_aload_n (M := mX11_cheapest) 0 dX11_cheapest_47 48 rfl rfl rfl ?_
            refine pv_iload_n (M := mX11_cheapest) 1 dX11_cheapest_48 49 rfl rfl rfl ?_
            refine pv_iconst (M := mX11_cheapest) (v := 0) dX11_cheapest_49 50 rfl (by decide) ?_
            refine pv_aload_n (M := mX11_cheapest) 0 dX11_cheapest_50 51 rfl rfl rfl ?_
            refine mv_get (M := mX11_cheapest) (v := .ref 3) dX11_cheapest_51 FX11 1 wd408 (by decide) (tl0 hT) rfl rfl 54 rfl ?_
            refine pv_iload_n (M := mX11_cheapest) 1 dX11_cheapest_54 55 rfl rfl rfl ?_
            refine iv_qblank (M := mX11_cheapest) (X := x0.toInt) dX11_cheapest_55 hT R rfl (by omega) (by omega) 56 rfl (fun b23 eb23 hb23 => ?_)
            have zb23 := hb23.2.2.2.2.2.2.2
            refine mv_get (M := mX11_cheapest) (v := .ref (b23 + 3)) dX11_cheapest_56 FX0 1 wd210 (by decide) hb23.1 rfl rfl 59 rfl ?_
            refine iv_get (M := mX11_cheapest) (l1 := 0) (l2 := 40) dX11_cheapest_59 FX8 1 wd200 (by decide) hb23.2.2.1.1 rfl I hb23.2.2.1.2.2.1 62 rfl (fun v24 ev24 pv24 qv24 => ?_)
            have k62 : v24.toInt = (m (4 + 7 * x0.toInt.toNat + 3) 1).toInt := (congrArg Int32.toInt ev24).trans (congrArg (fun z => (m z 1).toInt) (by omega))
            refine pv_iload_n (M := mX11_cheapest) 3 dX11_cheapest_62 63 rfl rfl rfl ?_
            have z26 : (0 : Int32).toInt = 0 := by decide
            refine pv_callv (M := mX11_cheapest) (as := [.int x0, .int 0, .int v24, .int x2]) (st := []) (kc2 := 0) (ks2 := 0) dX11_cheapest_63 wd719 YX11_askLaw ⟨wd721, wd17⟩ (mk_get (tl0 hT)) rfl rfl (s_X11_askLaw_va g hT I R x0 (by omega) (by omega) 0 (by decide) (by decide) v24 (by omega) (by omega) x2 (by omega) (by omega) t (hp0 _ (by omega)) hp1 (by omega)) rfl rfl (Nat.le_of_ble_eq_true rfl) (by decide) rfl rfl 66 rfl (fun rv h1 q27 => ?_)
            obtain ⟨m28, n29, rfl, rfl, I30, K31, rm28⟩ := q27
            replace rm28 : ∀ p : Nat, (0 : Int) ≤ (p : Int) → (p : Int) < v24.toInt → ASK m la t x0.toInt.toNat p x2.toInt (m28 108 p) (m28 109 p) := by have q_ := rm28; (try rw [z26] at q_); exact q_
            have K31c := K31
            have K31 := Kp.trans (K31.sub (fun _ _ q => q))
            show PV _ _ _ _ _ _ _ 66 [.ref 0, .int x0, .int x1, .int x2, .int x3, pv_U] [] _
            have k66 := rm28
            have kf66 : fr wN m m28 := K31c
            have kCK : CKc m la t x0.toInt.toNat x2.toInt (m (4 + 7 * x0.toInt.toNat + 3) 1).toInt.toNat (cCl m28) (m28 109) := CKc_of (fun p hp => k66 p (by omega) (by omega))
            refine pv_aload_n (M := mX11_cheapest) 0 dX11_cheapest_66 67 rfl rfl rfl ?_
            refine mv_get (M := mX11_cheapest) (v := .ref 107) dX11_cheapest_67 FX11 10 wd417 (by decide) (tl0 hT) rfl rfl 70 rfl ?_
            refine pv_aload_n (M := mX11_cheapest) 0 dX11_cheapest_70 71 rfl rfl rfl ?_
            refine mv_get (M := mX11_cheapest) (v := .ref 3) dX11_cheapest_71 FX11 1 wd408 (by decide) (tl0 hT) rfl rfl 74 rfl ?_
            refine pv_iload_n (M := mX11_cheapest) 1 dX11_cheapest_74 75 rfl rfl rfl ?_
            refine iv_qblank (M := mX11_cheapest) (X := x0.toInt) dX11_cheapest_75 hT R rfl (by omega) (by omega) 76 rfl (fun b35 eb35 hb35 => ?_)
            have zb35 := hb35.2.2.2.2.2.2.2
            refine mv_get (M := mX11_cheapest) (v := .ref (b35 + 3)) dX11_cheapest_76 FX0 1 wd210 (by decide) hb35.1 rfl rfl 79 rfl ?_
            refine pv_aload_n (M := mX11_cheapest) 0 dX11_cheapest_79 80 rfl rfl rfl ?_
            refine mv_get (M := mX11_cheapest) (v := .ref 60) dX11_cheapest_80 FX11 3 wd410 (by decide) (tl0 hT) rfl rfl 83 rfl ?_
            refine pv_iload_n (M := mX11_cheapest) 2 dX11_cheapest_83 84 rfl rfl rfl ?_
            refine iv_qdeed (M := mX11_cheapest) (X := x1.toInt) dX11_cheapest_84 hT R rfl (by omega) (by omega) 85 rfl (fun b36 eb36 hb36 => ?_)
            have zb36 := hb36.2.2.2.2
            have k85a : (b35 + 3) = 4 + 7 * x0.toInt.toNat + 3 := by omega
            have k85d : b36 = 61 + 2 * x1.toInt.toNat := by omega
            have k85e : m28 (b35 + 3) 1 = m (4 + 7 * x0.toInt.toNat + 3) 1 := by rw [k85a]; exact kf66 _ _ (wN_lo (by omega) (by omega))
            have k85p : PBc m28 (m28 (b35 + 3) 1).toInt.toNat := by rw [k85e]; exact fun p hp => (kCK p hp).2.1
            have k85b : CB (cCl m28) (m28 (b35 + 3) 1).toInt.toNat := CB_c k85p
            refine pv_callv (M := mX11_cheapest) (as := [.ref (b35 + 3), .ref b36]) (st := []) (kc2 := 0) (ks2 := 0) dX11_cheapest_85 wd849 YX2_choose ⟨wd850, wd851⟩ (mk_get (tl107 hT)) rfl rfl (s_X2_choose_va g hT I30 (b35 + 3) hb35.2.2.1 b36 hb36 k85b k85p) rfl rfl (Nat.le_of_ble_eq_true rfl) (by decide) rfl rfl 88 rfl (fun rv h1 q42 => ?_)
            obtain ⟨m43, n44, v47, rfl, rfl, I45, K46, pv47, qv47, rv47⟩ := q42
            replace rv47 : CHO (m28 ((b35 + 3) + 1)) (m28 (b36 + 1)) (cCl m28) (m28 (b35 + 3) 1).toInt.toNat (m28 b36 1).toInt.toNat (m43 110) v47.toInt := rv47
            have K46c := K46
            have K46 := K31.trans (K46.sub (by first | exact wg_l (by decide) | exact wg_g (by decide) | exact WX_wg | exact la7_wg zR (by decide) | exact wS_wg zR (by decide) | exact wsL_wg zR (by decide)))
            show PV _ _ _ _ _ _ _ 88 [.ref 0, .int x0, .int x1, .int x2, .int x3, pv_U] [.int v47] _
            have k88 := rv47
            rw [k85a, k85d] at k88
            rw [show m28 (4 + 7 * x0.toInt.toNat + 3 + 1) = m (4 + 7 * x0.toInt.toNat + 4) from funext fun i => kf66 _ i (wN_lo (by omega) (by omega)), show m28 (61 + 2 * x1.toInt.toNat + 1) = m (62 + 2 * x1.toInt.toNat) from funext fun i => (kf66 _ i (wN_lo (by omega) (by omega))).trans (congrArg (fun z => m z i) (by omega)), show m28 (4 + 7 * x0.toInt.toNat + 3) 1 = m (4 + 7 * x0.toInt.toNat + 3) 1 from kf66 _ _ (wN_lo (by omega) (by omega)), show m28 (61 + 2 * x1.toInt.toNat) 1 = m (61 + 2 * x1.toInt.toNat) 1 from kf66 _ _ (wN_lo (by omega) (by omega))] at k88
            refine pv_istore (M := mX11_cheapest) (lo2 := [.ref 0, .int x0, .int x1, .int x2, .int x3, .int v47]) dX11_cheapest_88 90 rfl (by decide) rfl rfl ?_
            refine pv_iload (M := mX11_cheapest) dX11_cheapest_90 92 rfl rfl ?_
            refine pv_iconst (M := mX11_cheapest) (v := (-1)) dX11_cheapest_92 93 rfl (by decide) ?_
            refine pv_icmp_ne (M := mX11_cheapest) (tgt := 99) dX11_cheapest_93 96 rfl (by decide) (fun c51 => ?_) (fun c51 => ?_)
            · have c51 := iv_ne (X := v47.toInt) (Y := (-1)) c51 rfl (by decide)
              obtain ⟨u, ku1, ku2, ku3, kST⟩ := CHO_y k88 (by omega)
              refine pv_iload (M := mX11_cheapest) dX11_cheapest_99 101 rfl rfl ?_
              refine pv_iconst (M := mX11_cheapest) (v := (-1)) dX11_cheapest_101 102 rfl (by decide) ?_
              refine pv_icmp_ne (M := mX11_cheapest) (tgt := 110) dX11_cheapest_102 105 rfl (by decide) (fun c53 => ?_) (fun c53 => ?_)
              · have c53 := iv_ne (X := x3.toInt) (Y := (-1)) c53 rfl (by decide)
                refine pv_aload_n (M := mX11_cheapest) 0 dX11_cheapest_110 111 rfl rfl rfl ?_
                refine mv_get (M := mX11_cheapest) (v := .ref 107) dX11_cheapest_111 FX11 10 wd417 (by decide) (tl0 hT) rfl rfl 114 rfl ?_
                refine mv_get (M := mX11_cheapest) (v := .ref 110) dX11_cheapest_114 FX2 2 wd351 (by decide) (tl107 hT) rfl rfl 117 rfl ?_
                refine pv_iload (M := mX11_cheapest) dX11_cheapest_117 119 rfl rfl ?_
                refine iv_iald (M := mX11_cheapest) (X := x3.toInt) (l1 := 0) (l2 := 39) dX11_cheapest_119 (tl110 hT) rfl (by omega) (by omega) I45 (fun _ => rfl) 120 rfl (fun v54 ev54 pv54 qv54 => ?_)
                try have k120 : v54.toInt = (m43 110 x3.toInt.toNat).toInt := congrArg Int32.toInt ev54
                exact pv_iret (M := mX11_cheapest) dX11_cheapest_120 rfl rfl ⟨_, _, _, rfl, rfl, I45, K46, (iv_rng v54).1, (iv_rng v54).2, (Or.inr ⟨by omega, cCl m28, m28 109, kCK, Or.inr ⟨u, (m43 110), ku1, kST, ku3, by first | exact Or.inl ⟨by omega, by omega⟩ | exact Or.inr ⟨by omega, k120⟩⟩⟩)⟩
              · have c53 := iv_eq (X := x3.toInt) (Y := (-1)) c53 rfl (by decide)
                refine pv_iload (M := mX11_cheapest) dX11_cheapest_105 107 rfl rfl ?_
                refine pv_goto (M := mX11_cheapest) (tgt := 120) dX11_cheapest_107 (by decide) ?_
                try have k120 : v47.toInt = (m43 110 x3.toInt.toNat).toInt := congrArg Int32.toInt ev47
                exact pv_iret (M := mX11_cheapest) dX11_cheapest_120 rfl rfl ⟨_, _, _, rfl, rfl, I45, K46, (iv_rng v47).1, (iv_rng v47).2, (Or.inr ⟨by omega, cCl m28, m28 109, kCK, Or.inr ⟨u, (m43 110), ku1, kST, ku3, by first | exact Or.inl ⟨by omega, by omega⟩ | exact Or.inr ⟨by omega, k120⟩⟩⟩)⟩
            · have c51 := iv_eq (X := v47.toInt) (Y := (-1)) c51 rfl (by decide)
              refine pv_bipush (M := mX11_cheapest) (v := (-2)) dX11_cheapest_96 98 rfl (by decide) ?_
              have z57 : ((-2) : Int32).toInt = (-2) := by decide
              exact pv_iret (M := mX11_cheapest) dX11_cheapest_98 rfl rfl ⟨_, _, _, rfl, rfl, I45, K46, by decide, by decide, (Or.inr ⟨by omega, cCl m28, m28 109, kCK, Or.inl ⟨CHO_n k88 (by omega), by decide⟩⟩)⟩
          · have c22 := iv_nlt (X := x3.toInt) (Y := v19.toInt) c22 rfl rfl
            refine pv_iconst (M := mX11_cheapest) (v := (-1)) dX11_cheapest_45 46 rfl (by decide) ?_
            have z58 : ((-1) : Int32).toInt = (-1) := by decide
            exact pv_iret (M := mX11_cheapest) dX11_cheapest_46 rfl rfl ⟨_, _, _, rfl, rfl, I, Kp, by decide, by decide, (Or.inl ⟨by omega, by decide⟩)⟩
      · have c15 := iv_eq (X := v13.toInt) (Y := 0) c15 rfl (by decide)
        refine pv_iconst (M := mX11_cheapest) (v := (-1)) dX11_cheapest_23 24 rfl (by decide) ?_
        have z59 : ((-1) : Int32).toInt = (-1) := by decide
        exact pv_iret (M := mX11_cheapest) dX11_cheapest_24 rfl rfl ⟨_, _, _, rfl, rfl, I, Kp, by decide, by decide, (Or.inl ⟨by omega, by decide⟩)⟩

set_option maxHeartbeats 2000000 in
set_option maxRecDepth 20000 in
theorem s_X12_cheapest_va (g : pv_G) {T : List mv_T} {m : Nat → Nat → Int32} {n : Nat → Nat → Int64} {r : Nat → Value} (hT : TX T) (I : IV BB m) (x0 : Int32) (x1 : Int32) (x2 : Int32) (x3 : Int32) (t : Int → Int) (hp0 : LX m) (hp1 : LAWr m t (m 123 20).toInt.toNat) : PM g mX12_cheapest yX12_cheapest (sqI T BB (wl [(123, 123, some 40), (123, 123, some 41), (141, 141, none), (142, 142, none), (149, 149, none), (150, 150, none), (152, 152, none), (153, 153, none), (154, 154, none)]) r m (-2147483648) 2147483647 (fun m' v => CHPr ((0 ≤ x0.toInt ∧ x0.toInt < (m 123 0).toInt) ∧ (idr m x1).toInt = 1 ∧ (0 ≤ x2.toInt ∧ x2.toInt ≤ 7) ∧ -1 ≤ x3.toInt ∧ x3.toInt < (m 126 x1.toInt.toNat).toInt) m t x0.toInt.toNat x2.toInt (nu m x0.toInt 0).toNat (m 126 x1.toInt.toNat).toInt.toNat x1.toInt.toNat x3 v.toInt)) 6 0 0 [.ref 123, .int x0, .int x1, .int x2, .int x3] (mk T m n r) := by
  have Kp : fr (wl [(123, 123, some 40), (123, 123, some 41), (141, 141, none), (142, 142, none), (149, 149, none), (150, 150, none), (152, 152, none), (153, 153, none), (154, 154, none)]) m m := fr.rf
  have kLX := hp0
  have z34 : 0 ≤ (m 123 0).toInt ∧ (m 123 0).toInt ≤ 8 := I 123 0
  refine PM.of 1 (lo := [.ref 123, .int x0, .int x1, .int x2, .int x3, pv_U]) rfl (by decide) rfl rfl (Nat.le_of_ble_eq_true rfl) ?_
  refine pv_aload_n (M := mX12_cheapest) 0 dX12_cheapest_0 1 rfl rfl rfl ?_
  refine pv_iload_n (M := mX12_cheapest) 1 dX12_cheapest_1 2 rfl rfl rfl ?_
  refine pv_iload_n (M := mX12_cheapest) 2 dX12_cheapest_2 3 rfl rfl rfl ?_
  refine pv_callv (M := mX12_cheapest) (as := [.int x0, .int x1]) (st := []) (kc2 := 0) (ks2 := 0) dX12_cheapest_3 wd1554 YX12_isAsked ⟨wd1556, wd86⟩ (mk_get (tl123 hT)) rfl rfl (s_X12_isAsked_va g hT I x0 x1) rfl rfl (Nat.le_of_ble_eq_true rfl) (by decide) rfl rfl 6 rfl (fun rv h1 q1 => ?_)
  obtain ⟨v2, rfl, rfl, pv2, qv2, rv2⟩ := q1
  replace rv2 : (v2 = 0 ∨ ((0 ≤ x0.toInt ∧ x0.toInt ≤ 7) ∧ (0 ≤ x1.toInt ∧ x1.toInt ≤ 7))) ∧ ((v2.toInt = 1 ∧ (0 ≤ x0.toInt ∧ x0.toInt < (m 123 0).toInt) ∧ (idr m x1).toInt = 1) ∨ (v2.toInt = 0 ∧ ¬ ((0 ≤ x0.toInt ∧ x0.toInt < (m 123 0).toInt) ∧ (idr m x1).toInt = 1))) := rv2
  show PV _ _ _ _ _ _ _ 6 [.ref 123, .int x0, .int x1, .int x2, .int x3, pv_U] [.int v2] _
  have k6 := rv2.2
  refine pv_if_eq (M := mX12_cheapest) (tgt := 33) dX12_cheapest_6 9 rfl (by decide) (fun c4 => ?_) (fun c4 => ?_)
  · have c4 := iv_eq (X := v2.toInt) (Y := 0) c4 rfl (by decide)
    refine pv_iconst (M := mX12_cheapest) (v := (-1)) dX12_cheapest_33 34 rfl (by decide) ?_
    have z5 : ((-1) : Int32).toInt = (-1) := by decide
    exact pv_iret (M := mX12_cheapest) dX12_cheapest_34 rfl rfl ⟨_, _, _, rfl, rfl, I, Kp, by decide, by decide, (Or.inl ⟨by omega, by decide⟩)⟩
  · have pc4 := rv2.1.resolve_left c4
    have c4 := iv_ne (X := v2.toInt) (Y := 0) c4 rfl (by decide)
    refine pv_iload_n (M := mX12_cheapest) 3 dX12_cheapest_9 10 rfl rfl rfl ?_
    refine pv_calls (M := mX12_cheapest) (as := [.int x2]) (st := []) (kc2 := 0) (ks2 := 0) dX12_cheapest_10 wd1496 YX12_isClerk wd1497 (s_X12_isClerk_va g hT I x2) rfl rfl (Nat.le_of_ble_eq_true rfl) (by decide) rfl rfl 13 rfl (fun rv h1 q6 => ?_)
    obtain ⟨v7, rfl, rfl, pv7, qv7, rv7⟩ := q6
    replace rv7 : (v7 = 0 ∨ (0 ≤ x2.toInt ∧ x2.toInt ≤ 7)) ∧ ((v7.toInt = 1 ∧ 0 ≤ x2.toInt ∧ x2.toInt ≤ 7) ∨ (v7.toInt = 0 ∧ (x2.toInt < 0 ∨ 7 < x2.toInt))) := rv7
    show PV _ _ _ _ _ _ _ 13 [.ref 123, .int x0, .int x1, .int x2, .int x3, pv_U] [.int v7] _
    have k13 := rv7.2
    refine pv_if_eq (M := mX12_cheapest) (tgt := 33) dX12_cheapest_13 16 rfl (by decide) (fun c9 => ?_) (fun c9 => ?_)
    · have c9 := iv_eq (X := v7.toInt) (Y := 0) c9 rfl (by decide)
      refine pv_iconst (M := mX12_cheapest) (v := (-1)) dX12_cheapest_33 34 rfl (by decide) ?_
      have z10 : ((-1) : Int32).toInt = (-1) := by decide
      exact pv_iret (M := mX12_cheapest) dX12_cheapest_34 rfl rfl ⟨_, _, _, rfl, rfl, I, Kp, by decide, by decide, (Or.inl ⟨by omega, by decide⟩)⟩
    · have pc9 := rv7.1.resolve_left c9
      have c9 := iv_ne (X := v7.toInt) (Y := 0) c9 rfl (by decide)
      refine pv_iload (M := mX12_cheapest) dX12_cheapest_16 18 rfl rfl ?_
      refine pv_iconst (M := mX12_cheapest) (v := (-1)) dX12_cheapest_18 19 rfl (by decide) ?_
      refine pv_aload_n (M := mX12_cheapest) 0 dX12_cheapest_19 20 rfl rfl rfl ?_
      refine mv_get (M := mX12_cheapest) (v := .ref 126) dX12_cheapest_20 FX12 7 wd1180 (by decide) (tl123 hT) rfl rfl 23 rfl ?_
      refine pv_iload_n (M := mX12_cheapest) 2 dX12_cheapest_23 24 rfl rfl rfl ?_
      refine iv_iald (M := mX12_cheapest) (X := x1.toInt) (l1 := 0) (l2 := 16) dX12_cheapest_24 (tl126 hT) rfl (by omega) (by omega) I (fun _ => rfl) 25 rfl (fun v11 ev11 pv11 qv11 => ?_)
      have k25 : v11.toInt = (m 126 x1.toInt.toNat).toInt := congrArg Int32.toInt ev11
      refine pv_iconst (M := mX12_cheapest) (v := 1) dX12_cheapest_25 26 rfl (by decide) ?_
      refine iv_isub (M := mX12_cheapest) (X := v11.toInt) (Y := 1) dX12_cheapest_26 27 rfl rfl (by decide) (by omega) (by omega) (fun v13 ev13 => ?_)
      have z14 : ((-1) : Int32).toInt = (-1) := by decide
      refine pv_calls (M := mX12_cheapest) (as := [.int x3, .int (-1), .int v13]) (st := []) (kc2 := 0) (ks2 := 0) dX12_cheapest_27 wd1370 YX12_in wd1371 (s_X12_in_vx g hT I x3 (-1) v13) rfl rfl (Nat.le_of_ble_eq_true rfl) (by decide) rfl rfl 30 rfl (fun rv h1 q15 => ?_)
      obtain ⟨v16, rfl, rfl, pv16, qv16, rv16⟩ := q15
      replace rv16 : (v16 = 0 ∨ ((-1 : Int) ≤ x3.toInt ∧ x3.toInt ≤ v13.toInt)) ∧ ((v16.toInt = 1 ∧ (-1 : Int) ≤ x3.toInt ∧ x3.toInt ≤ v13.toInt) ∨ (v16.toInt = 0 ∧ (x3.toInt < (-1 : Int) ∨ v13.toInt < x3.toInt))) := by have q_ := rv16; (try rw [z14] at q_); exact q_
      show PV _ _ _ _ _ _ _ 30 [.ref 123, .int x0, .int x1, .int x2, .int x3, pv_U] [.int v16] _
      have k30 := rv16.2
      refine pv_if_ne (M := mX12_cheapest) (tgt := 35) dX12_cheapest_30 33 rfl (by decide) (fun c18 => ?_) (fun c18 => ?_)
      · have pc18 := rv16.1.resolve_left c18
        have c18 := iv_ne (X := v16.toInt) (Y := 0) c18 rfl (by decide)
        refine pv_aload_n (M := mX12_cheapest) 0 dX12_cheapest_35 36 rfl rfl rfl ?_
        refine pv_iload_n (M := mX12_cheapest) 1 dX12_cheapest_36 37 rfl rfl rfl ?_
        refine pv_iload_n (M := mX12_cheapest) 2 dX12_cheapest_37 38 rfl rfl rfl ?_
        refine pv_iload_n (M := mX12_cheapest) 3 dX12_cheapest_38 39 rfl rfl rfl ?_
        refine pv_callv (M := mX12_cheapest) (as := [.int x0, .int x1, .int x2]) (st := []) (kc2 := 0) (ks2 := 0) dX12_cheapest_39 wd1575 YX12_cheapestOf ⟨wd1577, wd90⟩ (mk_get (tl123 hT)) rfl rfl (s_X12_cheapestOf_va g hT I x0 (by omega) (by omega) x1 (by omega) (by omega) x2 t (by first | omega | assumption | exact (iv_rng _).2 | exact (iv_rng _).1 | decide) hp1) rfl rfl (Nat.le_of_ble_eq_true rfl) (by decide) rfl rfl 42 rfl (fun rv h1 q19 => ?_)
        obtain ⟨m20, n21, v24, rfl, rfl, I22, K23, pv24, qv24, rv24⟩ := q19
        replace rv24 : (m20 123 40).toInt = nu m x0.toInt 0 ∧ (m20 123 41).toInt = (m 126 x1.toInt.toNat).toInt ∧ CHE m m20 t x0.toInt.toNat x2.toInt (nu m x0.toInt 0).toNat (m 126 x1.toInt.toNat).toInt.toNat x1.toInt.toNat v24.toInt := rv24
        have K23c := K23
        have kLX : LX m20 := LX_eq kLX (K23c 123 20 rfl) (fun j => K23c 136 j rfl) (fun j => K23c 138 j rfl) (fun j => K23c 139 j rfl) (fun j => K23c 140 j rfl)
        have w25 : (m20 123 0).toInt = (m 123 0).toInt := congrArg Int32.toInt (K23 123 0 rfl)
        have K23 := Kp.trans (K23.sub (fun _ _ q => q))
        show PV _ _ _ _ _ _ _ 42 [.ref 123, .int x0, .int x1, .int x2, .int x3, pv_U] [.int v24] _
        have k42 := rv24
        refine pv_istore (M := mX12_cheapest) (lo2 := [.ref 123, .int x0, .int x1, .int x2, .int x3, .int v24]) dX12_cheapest_42 44 rfl (by decide) rfl rfl ?_
        refine pv_iload (M := mX12_cheapest) dX12_cheapest_44 46 rfl rfl ?_
        refine pv_bipush (M := mX12_cheapest) (v := (-2)) dX12_cheapest_46 48 rfl (by decide) ?_
        refine pv_icmp_eq (M := mX12_cheapest) (tgt := 57) dX12_cheapest_48 51 rfl (by decide) (fun c27 => ?_) (fun c27 => ?_)
        · have c27 := iv_eq (X := v24.toInt) (Y := (-2)) c27 rfl (by decide)
          refine pv_iload (M := mX12_cheapest) dX12_cheapest_57 59 rfl rfl ?_
          refine pv_goto (M := mX12_cheapest) (tgt := 69) dX12_cheapest_59 (by decide) ?_
          try have k69 : v24.toInt = (m20 154 x3.toInt.toNat).toInt := congrArg Int32.toInt ev24
          exact pv_iret (M := mX12_cheapest) dX12_cheapest_69 rfl rfl ⟨_, _, _, rfl, rfl, I22, K23, (iv_rng v24).1, (iv_rng v24).2, (by obtain ⟨k1, k2, kc, kr, kd, kCK, kRW, kDD, k3⟩ := k42; refine Or.inr ⟨by clear k3; omega, kc, m20 152, kr, kd, kCK, kRW, kDD, ?_⟩; rcases k3 with ⟨a1, a2⟩ | ⟨u, a1, a2, a3, a4⟩; (exact Or.inl ⟨a1, by omega⟩); (first | exact Or.inr ⟨u, (m20 154), a1, a4, a2, Or.inl ⟨by omega, by omega⟩⟩ | exact Or.inr ⟨u, (m20 154), a1, a4, a2, Or.inr ⟨by omega, k69⟩⟩))⟩
        · have c27 := iv_ne (X := v24.toInt) (Y := (-2)) c27 rfl (by decide)
          refine pv_iload (M := mX12_cheapest) dX12_cheapest_51 53 rfl rfl ?_
          refine pv_iconst (M := mX12_cheapest) (v := (-1)) dX12_cheapest_53 54 rfl (by decide) ?_
          refine pv_icmp_ne (M := mX12_cheapest) (tgt := 62) dX12_cheapest_54 57 rfl (by decide) (fun c29 => ?_) (fun c29 => ?_)
          · have c29 := iv_ne (X := x3.toInt) (Y := (-1)) c29 rfl (by decide)
            refine pv_aload_n (M := mX12_cheapest) 0 dX12_cheapest_62 63 rfl rfl rfl ?_
            refine mv_get (M := mX12_cheapest) (v := .ref 154) dX12_cheapest_63 FX12 47 wd1220 (by decide) (tl123 hT) rfl rfl 66 rfl ?_
            refine pv_iload (M := mX12_cheapest) dX12_cheapest_66 68 rfl rfl ?_
            refine iv_iald (M := mX12_cheapest) (X := x3.toInt) (l1 := 0) (l2 := 39) dX12_cheapest_68 (tl154 hT) rfl (by omega) (by omega) I22 (fun _ => rfl) 69 rfl (fun v30 ev30 pv30 qv30 => ?_)
            try have k69 : v30.toInt = (m20 154 x3.toInt.toNat).toInt := congrArg Int32.toInt ev30
            exact pv_iret (M := mX12_cheapest) dX12_cheapest_69 rfl rfl ⟨_, _, _, rfl, rfl, I22, K23, (iv_rng v30).1, (iv_rng v30).2, (by obtain ⟨k1, k2, kc, kr, kd, kCK, kRW, kDD, k3⟩ := k42; refine Or.inr ⟨by clear k3; omega, kc, m20 152, kr, kd, kCK, kRW, kDD, ?_⟩; rcases k3 with ⟨a1, a2⟩ | ⟨u, a1, a2, a3, a4⟩; (exact Or.inl ⟨a1, by omega⟩); (first | exact Or.inr ⟨u, (m20 154), a1, a4, a2, Or.inl ⟨by omega, by omega⟩⟩ | exact Or.inr ⟨u, (m20 154), a1, a4, a2, Or.inr ⟨by omega, k69⟩⟩))⟩
          · have c29 := iv_eq (X := x3.toInt) (Y := (-1)) c29 rfl (by decide)
            refine pv_iload (M := mX12_cheapest) dX12_cheapest_57 59 rfl rfl ?_
            refine pv_goto (M := mX12_cheapest) (tgt := 69) dX12_cheapest_59 (by decide) ?_
            try have k69 : v24.toInt = (m20 154 x3.toInt.toNat).toInt := congrArg Int32.toInt ev24
            exact pv_iret (M := mX12_cheapest) dX12_cheapest_69 rfl rfl ⟨_, _, _, rfl, rfl, I22, K23, (iv_rng v24).1, (iv_rng v24).2, (by obtain ⟨k1, k2, kc, kr, kd, kCK, kRW, kDD, k3⟩ := k42; refine Or.inr ⟨by clear k3; omega, kc, m20 152, kr, kd, kCK, kRW, kDD, ?_⟩; rcases k3 with ⟨a1, a2⟩ | ⟨u, a1, a2, a3, a4⟩; (exact Or.inl ⟨a1, by omega⟩); (first | exact Or.inr ⟨u, (m20 154), a1, a4, a2, Or.inl ⟨by omega, by omega⟩⟩ | exact Or.inr ⟨u, (m20 154), a1, a4, a2, Or.inr ⟨by omega, k69⟩⟩))⟩
      · have c18 := iv_eq (X := v16.toInt) (Y := 0) c18 rfl (by decide)
        refine pv_iconst (M := mX12_cheapest) (v := (-1)) dX12_cheapest_33 34 rfl (by decide) ?_
        have z33 : ((-1) : Int32).toInt = (-1) := by decide
        exact pv_iret (M := mX12_cheapest) dX12_cheapest_34 rfl rfl ⟨_, _, _, rfl, rfl, I, Kp, by decide, by decide, (Or.inl ⟨by omega, by decide⟩)⟩
