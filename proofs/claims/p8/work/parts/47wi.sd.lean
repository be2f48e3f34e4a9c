set_option maxHeartbeats 2000000 in
set_option maxRecDepth 20000 in
theorem s_X11_draw_va (g : pv_G) {T : List mv_T} {m : Nat → Nat → Int32} {n : Nat → Nat → Int64} {r : Nat → Value} {la lb : Nat} (hT : TX T) (I : IV BB m) (R : RX T r la lb) (x0 : Int32) (x1 : Int32) (t : Int → Int) (hp0 : RSA m) (hp1 : LAWc m la t (m la 7).toInt.toNat) : PM g mX11_draw yX11_draw (sqI T BB wO r m (-2147483648) 2147483647 (fun m' v => DRWP ((0 ≤ x0.toInt ∧ x0.toInt < (m 0 2).toInt) ∧ 1 ≤ x1.toInt ∧ x1.toInt ≤ 40) x1.toInt (fun M => (M ((4 + 7 * x0.toInt.toNat) + 3) 1).toInt ≤ 1) (fun k M v => DCc la t x0.toInt.toNat k m M v) (∀ a j, isR a j = true → m' a j = m a j) m' v.toInt)) 7 0 0 [.ref 0, .int x0, .int x1] (mk T m n r) := by
  have Kp : fr wO m m := fr.rf
  have R0 := R
  have zR := R.2.2.2.2.1.1
  have zR2 := R.2.2.2.2.2.1
  have z125 : 0 ≤ (m 97 6).toInt ∧ (m 97 6).toInt ≤ 60 := I 97 6
  refine PM.of 4 (lo := [.ref 0, .int x0, .int x1, pv_U, pv_U, pv_U, pv_U]) rfl (by decide) rfl rfl (Nat.le_of_ble_eq_true rfl) ?_
  refine pv_aload_n (M := mX11_draw) 0 dX11_draw_0 1 rfl rfl rfl ?_
  refine pv_iload_n (M := mX11_draw) 1 dX11_draw_1 2 rfl rfl rfl ?_
  refine pv_callv (M := mX11_draw) (as := [.int x0]) (st := []) (kc2 := 0) (ks2 := 0) dX11_draw_2 wd700 YX11_isBlank ⟨wd702, wd16⟩ (mk_get (tl0 hT)) rfl rfl (s_X11_isBlank_vx g hT I R x0) rfl rfl (Nat.le_of_ble_eq_true rfl) (by decide) rfl rfl 5 rfl (fun rv h1 q1 => ?_)
  obtain ⟨v2, rfl, rfl, pv2, qv2, rv2⟩ := q1
  replace rv2 : (v2 = 0 ∨ (0 ≤ x0.toInt ∧ x0.toInt ≤ 7)) ∧ ((v2.toInt = 1 ∧ 0 ≤ x0.toInt ∧ x0.toInt < (m 0 2).toInt) ∨ (v2.toInt = 0 ∧ (x0.toInt < 0 ∨ (m 0 2).toInt ≤ x0.toInt))) := rv2
  show PV _ _ _ _ _ _ _ 5 [.ref 0, .int x0, .int x1, pv_U, pv_U, pv_U, pv_U] [.int v2] _
  have k5 := rv2.2
  refine pv_if_eq (M := mX11_draw) (tgt := 19) dX11_draw_5 8 rfl (by decide) (fun c4 => ?_) (fun c4 => ?_)
  · have c4 := iv_eq (X := v2.toInt) (Y := 0) c4 rfl (by decide)
    refine pv_iconst (M := mX11_draw) (v := (-1)) dX11_draw_19 20 rfl (by decide) ?_
    have z5 : ((-1) : Int32).toInt = (-1) := by decide
    exact pv_iret (M := mX11_draw) dX11_draw_20 rfl rfl ⟨_, _, _, rfl, rfl, I, Kp, by decide, by decide, (Or.inl ⟨by omega, by decide, fun _ _ _ => rfl⟩)⟩
  · have pc4 := rv2.1.resolve_left c4
    have c4 := iv_ne (X := v2.toInt) (Y := 0) c4 rfl (by decide)
    refine pv_iload_n (M := mX11_draw) 2 dX11_draw_8 9 rfl rfl rfl ?_
    refine pv_iconst (M := mX11_draw) (v := 1) dX11_draw_9 10 rfl (by decide) ?_
    refine pv_icmp_lt (M := mX11_draw) (tgt := 19) dX11_draw_10 13 rfl (by decide) (fun c6 => ?_) (fun c6 => ?_)
    · have c6 := iv_lt (X := x1.toInt) (Y := 1) c6 rfl (by decide)
      refine pv_iconst (M := mX11_draw) (v := (-1)) dX11_draw_19 20 rfl (by decide) ?_
      have z7 : ((-1) : Int32).toInt = (-1) := by decide
      exact pv_iret (M := mX11_draw) dX11_draw_20 rfl rfl ⟨_, _, _, rfl, rfl, I, Kp, by decide, by decide, (Or.inl ⟨by omega, by decide, fun _ _ _ => rfl⟩)⟩
    · have c6 := iv_nlt (X := x1.toInt) (Y := 1) c6 rfl (by decide)
      refine pv_iload_n (M := mX11_draw) 2 dX11_draw_13 14 rfl rfl rfl ?_
      refine pv_bipush (M := mX11_draw) (v := 40) dX11_draw_14 16 rfl (by decide) ?_
      refine pv_icmp_le (M := mX11_draw) (tgt := 21) dX11_draw_16 19 rfl (by decide) (fun c8 => ?_) (fun c8 => ?_)
      · have c8 := iv_le (X := x1.toInt) (Y := 40) c8 rfl (by decide)
        refine pv_iconst (M := mX11_draw) (v := 0) dX11_draw_21 22 rfl (by decide) ?_
        refine pv_istore_n (M := mX11_draw) 3 (lo2 := [.ref 0, .int x0, .int x1, .int 0, pv_U, pv_U, pv_U]) dX11_draw_22 23 rfl rfl (by decide) rfl rfl ?_
        refine pv_iconst (M := mX11_draw) (v := 0) dX11_draw_23 24 rfl (by decide) ?_
        refine pv_istore (M := mX11_draw) (lo2 := [.ref 0, .int x0, .int x1, .int 0, .int 0, pv_U, pv_U]) dX11_draw_24 26 rfl (by decide) rfl rfl ?_
        have lp16 : ∀ (fuel15 : Nat) (y9 : Int32) (y10 : Int32) (m11 : Nat → Nat → Int32) (n12 : Nat → Nat → Int64), (0 ≤ y9.toInt) → (y9.toInt ≤ 40) → (0 ≤ y10.toInt) → (y10.toInt ≤ 40) → (y10.toInt ≤ x1.toInt) → (y9.toInt ≤ y10.toInt) → (DCc la t x0.toInt.toNat y10.toInt.toNat m m11 y9.toInt) → (RST m11 (4 + 7 * x0.toInt.toNat)) → IV BB m11 → fr wO m m11 → ((40 - y10.toInt) : Int).toNat < fuel15 → PV none g mX11_draw (sqI T BB wO r m (-2147483648) 2147483647 (fun m' v => DRWP ((0 ≤ x0.toInt ∧ x0.toInt < (m 0 2).toInt) ∧ 1 ≤ x1.toInt ∧ x1.toInt ≤ 40) x1.toInt (fun M => (M ((4 + 7 * x0.toInt.toNat) + 3) 1).toInt ≤ 1) (fun k M v => DCc la t x0.toInt.toNat k m M v) (∀ a j, isR a j = true → m' a j = m a j) m' v.toInt)) 7 0 0 26 [.ref 0, .int x0, .int x1, .int y9, .int y10, pv_U, pv_U] [] (mk T m11 n12 r) := by
          intro fuel15
          induction fuel15 with
          | zero => intro y9 y10 m11 n12 b18 b19 b20 b21 b22 b23 b24 b25 I13 K14 z26; omega
          | succ fuel15 ih17 =>
            intro y9 y10 m11 n12 b18 b19 b20 b21 b22 b23 b24 b25 I13 K14 z26
            have z27 : 0 ≤ (m11 97 6).toInt ∧ (m11 97 6).toInt ≤ 60 := I13 97 6
            have kgD := (show DCc la t x0.toInt.toNat y10.toInt.toNat m m11 y9.toInt by assumption)
            have kgR := (show RST m11 (4 + 7 * x0.toInt.toNat) by assumption)
            have kgl : LAWc m11 la t (m11 la 7).toInt.toNat := by rw [show m11 la 7 = m la 7 from K14 la 7 (wO_l7 zR)]; exact LAWc_m hp1 (K14 la 2 (wO_l2 zR)) (fun a j h1 h2 => K14 a j (wO_la zR h1 h2))
            have kI97 : 0 ≤ (m11 97 6).toInt := (I13 97 6).1
            refine pv_iload (M := mX11_draw) dX11_draw_26 28 rfl rfl ?_
            refine pv_iload_n (M := mX11_draw) 2 dX11_draw_28 29 rfl rfl rfl ?_
            refine pv_icmp_ge (M := mX11_draw) (tgt := 153) dX11_draw_29 32 rfl (by decide) (fun c32 => ?_) (fun c32 => ?_)
            · have c32 := iv_le (X := x1.toInt) (Y := y10.toInt) c32 rfl rfl
              refine pv_iload_n (M := mX11_draw) 3 dX11_draw_153 154 rfl rfl rfl ?_
              exact pv_iret (M := mX11_draw) dX11_draw_154 rfl rfl ⟨_, _, _, rfl, rfl, I13, K14, (iv_rng y9).1, (iv_rng y9).2, (Or.inr ⟨by omega, y10.toInt.toNat, by omega, by first | exact Or.inl (by omega) | exact Or.inr (by omega), kgD⟩)⟩
            · have c32 := iv_nle (X := x1.toInt) (Y := y10.toInt) c32 rfl rfl
              refine pv_aload_n (M := mX11_draw) 0 dX11_draw_32 33 rfl rfl rfl ?_
              refine mv_get (M := mX11_draw) (v := .ref 3) dX11_draw_33 FX11 1 wd408 (by decide) (tl0 hT) rfl rfl 36 rfl ?_
              refine pv_iload_n (M := mX11_draw) 1 dX11_draw_36 37 rfl rfl rfl ?_
              refine iv_qblank (M := mX11_draw) (X := x0.toInt) dX11_draw_37 hT R rfl (by omega) (by omega) 38 rfl (fun b33 eb33 hb33 => ?_)
              have zb33 := hb33.2.2.2.2.2.2.2
              refine mv_get (M := mX11_draw) (v := .ref (b33 + 3)) dX11_draw_38 FX0 1 wd210 (by decide) hb33.1 rfl rfl 41 rfl ?_
              refine iv_get (M := mX11_draw) (l1 := 0) (l2 := 40) dX11_draw_41 FX8 1 wd200 (by decide) hb33.2.2.1.1 rfl I13 hb33.2.2.1.2.2.1 44 rfl (fun v34 ev34 pv34 qv34 => ?_)
              have kf := ev34
              have k44 : v34.toInt = (m11 ((4 + 7 * x0.toInt.toNat) + 3) 1).toInt := (congrArg Int32.toInt ev34).trans (congrArg (fun z => (m11 z 1).toInt) (by omega))
              refine pv_iconst (M := mX11_draw) (v := 1) dX11_draw_44 45 rfl (by decide) ?_
              refine pv_icmp_le (M := mX11_draw) (tgt := 153) dX11_draw_45 48 rfl (by decide) (fun c37 => ?_) (fun c37 => ?_)
              · have c37 := iv_le (X := v34.toInt) (Y := 1) c37 rfl (by decide)
                refine pv_iload_n (M := mX11_draw) 3 dX11_draw_153 154 rfl rfl rfl ?_
                exact pv_iret (M := mX11_draw) dX11_draw_154 rfl rfl ⟨_, _, _, rfl, rfl, I13, K14, (iv_rng y9).1, (iv_rng y9).2, (Or.inr ⟨by omega, y10.toInt.toNat, by omega, by first | exact Or.inl (by omega) | exact Or.inr (by omega), kgD⟩)⟩
              · have c37 := iv_nle (X := v34.toInt) (Y := 1) c37 rfl (by decide)
                refine pv_aload_n (M := mX11_draw) 0 dX11_draw_48 49 rfl rfl rfl ?_
                refine pv_sipush (M := mX11_draw) (v := 25173) dX11_draw_49 52 rfl (by decide) ?_
                refine pv_aload_n (M := mX11_draw) 0 dX11_draw_52 53 rfl rfl rfl ?_
                refine iv_get (M := mX11_draw) (l1 := 0) (l2 := 65535) dX11_draw_53 FX11 8 wd415 (by decide) (tl0 hT) rfl I13 rfl 56 rfl (fun v38 ev38 pv38 qv38 => ?_)
                have k56 : v38.toInt = (m11 0 8).toInt := congrArg Int32.toInt ev38
                refine iv_imul (M := mX11_draw) (X := 25173) (Y := v38.toInt) dX11_draw_56 57 rfl (by decide) rfl (by omega) (by omega) (fun v40 ev40 => ?_)
                refine pv_sipush (M := mX11_draw) (v := 13849) dX11_draw_57 60 rfl (by decide) ?_
                refine iv_iadd (M := mX11_draw) (X := v40.toInt) (Y := 13849) dX11_draw_60 61 rfl rfl (by decide) (by omega) (by omega) (fun v41 ev41 => ?_)
                refine pv_ldcw (M := mX11_draw) (v := 65535) dX11_draw_61 64 rfl wd1150 ?_
                have k64 : v41.toInt = 25173 * (m11 0 8).toInt + 13849 := by omega
                refine iv_iandm (M := mX11_draw) dX11_draw_64 65 rfl 16 (by decide) (by decide) (fun v43 ev43 pv43 qv43 => ?_)
                have qv43 : v43.toInt < 65536 := qv43
                have k65 : v43.toInt = (25173 * (m11 0 8).toInt + 13849) % 65536 := by rw [ev43, and65535, k64]
                refine iv_put (M := mX11_draw) (l1 := 0) (l2 := 65535) dX11_draw_65 FX11 8 wd415 (by decide) rfl (tl0 hT) rfl rfl rfl I13 rfl (by omega) (by omega) 68 rfl (fun m45 e48 I46 => ?_)
                have K47 := K14.set e48 (by first | rfl | decide)
                have w49 : (m45 97 6).toInt = (m11 97 6).toInt := by rw [e48, up2_ne (by omega)]
                have k68 : (m45 0 8).toInt = (25173 * (m11 0 8).toInt + 13849) % 65536 := by rw [e48, up2_at rfl]; exact k65
                have kf68 : ∀ a i, ¬ (a = 0 ∧ i = 8) → m45 a i = m11 a i := fun a i q => by rw [e48, up2_ne q]
                refine pv_aload_n (M := mX11_draw) 0 dX11_draw_68 69 rfl rfl rfl ?_
                refine iv_get (M := mX11_draw) (l1 := 0) (l2 := 65535) dX11_draw_69 FX11 8 wd415 (by decide) (tl0 hT) rfl I46 rfl 72 rfl (fun v52 ev52 pv52 qv52 => ?_)
                have k72 : v52.toInt = (m45 0 8).toInt := congrArg Int32.toInt ev52
                refine pv_aload_n (M := mX11_draw) 0 dX11_draw_72 73 rfl rfl rfl ?_
                refine mv_get (M := mX11_draw) (v := .ref 3) dX11_draw_73 FX11 1 wd408 (by decide) (tl0 hT) rfl rfl 76 rfl ?_
                refine pv_iload_n (M := mX11_draw) 1 dX11_draw_76 77 rfl rfl rfl ?_
                refine iv_qblank (M := mX11_draw) (X := x0.toInt) dX11_draw_77 hT R rfl (by omega) (by omega) 78 rfl (fun b54 eb54 hb54 => ?_)
                have zb54 := hb54.2.2.2.2.2.2.2
                refine mv_get (M := mX11_draw) (v := .ref (b54 + 3)) dX11_draw_78 FX0 1 wd210 (by decide) hb54.1 rfl rfl 81 rfl ?_
                refine iv_get (M := mX11_draw) (l1 := 0) (l2 := 40) dX11_draw_81 FX8 1 wd200 (by decide) hb54.2.2.1.1 rfl I46 hb54.2.2.1.2.2.1 84 rfl (fun v55 ev55 pv55 qv55 => ?_)
                have k84 : v55.toInt = _ := congrArg Int32.toInt (rd2 (ev55.trans (st_off e48 (by omega) _)) kf (by omega))
                have k84i : v55.toInt = (m11 ((4 + 7 * x0.toInt.toNat) + 3) 1).toInt := by omega
                refine iv_irem (M := mX11_draw) (X := v52.toInt) (Y := v55.toInt) dX11_draw_84 85 rfl rfl rfl (by omega) (by omega) (fun v58 ev58 => ?_)
                have bv58 : 0 ≤ v58.toInt ∧ v58.toInt < v55.toInt := ⟨by rw [ev58]; exact Int.emod_nonneg _ (by omega), by rw [ev58]; exact Int.emod_lt_of_pos _ (by omega)⟩
                have k85 : v58.toInt = (m45 0 8).toInt % (m11 ((4 + 7 * x0.toInt.toNat) + 3) 1).toInt := by rw [ev58, k72, k84i]
                refine pv_istore (M := mX11_draw) (lo2 := [.ref 0, .int x0, .int x1, .int y9, .int y10, .int v58, pv_U]) dX11_draw_85 87 rfl (by decide) rfl rfl ?_
                refine pv_aload_n (M := mX11_draw) 0 dX11_draw_87 88 rfl rfl rfl ?_
                refine iv_get (M := mX11_draw) (l1 := 0) (l2 := 65535) dX11_draw_88 FX11 8 wd415 (by decide) (tl0 hT) rfl I46 rfl 91 rfl (fun v60 ev60 pv60 qv60 => ?_)
                have k91 : v60.toInt = (m45 0 8).toInt := congrArg Int32.toInt ev60
                refine pv_bipush (M := mX11_draw) (v := 8) dX11_draw_91 93 rfl (by decide) ?_
                refine iv_irem (M := mX11_draw) (X := v60.toInt) (Y := 8) dX11_draw_93 94 rfl rfl (by decide) (by omega) (by omega) (fun v62 ev62 => ?_)
                have k94 : v62.toInt = (m45 0 8).toInt % 8 := by rw [ev62, k91]
                refine pv_istore (M := mX11_draw) (lo2 := [.ref 0, .int x0, .int x1, .int y9, .int y10, .int v58, .int v62]) dX11_draw_94 96 rfl (by decide) rfl rfl ?_
                refine pv_aload_n (M := mX11_draw) 0 dX11_draw_96 97 rfl rfl rfl ?_
                refine pv_iload_n (M := mX11_draw) 1 dX11_draw_97 98 rfl rfl rfl ?_
                refine pv_iload (M := mX11_draw) dX11_draw_98 100 rfl rfl ?_
                refine pv_iload (M := mX11_draw) dX11_draw_100 102 rfl rfl ?_
                refine pv_iconst (M := mX11_draw) (v := 1) dX11_draw_102 103 rfl (by decide) ?_
                refine iv_iadd (M := mX11_draw) (X := v58.toInt) (Y := 1) dX11_draw_103 104 rfl rfl (by decide) (by omega) (by omega) (fun v64 ev64 => ?_)
                refine pv_iload (M := mX11_draw) dX11_draw_104 106 rfl rfl ?_
                have k106 : RST m45 (4 + 7 * x0.toInt.toNat) := RST_eq kgR (fun a j h1 h2 => kf68 a j (by omega))
                have k106l : LAWc m45 la t (m45 la 7).toInt.toNat := by rw [kf68 la 7 (by omega)]; exact LAWc_m kgl (kf68 la 2 (by omega)) (fun a j h1 h2 => kf68 a j (by omega))
                have k106s : ((m45 ((4 + 7 * x0.toInt.toNat) + 3) 1).toInt) = (m11 ((4 + 7 * x0.toInt.toNat) + 3) 1).toInt := by rw [kf68 _ 1 (by omega)]
                refine pv_callv (M := mX11_draw) (as := [.int x0, .int v58, .int v64, .int v62]) (st := []) (kc2 := 0) (ks2 := 0) dX11_draw_106 wd719 YX11_askLaw ⟨wd721, wd17⟩ (mk_get (tl0 hT)) rfl rfl (s_X11_askLaw_va g hT I46 R x0 (by omega) (by omega) v58 (by omega) (by omega) v64 (by omega) (by omega) v62 (by omega) (by omega) t k106 k106l (by omega)) rfl rfl (Nat.le_of_ble_eq_true rfl) (by decide) rfl rfl 109 rfl (fun rv h1 q68 => ?_)
                obtain ⟨m69, n70, rfl, rfl, I71, K72, rm69⟩ := q68
                replace rm69 : ∀ p : Nat, v58.toInt ≤ (p : Int) → (p : Int) < v64.toInt → ASK m45 la t x0.toInt.toNat p v62.toInt (m69 108 p) (m69 109 p) := rm69
                have K72c := K72
                have K72 := K47.trans (K72.sub (by first | exact wg_l (by decide) | exact wg_g (by decide) | exact wS3_wO | exact bl_wg (by omega) (by omega) (by omega) (by decide)))
                show PV _ _ _ _ _ _ _ 109 [.ref 0, .int x0, .int x1, .int y9, .int y10, .int v58, .int v62] [] _
                have k109 := ASK_m (rm69 v58.toInt.toNat (by omega) (by omega)) (by omega) (fun a i h1 h2 => kf68 a i (by omega)) (kf68 0 7 (by omega)) (kf68 la 7 (by omega))
                have kf109 : fr wN m45 m69 := K72c
                have k109p : v58.toInt.toNat = ((m45 0 8).toInt % (m11 ((4 + 7 * x0.toInt.toNat) + 3) 1).toInt).toNat := by rw [← k85]
                have k109c : v62.toInt = (m45 0 8).toInt % 8 := k94
                have k109d : m69 0 8 = m45 0 8 := kf109 0 8 rfl
                have kf9 : ∀ a i, isR a i = true → ¬ (a = 0 ∧ i = 8) → m69 a i = m11 a i := fun a i h1 h2 => (kf109 a i (wN_isR h1)).trans (kf68 a i h2)
                refine pv_aload_n (M := mX11_draw) 0 dX11_draw_109 110 rfl rfl rfl ?_
                refine mv_get (M := mX11_draw) (v := .ref 107) dX11_draw_110 FX11 10 wd417 (by decide) (tl0 hT) rfl rfl 113 rfl ?_
                refine mv_get (M := mX11_draw) (v := .ref 108) dX11_draw_113 FX2 0 wd347 (by decide) (tl107 hT) rfl rfl 116 rfl ?_
                refine pv_iload (M := mX11_draw) dX11_draw_116 118 rfl rfl ?_
                refine iv_zald (M := mX11_draw) (X := v58.toInt) (l1 := 0) (l2 := 1) dX11_draw_118 (tl108 hT) rfl (by omega) (by omega) I71 (fun _ => rfl) 119 rfl (fun v79 ev79 pv79 qv79 => ?_)
                have k119 := k109.1
                rw [← show v79 = m69 108 v58.toInt.toNat from ev79] at k119
                refine pv_if_eq (M := mX11_draw) (tgt := 147) dX11_draw_119 122 rfl (by decide) (fun c82 => ?_) (fun c82 => ?_)
                · have c82 := iv_eq (X := v79.toInt) (Y := 0) c82 rfl (by decide)
                  have k147o : fr wO m11 m69 := fr.trans (fun a i q => kf68 a i (fun z => by obtain ⟨z1, z2⟩ := z; subst z1; subst z2; exact absurd q (by decide))) (kf109.sub (fun a i q => wg_g (by decide) a i q))
                  have k147 : DSc m11 m69 la t x0.toInt.toNat y9.toInt y9.toInt := by first | exact ⟨by omega, by rw [k143d]; exact k68, k143o, Or.inl ⟨by rw [k143d, ← k109p, ← k109c]; exact (k119.resolve_right (fun q => by have q1 := q.1; omega)).2, by omega, ⟨v62, _, by rw [k143d]; exact k109c, by rw [k143d, ← k109p, ← k109c]; exact k143v, by rw [k143d, ← k109p]; exact k143k⟩, by omega⟩⟩ | exact ⟨by omega, by rw [k109d]; exact k68, k147o, Or.inr ⟨by rw [k109d, ← k109p, ← k109c]; first | exact Or.inl (k119.resolve_left (fun q => by have q1 := q.1; omega)).2 | exact Or.inr (by omega), kf9, by omega⟩⟩
                  have k147R : RST m69 (4 + 7 * x0.toInt.toNat) := by first | exact k143.2.2.2.2.2.2.2.2.2.2.2.2 | exact RST_eq kgR (fun a j h1 h2 => kf9 a j (isR_lo (by omega) (by omega)) (by omega))
                  refine iv_inc (M := mX11_draw) (C := 1) dX11_draw_147 150 rfl rfl (by decide) rfl rfl (by decide) (by omega) (by omega) (fun v86 ev86 => ?_)
                  show PV _ _ _ _ _ _ _ 150 [.ref 0, .int x0, .int x1, .int y9, .int v86, .int v58, .int v62] [] _
                  refine pv_goto (M := mX11_draw) (tgt := 26) dX11_draw_150 (by decide) ?_
                  refine pv_fg (lo2 := [.ref 0, .int x0, .int x1, .int y9, .int v86, pv_U, pv_U]) ⟨Or.inr rfl, ⟨Or.inr rfl, ⟨Or.inr rfl, ⟨Or.inr rfl, ⟨Or.inr rfl, ⟨Or.inl rfl, ⟨Or.inl rfl, trivial⟩⟩⟩⟩⟩⟩⟩ ?_
                  have kbD : DCc la t x0.toInt.toNat v86.toInt.toNat m m69 y9.toInt := DCc_s kgD k147 (by omega)
                  have kbR := k147R
                  exact ih17 y9 v86 m69 n70 (by first | omega | assumption | exact (iv_rng _).2 | exact (iv_rng _).1 | decide) (by first | omega | assumption | exact (iv_rng _).2 | exact (iv_rng _).1 | decide) (by first | omega | assumption | exact (iv_rng _).2 | exact (iv_rng _).1 | decide) (by first | omega | assumption | exact (iv_rng _).2 | exact (iv_rng _).1 | decide) (by first | omega | assumption | (show v86.toInt ≤ x1.toInt; omega) | decide) (by first | omega | assumption | (show y9.toInt ≤ v86.toInt; omega) | decide) kbD kbR I71 K72 (by omega)
                · have c82 := iv_ne (X := v79.toInt) (Y := 0) c82 rfl (by decide)
                  refine pv_aload_n (M := mX11_draw) 0 dX11_draw_122 123 rfl rfl rfl ?_
                  refine mv_get (M := mX11_draw) (v := .ref 97) dX11_draw_123 FX11 6 wd413 (by decide) (tl0 hT) rfl rfl 126 rfl ?_
                  refine pv_iconst (M := mX11_draw) (v := 1) dX11_draw_126 127 rfl (by decide) ?_
                  have z89 : (1 : Int32).toInt = 1 := by decide
                  refine pv_callv (M := mX11_draw) (as := [.int 1]) (st := []) (kc2 := 0) (ks2 := 0) dX11_draw_127 wd773 YX1_hasRoom ⟨wd774, wd775⟩ (mk_get (tl97 hT)) rfl rfl (s_X1_hasRoom_va g hT I71 1 (by decide) (by decide)) rfl rfl (Nat.le_of_ble_eq_true rfl) (by decide) rfl rfl 130 rfl (fun rv h1 q90 => ?_)
                  obtain ⟨v91, rfl, rfl, pv91, qv91, rv91⟩ := q90
                  replace rv91 : (v91.toInt = 1 ∧ (m69 97 6).toInt + (1 : Int) ≤ 60) ∨ (v91.toInt = 0 ∧ 60 < (m69 97 6).toInt + (1 : Int)) := by have q_ := rv91; (try rw [z89] at q_); exact q_
                  show PV _ _ _ _ _ _ _ 130 [.ref 0, .int x0, .int x1, .int y9, .int y10, .int v58, .int v62] [.int v91] _
                  have k130 := rv91
                  have k130s : (m69 97 6).toInt = (m11 97 6).toInt := congrArg Int32.toInt (kf9 97 6 rfl (by omega))
                  refine pv_if_eq (M := mX11_draw) (tgt := 147) dX11_draw_130 133 rfl (by decide) (fun c94 => ?_) (fun c94 => ?_)
                  · have c94 := iv_eq (X := v91.toInt) (Y := 0) c94 rfl (by decide)
                    have k147o : fr wO m11 m69 := fr.trans (fun a i q => kf68 a i (fun z => by obtain ⟨z1, z2⟩ := z; subst z1; subst z2; exact absurd q (by decide))) (kf109.sub (fun a i q => wg_g (by decide) a i q))
                    have k147 : DSc m11 m69 la t x0.toInt.toNat y9.toInt y9.toInt := by first | exact ⟨by omega, by rw [k143d]; exact k68, k143o, Or.inl ⟨by rw [k143d, ← k109p, ← k109c]; exact (k119.resolve_right (fun q => by have q1 := q.1; omega)).2, by omega, ⟨v62, _, by rw [k143d]; exact k109c, by rw [k143d, ← k109p, ← k109c]; exact k143v, by rw [k143d, ← k109p]; exact k143k⟩, by omega⟩⟩ | exact ⟨by omega, by rw [k109d]; exact k68, k147o, Or.inr ⟨by rw [k109d, ← k109p, ← k109c]; first | exact Or.inl (k119.resolve_left (fun q => by have q1 := q.1; omega)).2 | exact Or.inr (by omega), kf9, by omega⟩⟩
                    have k147R : RST m69 (4 + 7 * x0.toInt.toNat) := by first | exact k143.2.2.2.2.2.2.2.2.2.2.2.2 | exact RST_eq kgR (fun a j h1 h2 => kf9 a j (isR_lo (by omega) (by omega)) (by omega))
                    refine iv_inc (M := mX11_draw) (C := 1) dX11_draw_147 150 rfl rfl (by decide) rfl rfl (by decide) (by omega) (by omega) (fun v98 ev98 => ?_)
                    show PV _ _ _ _ _ _ _ 150 [.ref 0, .int x0, .int x1, .int y9, .int v98, .int v58, .int v62] [] _
                    refine pv_goto (M := mX11_draw) (tgt := 26) dX11_draw_150 (by decide) ?_
                    refine pv_fg (lo2 := [.ref 0, .int x0, .int x1, .int y9, .int v98, pv_U, pv_U]) ⟨Or.inr rfl, ⟨Or.inr rfl, ⟨Or.inr rfl, ⟨Or.inr rfl, ⟨Or.inr rfl, ⟨Or.inl rfl, ⟨Or.inl rfl, trivial⟩⟩⟩⟩⟩⟩⟩ ?_
                    have kbD : DCc la t x0.toInt.toNat v98.toInt.toNat m m69 y9.toInt := DCc_s kgD k147 (by omega)
                    have kbR := k147R
                    exact ih17 y9 v98 m69 n70 (by first | omega | assumption | exact (iv_rng _).2 | exact (iv_rng _).1 | decide) (by first | omega | assumption | exact (iv_rng _).2 | exact (iv_rng _).1 | decide) (by first | omega | assumption | exact (iv_rng _).2 | exact (iv_rng _).1 | decide) (by first | omega | assumption | exact (iv_rng _).2 | exact (iv_rng _).1 | decide) (by first | omega | assumption | (show v98.toInt ≤ x1.toInt; omega) | decide) (by first | omega | assumption | (show y9.toInt ≤ v98.toInt; omega) | decide) kbD kbR I71 K72 (by omega)
                  · have c94 := iv_ne (X := v91.toInt) (Y := 0) c94 rfl (by decide)
                    refine pv_aload_n (M := mX11_draw) 0 dX11_draw_133 134 rfl rfl rfl ?_
                    refine pv_iload_n (M := mX11_draw) 1 dX11_draw_134 135 rfl rfl rfl ?_
                    refine pv_iload (M := mX11_draw) dX11_draw_135 137 rfl rfl ?_
                    refine pv_iconst (M := mX11_draw) (v := 1) dX11_draw_137 138 rfl (by decide) ?_
                    refine pv_iload (M := mX11_draw) dX11_draw_138 140 rfl rfl ?_
                    have k140 : RST m69 (4 + 7 * x0.toInt.toNat) := RST_eq kgR (fun a j h1 h2 => kf9 a j (isR_lo (by omega) (by omega)) (by omega))
                    have k140s : (m69 ((4 + 7 * x0.toInt.toNat) + 3) 1).toInt = (m11 ((4 + 7 * x0.toInt.toNat) + 3) 1).toInt := by rw [kf9 _ 1 (isR_lo (by omega) (by omega)) (by omega)]
                    have z103 : (1 : Int32).toInt = 1 := by decide
                    refine pv_callv (M := mX11_draw) (as := [.int x0, .int v58, .int 1, .int v62]) (st := []) (kc2 := 0) (ks2 := 0) dX11_draw_140 wd777 YX11_writeStroke ⟨wd779, wd23⟩ (mk_get (tl0 hT)) rfl rfl (s_X11_writeStroke_va g hT I71 R x0 (by omega) (by omega) v58 (by omega) (by omega) 1 (by decide) (by decide) v62 (by omega) k140 (by omega)) rfl rfl (Nat.le_of_ble_eq_true rfl) (by decide) rfl rfl 143 rfl (fun rv h1 q104 => ?_)
                    obtain ⟨m105, n106, v109, rfl, rfl, I107, K108, pv109, qv109, rv109⟩ := q104
                    replace rv109 : v109 = smc (fun i => m69 109 (v58.toInt.toNat + i)) (1 : Int).toNat ∧ STKc m69 m105 (4 + 7 * x0.toInt.toNat) x0.toInt.toNat v58.toInt.toNat (1 : Int).toNat v62 v109 := by have q_ := rv109; (try rw [z103] at q_); exact q_
                    have K108c := K108
                    have K108 := K72.trans (K108.sub (by first | exact wg_l (by decide) | exact wg_g (by decide) | exact wS3_wO | exact bl_wg (by omega) (by omega) (by omega) (by decide)))
                    show PV _ _ _ _ _ _ _ 143 [.ref 0, .int x0, .int x1, .int y9, .int y10, .int v58, .int v62] [.int v109] _
                    have k143 := rv109
                    have k143k : STKc m11 m105 (4 + 7 * x0.toInt.toNat) x0.toInt.toNat v58.toInt.toNat 1 v62 v109 := STKc_m k143.2 (by omega) (fun a i q => q.elim (fun q => kf9 a i (isR_lo q.1 q.2) (by omega)) (fun q => kf9 a i (isR_bk q.1 q.2) (by omega))) ((kf109 0 7 rfl).trans (kf68 0 7 (by omega))) (by omega)
                    have k143v : PRc m11 la t x0.toInt.toNat v58.toInt.toNat v62.toInt v109 := by rw [show v109 = m69 109 v58.toInt.toNat from (k143.1.trans (smc_1 rfl))]; exact k109.2
                    have k143d : m105 0 8 = m45 0 8 := (K108c 0 8 rfl).trans k109d
                    have k143o : fr wO m11 m105 := (fr.trans (fr.trans (fun a i q => kf68 a i (fun z => by obtain ⟨z1, z2⟩ := z; subst z1; subst z2; exact absurd q (by decide))) (kf109.sub (fun a i q => wg_g (by decide) a i q))) ((K108c).sub wS3_wO))
                    refine pv_pop (M := mX11_draw) dX11_draw_143 144 rfl rfl ?_
                    refine iv_inc (M := mX11_draw) (C := 1) dX11_draw_144 147 rfl rfl (by decide) rfl rfl (by decide) (by omega) (by omega) (fun v115 ev115 => ?_)
                    show PV _ _ _ _ _ _ _ 147 [.ref 0, .int x0, .int x1, .int v115, .int y10, .int v58, .int v62] [] _
                    have k147o : fr wO m11 m69 := fr.trans (fun a i q => kf68 a i (fun z => by obtain ⟨z1, z2⟩ := z; subst z1; subst z2; exact absurd q (by decide))) (kf109.sub (fun a i q => wg_g (by decide) a i q))
                    have k147 : DSc m11 m105 la t x0.toInt.toNat y9.toInt v115.toInt := by first | exact ⟨by omega, by rw [k143d]; exact k68, k143o, Or.inl ⟨by rw [k143d, ← k109p, ← k109c]; exact (k119.resolve_right (fun q => by have q1 := q.1; omega)).2, by omega, ⟨v62, _, by rw [k143d]; exact k109c, by rw [k143d, ← k109p, ← k109c]; exact k143v, by rw [k143d, ← k109p]; exact k143k⟩, by omega⟩⟩ | exact ⟨by omega, by rw [k109d]; exact k68, k147o, Or.inr ⟨by rw [k109d, ← k109p, ← k109c]; first | exact Or.inl (k119.resolve_left (fun q => by have q1 := q.1; omega)).2 | exact Or.inr (by omega), kf9, by omega⟩⟩
                    have k147R : RST m105 (4 + 7 * x0.toInt.toNat) := by first | exact k143.2.2.2.2.2.2.2.2.2.2.2.2 | exact RST_eq kgR (fun a j h1 h2 => kf9 a j (isR_lo (by omega) (by omega)) (by omega))
                    refine iv_inc (M := mX11_draw) (C := 1) dX11_draw_147 150 rfl rfl (by decide) rfl rfl (by decide) (by omega) (by omega) (fun v119 ev119 => ?_)
                    show PV _ _ _ _ _ _ _ 150 [.ref 0, .int x0, .int x1, .int v115, .int v119, .int v58, .int v62] [] _
                    refine pv_goto (M := mX11_draw) (tgt := 26) dX11_draw_150 (by decide) ?_
                    refine pv_fg (lo2 := [.ref 0, .int x0, .int x1, .int v115, .int v119, pv_U, pv_U]) ⟨Or.inr rfl, ⟨Or.inr rfl, ⟨Or.inr rfl, ⟨Or.inr rfl, ⟨Or.inr rfl, ⟨Or.inl rfl, ⟨Or.inl rfl, trivial⟩⟩⟩⟩⟩⟩⟩ ?_
                    have kbD : DCc la t x0.toInt.toNat v119.toInt.toNat m m105 v115.toInt := DCc_s kgD k147 (by omega)
                    have kbR := k147R
                    exact ih17 v115 v119 m105 n106 (by first | omega | assumption | exact (iv_rng _).2 | exact (iv_rng _).1 | decide) (by first | omega | assumption | exact (iv_rng _).2 | exact (iv_rng _).1 | decide) (by first | omega | assumption | exact (iv_rng _).2 | exact (iv_rng _).1 | decide) (by first | omega | assumption | exact (iv_rng _).2 | exact (iv_rng _).1 | decide) (by first | omega | assumption | (show v119.toInt ≤ x1.toInt; omega) | decide) (by first | omega | assumption | (show v115.toInt ≤ v119.toInt; omega) | decide) kbD kbR I107 K108 (by omega)
        have z122 : (0 : Int32).toInt = 0 := by decide
        have z123 : (0 : Int32).toInt = 0 := by decide
        exact lp16 (((40 - 0) : Int).toNat + 1) 0 0 m n (by first | omega | assumption | exact (iv_rng _).2 | exact (iv_rng _).1 | decide) (by first | omega | assumption | exact (iv_rng _).2 | exact (iv_rng _).1 | decide) (by first | omega | assumption | exact (iv_rng _).2 | exact (iv_rng _).1 | decide) (by first | omega | assumption | exact (iv_rng _).2 | exact (iv_rng _).1 | decide) (by first | omega | assumption | (show 0 ≤ x1.toInt; omega) | decide) (by first | omega | assumption | (show 0 ≤ 0; omega) | decide) ⟨rfl, by rw [Int32.toInt_zero]⟩ (hp0 _ (by omega)) I Kp (by omega)
      · have c8 := iv_nle (X := x1.toInt) (Y := 40) c8 rfl (by decide)
        refine pv_iconst (M := mX11_draw) (v := (-1)) dX11_draw_19 20 rfl (by decide) ?_
        have z124 : ((-1) : Int32).toInt = (-1) := by decide
        exact pv_iret (M := mX11_draw) dX11_draw_20 rfl rfl ⟨_, _, _, rfl, rfl, I, Kp, by decide, by decide, (Or.inl ⟨by omega, by decide, fun _ _ _ => rfl⟩)⟩

set_option maxHeartbeats 2000000 in
set_option maxRecDepth 20000 in
theorem s_X12_draw_va (g : pv_G) {T : List mv_T} {m : Nat → Nat → Int32} {n : Nat → Nat → Int64} {r : Nat → Value} (hT : TX T) (I : IV BB m) (x0 : Int32) (x1 : Int32) (t : Int → Int) (hp0 : LX m) (hp1 : LAWr m t (m 123 20).toInt.toNat) : PM g mX12_draw yX12_draw (sqI T BB (wl [(123, 123, some 2), (123, 123, some 3), (128, 128, none), (141, 141, none), (142, 142, none), (143, 143, none), (144, 144, none), (145, 145, none), (146, 146, none), (147, 147, none), (148, 148, none)]) r m (-2147483648) 2147483647 (fun m' v => DRWP ((0 ≤ x0.toInt ∧ x0.toInt < (m 123 0).toInt) ∧ 1 ≤ x1.toInt ∧ x1.toInt ≤ 40) x1.toInt (fun M => nu M x0.toInt 0 ≤ 1) (fun k M v => DCr t x0.toInt.toNat k m M v) (∀ a j, isR a j = true → m' a j = m a j) m' v.toInt)) 4 0 0 [.ref 123, .int x0, .int x1] (mk T m n r) := by
  have Kp : fr (wl [(123, 123, some 2), (123, 123, some 3), (128, 128, none), (141, 141, none), (142, 142, none), (143, 143, none), (144, 144, none), (145, 145, none), (146, 146, none), (147, 147, none), (148, 148, none)]) m m := fr.rf
  have kLX := hp0
  have z137 : 0 ≤ (m 123 3).toInt ∧ (m 123 3).toInt ≤ 60 := I 123 3
  have z138 : 0 ≤ (m 123 0).toInt ∧ (m 123 0).toInt ≤ 8 := I 123 0
  refine PM.of 4 (lo := [.ref 123, .int x0, .int x1, pv_U, pv_U, pv_U, pv_U]) rfl (by decide) rfl rfl (Nat.le_of_ble_eq_true rfl) ?_
  refine pv_aload_n (M := mX12_draw) 0 dX12_draw_0 1 rfl rfl rfl ?_
  refine pv_iload_n (M := mX12_draw) 1 dX12_draw_1 2 rfl rfl rfl ?_
  refine pv_callv (M := mX12_draw) (as := [.int x0]) (st := []) (kc2 := 0) (ks2 := 0) dX12_draw_2 wd1389 YX12_isBlank ⟨wd1391, wd55⟩ (mk_get (tl123 hT)) rfl rfl (s_X12_isBlank_vx g hT I x0) rfl rfl (Nat.le_of_ble_eq_true rfl) (by decide) rfl rfl 5 rfl (fun rv h1 q1 => ?_)
  obtain ⟨v2, rfl, rfl, pv2, qv2, rv2⟩ := q1
  replace rv2 : (v2 = 0 ∨ (0 ≤ x0.toInt ∧ x0.toInt ≤ 7)) ∧ ((v2.toInt = 1 ∧ 0 ≤ x0.toInt ∧ x0.toInt < (m 123 0).toInt) ∨ (v2.toInt = 0 ∧ (x0.toInt < 0 ∨ (m 123 0).toInt ≤ x0.toInt))) := rv2
  show PV _ _ _ _ _ _ _ 5 [.ref 123, .int x0, .int x1, pv_U, pv_U, pv_U, pv_U] [.int v2] _
  have k5 := rv2.2
  refine pv_if_eq (M := mX12_draw) (tgt := 18) dX12_draw_5 8 rfl (by decide) (fun c4 => ?_) (fun c4 => ?_)
  · have c4 := iv_eq (X := v2.toInt) (Y := 0) c4 rfl (by decide)
    refine pv_iconst (M := mX12_draw) (v := (-1)) dX12_draw_18 19 rfl (by decide) ?_
    have z5 : ((-1) : Int32).toInt = (-1) := by decide
    exact pv_iret (M := mX12_draw) dX12_draw_19 rfl rfl ⟨_, _, _, rfl, rfl, I, Kp, by decide, by decide, (Or.inl ⟨by omega, by decide, fun _ _ _ => rfl⟩)⟩
  · have pc4 := rv2.1.resolve_left c4
    have c4 := iv_ne (X := v2.toInt) (Y := 0) c4 rfl (by decide)
    refine pv_iload_n (M := mX12_draw) 2 dX12_draw_8 9 rfl rfl rfl ?_
    refine pv_iconst (M := mX12_draw) (v := 1) dX12_draw_9 10 rfl (by decide) ?_
    refine pv_bipush (M := mX12_draw) (v := 40) dX12_draw_10 12 rfl (by decide) ?_
    have z6 : (1 : Int32).toInt = 1 := by decide
    have z7 : (40 : Int32).toInt = 40 := by decide
    refine pv_calls (M := mX12_draw) (as := [.int x1, .int 1, .int 40]) (st := []) (kc2 := 0) (ks2 := 0) dX12_draw_12 wd1370 YX12_in wd1371 (s_X12_in_vx g hT I x1 1 40) rfl rfl (Nat.le_of_ble_eq_true rfl) (by decide) rfl rfl 15 rfl (fun rv h1 q8 => ?_)
    obtain ⟨v9, rfl, rfl, pv9, qv9, rv9⟩ := q8
    replace rv9 : (v9 = 0 ∨ ((1 : Int) ≤ x1.toInt ∧ x1.toInt ≤ (40 : Int))) ∧ ((v9.toInt = 1 ∧ (1 : Int) ≤ x1.toInt ∧ x1.toInt ≤ (40 : Int)) ∨ (v9.toInt = 0 ∧ (x1.toInt < (1 : Int) ∨ (40 : Int) < x1.toInt))) := by have q_ := rv9; (try rw [z6] at q_); (try rw [z7] at q_); exact q_
    show PV _ _ _ _ _ _ _ 15 [.ref 123, .int x0, .int x1, pv_U, pv_U, pv_U, pv_U] [.int v9] _
    have k15 := rv9.2
    refine pv_if_ne (M := mX12_draw) (tgt := 20) dX12_draw_15 18 rfl (by decide) (fun c11 => ?_) (fun c11 => ?_)
    · have pc11 := rv9.1.resolve_left c11
      have c11 := iv_ne (X := v9.toInt) (Y := 0) c11 rfl (by decide)
      refine pv_iconst (M := mX12_draw) (v := 0) dX12_draw_20 21 rfl (by decide) ?_
      refine pv_istore_n (M := mX12_draw) 3 (lo2 := [.ref 123, .int x0, .int x1, .int 0, pv_U, pv_U, pv_U]) dX12_draw_21 22 rfl rfl (by decide) rfl rfl ?_
      refine pv_iconst (M := mX12_draw) (v := 0) dX12_draw_22 23 rfl (by decide) ?_
      refine pv_istore (M := mX12_draw) (lo2 := [.ref 123, .int x0, .int x1, .int 0, .int 0, pv_U, pv_U]) dX12_draw_23 25 rfl (by decide) rfl rfl ?_
      have lp19 : ∀ (fuel18 : Nat) (y12 : Int32) (y13 : Int32) (m14 : Nat → Nat → Int32) (n15 : Nat → Nat → Int64), (0 ≤ y12.toInt) → (y12.toInt ≤ 40) → (0 ≤ y13.toInt) → (y13.toInt ≤ 40) → (y13.toInt ≤ x1.toInt) → (y12.toInt ≤ y13.toInt) → (DCr t x0.toInt.toNat y13.toInt.toNat m m14 y12.toInt) → (LX m14) → IV BB m14 → fr (wl [(123, 123, some 2), (123, 123, some 3), (128, 128, none), (141, 141, none), (142, 142, none), (143, 143, none), (144, 144, none), (145, 145, none), (146, 146, none), (147, 147, none), (148, 148, none)]) m m14 → ((40 - y13.toInt) : Int).toNat < fuel18 → PV none g mX12_draw (sqI T BB (wl [(123, 123, some 2), (123, 123, some 3), (128, 128, none), (141, 141, none), (142, 142, none), (143, 143, none), (144, 144, none), (145, 145, none), (146, 146, none), (147, 147, none), (148, 148, none)]) r m (-2147483648) 2147483647 (fun m' v => DRWP ((0 ≤ x0.toInt ∧ x0.toInt < (m 123 0).toInt) ∧ 1 ≤ x1.toInt ∧ x1.toInt ≤ 40) x1.toInt (fun M => nu M x0.toInt 0 ≤ 1) (fun k M v => DCr t x0.toInt.toNat k m M v) (∀ a j, isR a j = true → m' a j = m a j) m' v.toInt)) 4 0 0 25 [.ref 123, .int x0, .int x1, .int y12, .int y13, pv_U, pv_U] [] (mk T m14 n15 r) := by
        intro fuel18
        induction fuel18 with
        | zero => intro y12 y13 m14 n15 b21 b22 b23 b24 b25 b26 b27 b28 I16 K17 z29; omega
        | succ fuel18 ih20 =>
          intro y12 y13 m14 n15 b21 b22 b23 b24 b25 b26 b27 b28 I16 K17 z29
          have z30 : 0 ≤ (m14 123 3).toInt ∧ (m14 123 3).toInt ≤ 60 := I16 123 3
          have z31 : 0 ≤ (m14 123 0).toInt ∧ (m14 123 0).toInt ≤ 8 := I16 123 0
          have kLX := (show LX m14 by assumption)
          have kx0 : ((x0.toInt.toNat : Nat) : Int) = x0.toInt := by omega
          have kgD := (show DCr t x0.toInt.toNat y13.toInt.toNat m m14 y12.toInt by assumption)
          have kb60 : (m14 123 3).toInt ≤ 60 := (I16 123 3).2
          refine pv_iload (M := mX12_draw) dX12_draw_25 27 rfl rfl ?_
          refine pv_iload_n (M := mX12_draw) 2 dX12_draw_27 28 rfl rfl rfl ?_
          refine pv_icmp_ge (M := mX12_draw) (tgt := 134) dX12_draw_28 31 rfl (by decide) (fun c35 => ?_) (fun c35 => ?_)
          · have c35 := iv_le (X := x1.toInt) (Y := y13.toInt) c35 rfl rfl
            refine pv_iload_n (M := mX12_draw) 3 dX12_draw_134 135 rfl rfl rfl ?_
            exact pv_iret (M := mX12_draw) dX12_draw_135 rfl rfl ⟨_, _, _, rfl, rfl, I16, K17, (iv_rng y12).1, (iv_rng y12).2, (Or.inr ⟨by omega, y13.toInt.toNat, by omega, by first | exact Or.inl (by omega) | exact Or.inr (by omega), kgD⟩)⟩
          · have c35 := iv_nle (X := x1.toInt) (Y := y13.toInt) c35 rfl rfl
            refine pv_aload_n (M := mX12_draw) 0 dX12_draw_31 32 rfl rfl rfl ?_
            refine pv_iload_n (M := mX12_draw) 1 dX12_draw_32 33 rfl rfl rfl ?_
            refine pv_callv (M := mX12_draw) (as := [.int x0]) (st := []) (kc2 := 0) (ks2 := 0) dX12_draw_33 wd1393 YX12_leftMany ⟨wd1395, wd56⟩ (mk_get (tl123 hT)) rfl rfl (s_X12_leftMany g hT I16 x0 (by omega) (by omega)) rfl rfl (Nat.le_of_ble_eq_true rfl) (by decide) rfl rfl 36 rfl (fun rv h1 q36 => ?_)
            obtain ⟨v37, rfl, rfl, pv37, qv37, rv37⟩ := q36
            replace rv37 : v37.toInt = nu m14 x0.toInt 0 := rv37
            show PV _ _ _ _ _ _ _ 36 [.ref 123, .int x0, .int x1, .int y12, .int y13, pv_U, pv_U] [.int v37] _
            have k36 : v37.toInt = nu m14 x0.toInt 0 := rv37
            refine pv_iconst (M := mX12_draw) (v := 1) dX12_draw_36 37 rfl (by decide) ?_
            refine pv_icmp_le (M := mX12_draw) (tgt := 134) dX12_draw_37 40 rfl (by decide) (fun c39 => ?_) (fun c39 => ?_)
            · have c39 := iv_le (X := v37.toInt) (Y := 1) c39 rfl (by decide)
              refine pv_iload_n (M := mX12_draw) 3 dX12_draw_134 135 rfl rfl rfl ?_
              exact pv_iret (M := mX12_draw) dX12_draw_135 rfl rfl ⟨_, _, _, rfl, rfl, I16, K17, (iv_rng y12).1, (iv_rng y12).2, (Or.inr ⟨by omega, y13.toInt.toNat, by omega, by first | exact Or.inl (by omega) | exact Or.inr (by omega), kgD⟩)⟩
            · have c39 := iv_nle (X := v37.toInt) (Y := 1) c39 rfl (by decide)
              refine pv_aload_n (M := mX12_draw) 0 dX12_draw_40 41 rfl rfl rfl ?_
              refine pv_sipush (M := mX12_draw) (v := 25173) dX12_draw_41 44 rfl (by decide) ?_
              refine pv_aload_n (M := mX12_draw) 0 dX12_draw_44 45 rfl rfl rfl ?_
              refine iv_get (M := mX12_draw) (l1 := 0) (l2 := 65535) dX12_draw_45 FX12 2 wd1175 (by decide) (tl123 hT) rfl I16 rfl 48 rfl (fun v40 ev40 pv40 qv40 => ?_)
              have k48 : v40.toInt = (m14 123 2).toInt := congrArg Int32.toInt ev40
              refine iv_imul (M := mX12_draw) (X := 25173) (Y := v40.toInt) dX12_draw_48 49 rfl (by decide) rfl (by omega) (by omega) (fun v42 ev42 => ?_)
              refine pv_sipush (M := mX12_draw) (v := 13849) dX12_draw_49 52 rfl (by decide) ?_
              refine iv_iadd (M := mX12_draw) (X := v42.toInt) (Y := 13849) dX12_draw_52 53 rfl rfl (by decide) (by omega) (by omega) (fun v43 ev43 => ?_)
              refine pv_ldcw (M := mX12_draw) (v := 65536) dX12_draw_53 56 rfl wd1782 ?_
              refine iv_irem (M := mX12_draw) (X := v43.toInt) (Y := 65536) dX12_draw_56 57 rfl rfl (by decide) (by omega) (by omega) (fun v44 ev44 => ?_)
              have k57 : v44.toInt = (25173 * (m14 123 2).toInt + 13849) % 65536 := by omega
              refine iv_put (M := mX12_draw) (l1 := 0) (l2 := 65535) dX12_draw_57 FX12 2 wd1175 (by decide) rfl (tl123 hT) rfl rfl rfl I16 rfl (by omega) (by omega) 60 rfl (fun m46 e49 I47 => ?_)
              have K48 := K17.set e49 rfl
              have kLX : LX m46 := LX_eq kLX (by rw [e49, up2_ne (by omega)]) (fun j => by rw [e49, up2_ne (by omega)]) (fun j => by rw [e49, up2_ne (by omega)]) (fun j => by rw [e49, up2_ne (by omega)]) (fun j => by rw [e49, up2_ne (by omega)])
              have u50 : nu m46 x0.toInt 0 = nu m14 x0.toInt 0 := nu_eq (st_off e49 (by decide)) (st_off e49 (by decide)) _ _
              have w51 : (m46 123 3).toInt = (m14 123 3).toInt := by rw [e49, up2_ne (by omega)]
              have w52 : (m46 123 0).toInt = (m14 123 0).toInt := by rw [e49, up2_ne (by omega)]
              have k60 : (m46 123 2).toInt = (25173 * (m14 123 2).toInt + 13849) % 65536 := by rw [e49, up2_at rfl]; exact k57
              have kf60 : ∀ a i, ¬ (a = 123 ∧ i = 2) → m46 a i = m14 a i := fun a i q => by rw [e49, up2_ne q]
              refine pv_aload_n (M := mX12_draw) 0 dX12_draw_60 61 rfl rfl rfl ?_
              refine iv_get (M := mX12_draw) (l1 := 0) (l2 := 65535) dX12_draw_61 FX12 2 wd1175 (by decide) (tl123 hT) rfl I47 rfl 64 rfl (fun v55 ev55 pv55 qv55 => ?_)
              have k64 : v55.toInt = (m46 123 2).toInt := congrArg Int32.toInt ev55
              refine pv_aload_n (M := mX12_draw) 0 dX12_draw_64 65 rfl rfl rfl ?_
              refine pv_iload_n (M := mX12_draw) 1 dX12_draw_65 66 rfl rfl rfl ?_
              refine pv_callv (M := mX12_draw) (as := [.int x0]) (st := [.int v55]) (kc2 := 0) (ks2 := 0) dX12_draw_66 wd1393 YX12_leftMany ⟨wd1395, wd56⟩ (mk_get (tl123 hT)) rfl rfl (s_X12_leftMany g hT I47 x0 (by omega) (by omega)) rfl rfl (Nat.le_of_ble_eq_true rfl) (by decide) rfl rfl 69 rfl (fun rv h1 q57 => ?_)
              obtain ⟨v58, rfl, rfl, pv58, qv58, rv58⟩ := q57
              replace rv58 : v58.toInt = nu m46 x0.toInt 0 := rv58
              show PV _ _ _ _ _ _ _ 69 [.ref 123, .int x0, .int x1, .int y12, .int y13, pv_U, pv_U] [.int v58, .int v55] _
              have k69 : v58.toInt = nu m14 x0.toInt 0 := by omega
              refine iv_irem (M := mX12_draw) (X := v55.toInt) (Y := v58.toInt) dX12_draw_69 70 rfl rfl rfl (by omega) (by omega) (fun v60 ev60 => ?_)
              have bv60 : 0 ≤ v60.toInt ∧ v60.toInt < v58.toInt := ⟨by rw [ev60]; exact Int.emod_nonneg _ (by omega), by rw [ev60]; exact Int.emod_lt_of_pos _ (by omega)⟩
              have k70 : v60.toInt = (m46 123 2).toInt % nu m14 x0.toInt 0 := by rw [ev60, k64, k69]
              refine pv_istore (M := mX12_draw) (lo2 := [.ref 123, .int x0, .int x1, .int y12, .int y13, .int v60, pv_U]) dX12_draw_70 72 rfl (by decide) rfl rfl ?_
              refine pv_aload_n (M := mX12_draw) 0 dX12_draw_72 73 rfl rfl rfl ?_
              refine iv_get (M := mX12_draw) (l1 := 0) (l2 := 65535) dX12_draw_73 FX12 2 wd1175 (by decide) (tl123 hT) rfl I47 rfl 76 rfl (fun v62 ev62 pv62 qv62 => ?_)
              have k76 : v62.toInt = (m46 123 2).toInt := congrArg Int32.toInt ev62
              refine pv_bipush (M := mX12_draw) (v := 8) dX12_draw_76 78 rfl (by decide) ?_
              refine iv_irem (M := mX12_draw) (X := v62.toInt) (Y := 8) dX12_draw_78 79 rfl rfl (by decide) (by omega) (by omega) (fun v64 ev64 => ?_)
              have k79 : v64.toInt = (m46 123 2).toInt % 8 := by rw [ev64, k76]
              refine pv_istore (M := mX12_draw) (lo2 := [.ref 123, .int x0, .int x1, .int y12, .int y13, .int v60, .int v64]) dX12_draw_79 81 rfl (by decide) rfl rfl ?_
              refine pv_aload_n (M := mX12_draw) 0 dX12_draw_81 82 rfl rfl rfl ?_
              refine iv_get (M := mX12_draw) (l1 := 0) (l2 := 60) dX12_draw_82 FX12 3 wd1176 (by decide) (tl123 hT) rfl I47 rfl 85 rfl (fun v66 ev66 pv66 qv66 => ?_)
              have wv66 : v66.toInt = (m46 123 3).toInt := congrArg Int32.toInt ev66
              have k85 : v66.toInt = (m14 123 3).toInt := by rw [ev66, kf60 123 3 (by omega)]
              have k85p : v60.toInt.toNat = ((m46 123 2).toInt % nu m14 ((x0.toInt.toNat : Nat) : Int) 0).toNat := by rw [kx0, ← k70]
              have k85c : v64.toInt = (m46 123 2).toInt % 8 := k79
              have kF : ∀ a i, isR a i = true → ¬ (a = 123 ∧ i = 2) → m46 a i = m14 a i := fun a i _ q => kf60 a i q
              have kG : m46 123 1 = m14 123 1 ∧ m46 123 0 = m14 123 0 ∧ (∀ j, m46 124 j = m14 124 j) ∧ ∀ j, m46 125 j = m14 125 j := ⟨kf60 _ _ (by omega), kf60 _ _ (by omega), fun j => kf60 _ _ (by omega), fun j => kf60 _ _ (by omega)⟩
              have kD : m46 123 2 = m46 123 2 := rfl
              refine pv_bipush (M := mX12_draw) (v := 60) dX12_draw_85 87 rfl (by decide) ?_
              refine pv_icmp_eq (M := mX12_draw) (tgt := 128) dX12_draw_87 90 rfl (by decide) (fun c73 => ?_) (fun c73 => ?_)
              · have c73 := iv_eq (X := v66.toInt) (Y := 60) c73 rfl (by decide)
                have k128 : DSr m14 m46 t x0.toInt.toNat y12.toInt y12.toInt := by rw [show y12.toInt = y12.toInt from rfl]; first | exact ⟨by rw [kx0]; omega, by rw [kD]; exact k60, kH, kG, Or.inl ⟨by rw [kD, ← k85p, ← k85c]; exact ⟨_, k99f, (k99v.resolve_right (fun q => by have q1 := q.1; omega)).2⟩, by omega, ⟨v64, _, by rw [kD]; exact k85c, by rw [kD, ← k85p, ← k85c]; exact k121p, by rw [kD, ← k85p]; exact k124⟩, by omega⟩⟩ | exact ⟨by rw [kx0]; omega, by rw [kD]; exact k60, fun a i q1 q2 _ _ _ => kF a i q1 q2, kG, Or.inr ⟨by rw [kD, ← k85p, ← k85c]; first | exact Or.inl ⟨_, k99f, (k99v.resolve_left (fun q => by have q1 := q.1; omega)).2⟩ | exact Or.inr (by omega), kF, by omega⟩⟩
                refine iv_inc (M := mX12_draw) (C := 1) dX12_draw_128 131 rfl rfl (by decide) rfl rfl (by decide) (by omega) (by omega) (fun v75 ev75 => ?_)
                show PV _ _ _ _ _ _ _ 131 [.ref 123, .int x0, .int x1, .int y12, .int v75, .int v60, .int v64] [] _
                refine pv_goto (M := mX12_draw) (tgt := 25) dX12_draw_131 (by decide) ?_
                refine pv_fg (lo2 := [.ref 123, .int x0, .int x1, .int y12, .int v75, pv_U, pv_U]) ⟨Or.inr rfl, ⟨Or.inr rfl, ⟨Or.inr rfl, ⟨Or.inr rfl, ⟨Or.inr rfl, ⟨Or.inl rfl, ⟨Or.inl rfl, trivial⟩⟩⟩⟩⟩⟩⟩ ?_
                have kbD : DCr t x0.toInt.toNat v75.toInt.toNat m m46 y12.toInt := DCr_s kgD k128 (by omega)
                exact ih20 y12 v75 m46 n15 (by first | omega | assumption | exact (iv_rng _).2 | exact (iv_rng _).1 | decide) (by first | omega | assumption | exact (iv_rng _).2 | exact (iv_rng _).1 | decide) (by first | omega | assumption | exact (iv_rng _).2 | exact (iv_rng _).1 | decide) (by first | omega | assumption | exact (iv_rng _).2 | exact (iv_rng _).1 | decide) (by first | omega | assumption | (show v75.toInt ≤ x1.toInt; omega) | decide) (by first | omega | assumption | (show y12.toInt ≤ v75.toInt; omega) | decide) kbD kLX I47 K48 (by omega)
              · have c73 := iv_ne (X := v66.toInt) (Y := 60) c73 rfl (by decide)
                refine pv_aload_n (M := mX12_draw) 0 dX12_draw_90 91 rfl rfl rfl ?_
                refine pv_iload_n (M := mX12_draw) 1 dX12_draw_91 92 rfl rfl rfl ?_
                refine pv_iload (M := mX12_draw) dX12_draw_92 94 rfl rfl ?_
                refine pv_iload (M := mX12_draw) dX12_draw_94 96 rfl rfl ?_
                have k96 : LAWr m46 t (m46 123 20).toInt.toNat := by rw [show m46 123 20 = m 123 20 from K48 123 20 rfl]; exact LAWr_eq hp1 (fun a j h1 h2 => K48 a j (by have : a = 136 ∨ a = 137 ∨ a = 138 ∨ a = 139 ∨ a = 140 := (by omega); rcases this with rfl | rfl | rfl | rfl | rfl <;> rfl))
                refine pv_callv (M := mX12_draw) (as := [.int x0, .int v60, .int v64]) (st := []) (kc2 := 0) (ks2 := 0) dX12_draw_96 wd1522 YX12_mayStrike ⟨wd1524, wd82⟩ (mk_get (tl123 hT)) rfl rfl (s_X12_mayStrike_vz g hT I47 x0 (by omega) (by omega) v60 (by omega) (by omega) v64 t (by first | omega | assumption | exact (iv_rng _).2 | exact (iv_rng _).1 | decide) (by first | omega | assumption | exact (iv_rng _).2 | exact (iv_rng _).1 | decide) k96) rfl rfl (Nat.le_of_ble_eq_true rfl) (by decide) rfl rfl 99 rfl (fun rv h1 q78 => ?_)
                obtain ⟨m79, n80, v83, rfl, rfl, I81, K82, pv83, qv83, rv83⟩ := q78
                replace rv83 : (FCT (m79 142) (m46 128) (m46 125) (40 * x0.toInt.toNat) (40 * x0.toInt.toNat) (m46 124 x0.toInt.toNat).toInt.toNat v60.toInt v64.toInt (m46 123 1).toInt x0.toInt) ∧ ((v83.toInt = 1 ∧ ¬ FRB t (m46 123 20).toInt.toNat (frn m79)) ∨ (v83.toInt = 0 ∧ FRB t (m46 123 20).toInt.toNat (frn m79))) := rv83
                have K82c := K82
                have kLX : LX m79 := LX_eq kLX (K82c 123 20 rfl) (fun j => K82c 136 j rfl) (fun j => K82c 138 j rfl) (fun j => K82c 139 j rfl) (fun j => K82c 140 j rfl)
                have u84 : nu m79 x0.toInt 0 = nu m46 x0.toInt 0 := nu_eq (fun j => K82c 124 j rfl) (fun j => K82c 128 j rfl) _ _
                have w85 : (m79 123 3).toInt = (m46 123 3).toInt := congrArg Int32.toInt (K82 123 3 rfl)
                have w86 : (m79 123 0).toInt = (m46 123 0).toInt := congrArg Int32.toInt (K82 123 0 rfl)
                have K82 := K48.trans (K82.sub (wl_sub (by decide)))
                show PV _ _ _ _ _ _ _ 99 [.ref 123, .int x0, .int x1, .int y12, .int y13, .int v60, .int v64] [.int v83] _
                have k99 := rv83
                have k99f : FCr m14 x0.toInt.toNat v60.toInt.toNat v64.toInt (frn m79) := FCr_of k99.1 rfl (by omega) (fun j => kF 128 j rfl (by omega)) kG.2.2.2 kG.2.2.1 (by omega) (congrArg Int32.toInt kG.1)
                have k99v := k99.2
                rw [show (m46 123 20).toInt = (m14 123 20).toInt from congrArg Int32.toInt (kF 123 20 rfl (by omega))] at k99v
                have kD2 : m79 123 2 = m46 123 2 := (K82c 123 2 rfl).trans kD
                have kF2 : ∀ a i, isR a i = true → ¬ (a = 123 ∧ i = 2) → m79 a i = m14 a i := fun a i q1 q2 => (K82c a i (wl_nR (by decide) q1)).trans (kF a i q1 q2)
                have kG2 : m79 123 1 = m14 123 1 ∧ m79 123 0 = m14 123 0 ∧ (∀ j, m79 124 j = m14 124 j) ∧ ∀ j, m79 125 j = m14 125 j := ⟨(K82c 123 1 rfl).trans kG.1, (K82c 123 0 rfl).trans kG.2.1, fun j => (K82c 124 j rfl).trans (kG.2.2.1 j), fun j => (K82c 125 j rfl).trans (kG.2.2.2 j)⟩
                have kD := kD2
                have kF := kF2
                have kG := kG2
                refine pv_if_ne (M := mX12_draw) (tgt := 105) dX12_draw_99 102 rfl (by decide) (fun c97 => ?_) (fun c97 => ?_)
                · have c97 := iv_ne (X := v83.toInt) (Y := 0) c97 rfl (by decide)
                  refine pv_aload_n (M := mX12_draw) 0 dX12_draw_105 106 rfl rfl rfl ?_
                  refine pv_iload_n (M := mX12_draw) 1 dX12_draw_106 107 rfl rfl rfl ?_
                  refine pv_iload (M := mX12_draw) dX12_draw_107 109 rfl rfl ?_
                  refine pv_iconst (M := mX12_draw) (v := 1) dX12_draw_109 110 rfl (by decide) ?_
                  refine pv_iload (M := mX12_draw) dX12_draw_110 112 rfl rfl ?_
                  refine pv_aload_n (M := mX12_draw) 0 dX12_draw_112 113 rfl rfl rfl ?_
                  refine pv_iload_n (M := mX12_draw) 1 dX12_draw_113 114 rfl rfl rfl ?_
                  refine pv_iload (M := mX12_draw) dX12_draw_114 116 rfl rfl ?_
                  refine pv_iload (M := mX12_draw) dX12_draw_116 118 rfl rfl ?_
                  have k118 : LAWr m79 t (m79 123 20).toInt.toNat := by rw [show m79 123 20 = m 123 20 from K82 123 20 rfl]; exact LAWr_eq hp1 (fun a j h1 h2 => K82 a j (by have : a = 136 ∨ a = 137 ∨ a = 138 ∨ a = 139 ∨ a = 140 := (by omega); rcases this with rfl | rfl | rfl | rfl | rfl <;> rfl))
                  refine pv_callv (M := mX12_draw) (as := [.int x0, .int v60, .int v64]) (st := [.int v64, .int 1, .int v60, .int x0, .ref 123]) (kc2 := 0) (ks2 := 0) dX12_draw_118 wd1499 YX12_priceOf ⟨wd1501, wd77⟩ (mk_get (tl123 hT)) rfl rfl (s_X12_priceOf_vz g hT I81 x0 (by omega) (by omega) v60 (by omega) (by omega) v64 t (by first | omega | assumption | exact (iv_rng _).2 | exact (iv_rng _).1 | decide) (by first | omega | assumption | exact (iv_rng _).2 | exact (iv_rng _).1 | decide) k118) rfl rfl (Nat.le_of_ble_eq_true rfl) (by decide) rfl rfl 121 rfl (fun rv h1 q99 => ?_)
                  obtain ⟨m100, n101, v104, rfl, rfl, I102, K103, pv104, qv104, rv104⟩ := q99
                  replace rv104 : (FCT (m100 142) (m79 128) (m79 125) (40 * x0.toInt.toNat) (40 * x0.toInt.toNat) (m79 124 x0.toInt.toNat).toInt.toNat v60.toInt v64.toInt (m79 123 1).toInt x0.toInt) ∧ v104.toInt = prc t (frn m100) (m79 123 20).toInt.toNat 0 := rv104
                  have K103c := K103
                  have kLX : LX m100 := LX_eq kLX (K103c 123 20 rfl) (fun j => K103c 136 j rfl) (fun j => K103c 138 j rfl) (fun j => K103c 139 j rfl) (fun j => K103c 140 j rfl)
                  have u105 : nu m100 x0.toInt 0 = nu m79 x0.toInt 0 := nu_eq (fun j => K103c 124 j rfl) (fun j => K103c 128 j rfl) _ _
                  have w106 : (m100 123 3).toInt = (m79 123 3).toInt := congrArg Int32.toInt (K103 123 3 rfl)
                  have w107 : (m100 123 0).toInt = (m79 123 0).toInt := congrArg Int32.toInt (K103 123 0 rfl)
                  have K103 := K82.trans (K103.sub (wl_sub (by decide)))
                  show PV _ _ _ _ _ _ _ 121 [.ref 123, .int x0, .int x1, .int y12, .int y13, .int v60, .int v64] [.int v104, .int v64, .int 1, .int v60, .int x0, .ref 123] _
                  have k121 := rv104
                  have k121p : PRr m14 t x0.toInt.toNat v60.toInt.toNat v64.toInt v104 := ⟨_, FCr_of k121.1 rfl (by omega) (fun j => kF 128 j rfl (by omega)) kG.2.2.2 kG.2.2.1 (by omega) (congrArg Int32.toInt kG.1), by rw [k121.2, show (m79 123 20).toInt = (m14 123 20).toInt from congrArg Int32.toInt (kF 123 20 rfl (by omega))]⟩
                  have kD3 : m100 123 2 = m46 123 2 := (K103c 123 2 rfl).trans kD
                  have kF3 : ∀ a i, isR a i = true → ¬ (a = 123 ∧ i = 2) → m100 a i = m14 a i := fun a i q1 q2 => (K103c a i (wl_nR (by decide) q1)).trans (kF a i q1 q2)
                  have kG3 : m100 123 1 = m14 123 1 ∧ m100 123 0 = m14 123 0 ∧ (∀ j, m100 124 j = m14 124 j) ∧ ∀ j, m100 125 j = m14 125 j := ⟨(K103c 123 1 rfl).trans kG.1, (K103c 123 0 rfl).trans kG.2.1, fun j => (K103c 124 j rfl).trans (kG.2.2.1 j), fun j => (K103c 125 j rfl).trans (kG.2.2.2 j)⟩
                  have kG := kG3
                  have k121s : (m100 123 3).toInt ≤ 59 := by have q := congrArg Int32.toInt (kF3 123 3 rfl (by omega)); omega
                  have z115 : (1 : Int32).toInt = 1 := by decide
                  refine pv_callv (M := mX12_draw) (as := [.int x0, .int v60, .int 1, .int v64, .int v104]) (st := []) (kc2 := 0) (ks2 := 0) dX12_draw_121 wd1530 YX12_makes ⟨wd1532, wd83⟩ (mk_get (tl123 hT)) rfl rfl (s_X12_makes_va g hT I102 x0 (by omega) (by omega) v60 (by omega) (by omega) 1 (by decide) (by decide) v64 (by omega) (by omega) v104 (by first | omega | assumption | exact (iv_rng _).2 | exact (iv_rng _).1 | decide) (by first | omega | assumption | exact (iv_rng _).2 | exact (iv_rng _).1 | decide)) rfl rfl (Nat.le_of_ble_eq_true rfl) (by decide) rfl rfl 124 rfl (fun rv h1 q116 => ?_)
                  obtain ⟨m117, n118, rfl, rfl, I119, K120, rm117⟩ := q116
                  replace rm117 : (nu m117 x0.toInt 0 = nu m100 x0.toInt 0 - (1 : Int) ∧ (m117 123 3).toInt = (m100 123 3).toInt + 1) ∧ STKr m100 m117 x0.toInt.toNat v60.toInt.toNat (1 : Int).toNat v64 v104 := by have q_ := rm117; (try rw [z115] at q_); exact q_
                  have K120c := K120
                  have kLX : LX m117 := LX_eq kLX (K120c 123 20 rfl) (fun j => K120c 136 j rfl) (fun j => K120c 138 j rfl) (fun j => K120c 139 j rfl) (fun j => K120c 140 j rfl)
                  have w121 : (m117 123 0).toInt = (m100 123 0).toInt := congrArg Int32.toInt (K120 123 0 rfl)
                  have K120 := K103.trans (K120.sub (wl_sub (by decide)))
                  show PV _ _ _ _ _ _ _ 124 [.ref 123, .int x0, .int x1, .int y12, .int y13, .int v60, .int v64] [] _
                  have k124 : STKr m14 m117 x0.toInt.toNat v60.toInt.toNat 1 v64 _ := STKr_q rm117.2 (fun a i q1 q2 => kF3 a i q1 q2) kG3.1
                  have kD : m117 123 2 = m46 123 2 := (K120c 123 2 rfl).trans kD3
                  have kH : ∀ a i, isR a i = true → ¬ (a = 123 ∧ i = 2) → a ≠ 128 → ¬ (a = 123 ∧ i = 3) → (a < 143 ∨ 148 < a) → m117 a i = m14 a i := fun a i q1 q2 q3 q4 q5 => (K120c a i (mk_fr q1 q3 q4 q5)).trans (kF3 a i q1 q2)
                  have kG4 : m117 123 1 = m14 123 1 ∧ m117 123 0 = m14 123 0 ∧ (∀ j, m117 124 j = m14 124 j) ∧ ∀ j, m117 125 j = m14 125 j := ⟨(K120c 123 1 rfl).trans kG3.1, (K120c 123 0 rfl).trans kG3.2.1, fun j => (K120c 124 j rfl).trans (kG3.2.2.1 j), fun j => (K120c 125 j rfl).trans (kG3.2.2.2 j)⟩
                  have kG := kG4
                  refine pv_iload_n (M := mX12_draw) 3 dX12_draw_124 125 rfl rfl rfl ?_
                  refine pv_iconst (M := mX12_draw) (v := 1) dX12_draw_125 126 rfl (by decide) ?_
                  refine iv_iadd (M := mX12_draw) (X := y12.toInt) (Y := 1) dX12_draw_126 127 rfl rfl (by decide) (by omega) (by omega) (fun v127 ev127 => ?_)
                  refine pv_istore_n (M := mX12_draw) 3 (lo2 := [.ref 123, .int x0, .int x1, .int v127, .int y13, .int v60, .int v64]) dX12_draw_127 128 rfl rfl (by decide) rfl rfl ?_
                  have k128 : DSr m14 m117 t x0.toInt.toNat y12.toInt v127.toInt := by rw [show y12.toInt = y12.toInt from rfl]; first | exact ⟨by rw [kx0]; omega, by rw [kD]; exact k60, kH, kG, Or.inl ⟨by rw [kD, ← k85p, ← k85c]; exact ⟨_, k99f, (k99v.resolve_right (fun q => by have q1 := q.1; omega)).2⟩, by omega, ⟨v64, _, by rw [kD]; exact k85c, by rw [kD, ← k85p, ← k85c]; exact k121p, by rw [kD, ← k85p]; exact k124⟩, by omega⟩⟩ | exact ⟨by rw [kx0]; omega, by rw [kD]; exact k60, fun a i q1 q2 _ _ _ => kF a i q1 q2, kG, Or.inr ⟨by rw [kD, ← k85p, ← k85c]; first | exact Or.inl ⟨_, k99f, (k99v.resolve_left (fun q => by have q1 := q.1; omega)).2⟩ | exact Or.inr (by omega), kF, by omega⟩⟩
                  refine iv_inc (M := mX12_draw) (C := 1) dX12_draw_128 131 rfl rfl (by decide) rfl rfl (by decide) (by omega) (by omega) (fun v129 ev129 => ?_)
                  show PV _ _ _ _ _ _ _ 131 [.ref 123, .int x0, .int x1, .int v127, .int v129, .int v60, .int v64] [] _
                  refine pv_goto (M := mX12_draw) (tgt := 25) dX12_draw_131 (by decide) ?_
                  refine pv_fg (lo2 := [.ref 123, .int x0, .int x1, .int v127, .int v129, pv_U, pv_U]) ⟨Or.inr rfl, ⟨Or.inr rfl, ⟨Or.inr rfl, ⟨Or.inr rfl, ⟨Or.inr rfl, ⟨Or.inl rfl, ⟨Or.inl rfl, trivial⟩⟩⟩⟩⟩⟩⟩ ?_
                  have kbD : DCr t x0.toInt.toNat v129.toInt.toNat m m117 v127.toInt := DCr_s kgD k128 (by omega)
                  exact ih20 v127 v129 m117 n118 (by first | omega | assumption | exact (iv_rng _).2 | exact (iv_rng _).1 | decide) (by first | omega | assumption | exact (iv_rng _).2 | exact (iv_rng _).1 | decide) (by first | omega | assumption | exact (iv_rng _).2 | exact (iv_rng _).1 | decide) (by first | omega | assumption | exact (iv_rng _).2 | exact (iv_rng _).1 | decide) (by first | omega | assumption | (show v129.toInt ≤ x1.toInt; omega) | decide) (by first | omega | assumption | (show v127.toInt ≤ v129.toInt; omega) | decide) kbD kLX I119 K120 (by omega)
                · have c97 := iv_eq (X := v83.toInt) (Y := 0) c97 rfl (by decide)
                  refine pv_goto (M := mX12_draw) (tgt := 128) dX12_draw_102 (by decide) ?_
                  have k128 : DSr m14 m79 t x0.toInt.toNat y12.toInt y12.toInt := by rw [show y12.toInt = y12.toInt from rfl]; first | exact ⟨by rw [kx0]; omega, by rw [kD]; exact k60, kH, kG, Or.inl ⟨by rw [kD, ← k85p, ← k85c]; exact ⟨_, k99f, (k99v.resolve_right (fun q => by have q1 := q.1; omega)).2⟩, by omega, ⟨v64, _, by rw [kD]; exact k85c, by rw [kD, ← k85p, ← k85c]; exact k121p, by rw [kD, ← k85p]; exact k124⟩, by omega⟩⟩ | exact ⟨by rw [kx0]; omega, by rw [kD]; exact k60, fun a i q1 q2 _ _ _ => kF a i q1 q2, kG, Or.inr ⟨by rw [kD, ← k85p, ← k85c]; first | exact Or.inl ⟨_, k99f, (k99v.resolve_left (fun q => by have q1 := q.1; omega)).2⟩ | exact Or.inr (by omega), kF, by omega⟩⟩
                  refine iv_inc (M := mX12_draw) (C := 1) dX12_draw_128 131 rfl rfl (by decide) rfl rfl (by decide) (by omega) (by omega) (fun v132 ev132 => ?_)
                  show PV _ _ _ _ _ _ _ 131 [.ref 123, .int x0, .int x1, .int y12, .int v132, .int v60, .int v64] [] _
                  refine pv_goto (M := mX12_draw) (tgt := 25) dX12_draw_131 (by decide) ?_
                  refine pv_fg (lo2 := [.ref 123, .int x0, .int x1, .int y12, .int v132, pv_U, pv_U]) ⟨Or.inr rfl, ⟨Or.inr rfl, ⟨Or.inr rfl, ⟨Or.inr rfl, ⟨Or.inr rfl, ⟨Or.inl rfl, ⟨Or.inl rfl, trivial⟩⟩⟩⟩⟩⟩⟩ ?_
                  have kbD : DCr t x0.toInt.toNat v132.toInt.toNat m m79 y12.toInt := DCr_s kgD k128 (by omega)
                  exact ih20 y12 v132 m79 n80 (by first | omega | assumption | exact (iv_rng _).2 | exact (iv_rng _).1 | decide) (by first | omega | assumption | exact (iv_rng _).2 | exact (iv_rng _).1 | decide) (by first | omega | assumption | exact (iv_rng _).2 | exact (iv_rng _).1 | decide) (by first | omega | assumption | exact (iv_rng _).2 | exact (iv_rng _).1 | decide) (by first | omega | assumption | (show v132.toInt ≤ x1.toInt; omega) | decide) (by first | omega | assumption | (show y12.toInt ≤ v132.toInt; omega) | decide) kbD kLX I81 K82 (by omega)
      have z134 : (0 : Int32).toInt = 0 := by decide
      have z135 : (0 : Int32).toInt = 0 := by decide
      exact lp19 (((40 - 0) : Int).toNat + 1) 0 0 m n (by first | omega | assumption | exact (iv_rng _).2 | exact (iv_rng _).1 | decide) (by first | omega | assumption | exact (iv_rng _).2 | exact (iv_rng _).1 | decide) (by first | omega | assumption | exact (iv_rng _).2 | exact (iv_rng _).1 | decide) (by first | omega | assumption | exact (iv_rng _).2 | exact (iv_rng _).1 | decide) (by first | omega | assumption | (show 0 ≤ x1.toInt; omega) | decide) (by first | omega | assumption | (show 0 ≤ 0; omega) | decide) ⟨rfl, by rw [Int32.toInt_zero]⟩ kLX I Kp (by omega)
    · have c11 := iv_eq (X := v9.toInt) (Y := 0) c11 rfl (by decide)
      refine pv_iconst (M := mX12_draw) (v := (-1)) dX12_draw_18 19 rfl (by decide) ?_
      have z136 : ((-1) : Int32).toInt = (-1) := by decide
      exact pv_iret (M := mX12_draw) dX12_draw_19 rfl rfl ⟨_, _, _, rfl, rfl, I, Kp, by decide, by decide, (Or.inl ⟨by omega, by decide, fun _ _ _ => rfl⟩)⟩
