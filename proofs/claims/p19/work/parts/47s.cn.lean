/-! THE SHORTEST asked for the first time: exactly -/
theorem s_X3_init_e (g : pv_G) {m : Nat → Nat → Int32} {n : Nat → Nat → Int64} {r : Nat → Value} (I : IV BB m) : PM g mX3_init yX3_init (sqVr TL2 BB WX ro r m (fun m' _ => m' 169 1 = 0)) 3 10 57190 [.ref 169] (mk TL m n r ++ [pv_o 3 [.null, .int 0, .null, .null, .int 0, .null, .null, .null, .null, .null]]) := by
  refine s_X3_init0 g (mk_len m n r) ?_
  rw [mk_c]
  generalize hG : TL2 = T
  have hC : TC T := hG.symm
  have hT : TX T := TC_TX hC
  refine pv_aload_n (M := mX3_init) 0 dX3_init_86 87 rfl rfl rfl ?_
  refine pv_callv (M := mX3_init) (as := []) (st := []) (kc2 := 0) (ks2 := 0) dX3_init_87 wd975 YX3_clearParts ⟨wd976, wd977⟩ (mk_get (tc169 hC)) rfl rfl (s_X3_clearParts g hT (IV_x I) hC) rfl rfl (Nat.le_of_ble_eq_true rfl) (by decide) rfl rfl 90 rfl (fun rv h1 q => ?_)
  obtain ⟨m2, n2, r2, rfl, rfl, I2, K2, o2, _⟩ := q
  refine pv_vret (M := mX3_init) dX3_init_90 rfl ⟨_, _, _, rfl, rfl, I2, ?_, ?_, ?_⟩
  · intro a i h
    have ha := WX_lt h
    rw [K2 a i (WX_wl (by decide) a i h)]
    unfold mx
    rw [if_pos ha]
  · intro j q
    rw [o2 j q]
    unfold rx
    rw [if_neg (by omega)]
  · show m2 169 1 = 0
    rw [K2 169 1 rfl]
    unfold mx
    rw [if_neg (by omega)]
theorem k_coverFor_ne (g : pv_G) {T : List mv_T} {m : Nat → Nat → Int32} {n : Nat → Nat → Int64} {r : Nat → Value} {la lb : Nat} (hTL : T = TL) (I : IV BB m) (R : RX T r la lb) (hc0 : r 2 = .null) (x0 : Int32) (hp0 : x0.toInt ≠ 0) (hp1 : (mbs x0 8).length ≤ 4) (hp2 : ∀ k, k ∈ mbs x0 8 → (m (61 + 2 * k) 1).toInt ≤ 12) : PM g mX11_coverFor yX11_coverFor (sqAr TL2 BB WX rn r m 169 (fun m' _ => m' 169 1 = x0 ∧ SHC m' x0 (m' 170 1).toInt)) 5 11 57200 [.ref 0, .int x0] (mk T m n r) := by
  have hT : TX T := by rw [hTL]; exact fun _ _ q => q
  refine PM.of 2 (lo := [.ref 0, .int x0, pv_U, pv_U]) rfl (by decide) rfl rfl (Nat.le_of_ble_eq_true rfl) ?_
  refine pv_aload_n (M := mX11_coverFor) 0 dX11_coverFor_0 1 rfl rfl rfl ?_
  refine mv_get (M := mX11_coverFor) (v := .null) dX11_coverFor_1 FX11 12 wd419 (by decide) (tl0 hT) rfl hc0 4 rfl ?_
  refine pv_ifnonnullN (M := mX11_coverFor) dX11_coverFor_4 7 rfl ?_
  subst hTL
  refine pv_new (M := mX11_coverFor) (kc := 10) (ks := 57190) (fs := dvX3) dX11_coverFor_7 FX3 wd967 wd968 wd146 pv_dfX3 (r2 := 169) (mk_len m n r) 10 rfl ?_
  refine pv_dup (M := mX11_coverFor) dX11_coverFor_10 11 rfl rfl ?_
  refine pv_calli (M := mX11_coverFor) (as := []) (st := [.ref 169]) (kc2 := 0) (ks2 := 0) dX11_coverFor_11 wd969 YX3_init ⟨rfl, rfl, wd970⟩ (s_X3_init_e g I) rfl rfl (Nat.le_of_ble_eq_true rfl) (by decide) rfl rfl 14 rfl (fun rv h1 q => ?_)
  generalize hG : TL2 = T at q ⊢
  obtain ⟨m1, n1, r1, rfl, rfl, I1, K1, o1, e1⟩ := q
  have hC : TC T := hG.symm
  have hT : TX T := TC_TX hC
  have R := RX_T2 R
  rw [hG] at R
  refine pv_goto (M := mX11_coverFor) (tgt := 21) dX11_coverFor_14 (by decide) ?_
  refine pv_astore_n (M := mX11_coverFor) 2 (lo2 := [.ref 0, .int x0, .ref 169, pv_U]) dX11_coverFor_21 22 rfl rfl (by decide) rfl rfl ?_
  refine pv_aload_n (M := mX11_coverFor) 0 dX11_coverFor_22 23 rfl rfl rfl ?_
  refine pv_aload_n (M := mX11_coverFor) 2 dX11_coverFor_23 24 rfl rfl rfl ?_
  refine mv_putr (M := mX11_coverFor) (j := 2) (v := .ref 169) dX11_coverFor_24 FX11 12 wd419 (by decide) rfl (tl0 hT) rfl (hu_of (by decide)) (NM2t hC) (fun _ => rfl) (fun _ => rfl) 27 rfl (fun r2 er2 => ?_)
  have or : rn r r2 := ⟨by rw [er2, up1_eq], fun j p q => by rw [er2, up1_ne p]; exact o1 j q⟩
  exact s_X11_coverFor_vte g hT I1 K1 or (RX_rn R or) hC or.1 x0 hp0 hp1 (fun k hk => by have z := mbs_lt hk; rw [K1 _ _ (WX_le (by omega))]; exact hp2 k hk) (fun q => absurd (by rw [e1]; exact Int32.toInt_zero) q)
