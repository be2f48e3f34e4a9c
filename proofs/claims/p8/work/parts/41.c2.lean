set_option maxHeartbeats 2000000 in
set_option maxRecDepth 20000 in
theorem s_J0_isLatin1_aae02 (g : pv_G) {T : List mv_T} {m : Nat → Nat → Int32} {n : Nat → Nat → Int64} {r : Nat → Value} (hT : TX T) (I : IV BB m) : PM g mJ0_isLatin1_aae02 yJ0_isLatin1_aae02 (sqP (mk T m n r) 1 1 (fun v => True)) 1 0 0 [.retAddr (g.2.2.1 6 + 1)] (mk T m n r) := by
  have Kp : fr (wl []) m m := fr.rf
  refine PM.of 0 (lo := [.retAddr (g.2.2.1 6 + 1)]) rfl (by decide) rfl rfl (Nat.le_of_ble_eq_true rfl) ?_
  refine pv_gets (M := mJ0_isLatin1_aae02) (v := 1) dJ0_isLatin1_aae02_0 wd584 3 rfl ?_
  refine pv_if_eq (M := mJ0_isLatin1_aae02) (tgt := 17) dJ0_isLatin1_aae02_3 6 rfl (by decide) (fun q => absurd q (by decide)) (fun _ => ?_)
  refine pv_aloadS_n (M := mJ0_isLatin1_aae02) 0 dJ0_isLatin1_aae02_6 7 rfl rfl rfl ?_
  refine pv_getC (M := mJ0_isLatin1_aae02) dJ0_isLatin1_aae02_7 wd1799 10 rfl ?_
  refine pv_if_ne (M := mJ0_isLatin1_aae02) (tgt := 17) dJ0_isLatin1_aae02_10 13 rfl (by decide) (fun q => absurd (by decide) q) (fun _ => ?_)
  refine pv_iconst (M := mJ0_isLatin1_aae02) (v := 1) dJ0_isLatin1_aae02_13 14 rfl (by decide) ?_
  refine pv_goto (M := mJ0_isLatin1_aae02) (tgt := 18) dJ0_isLatin1_aae02_14 (by decide) ?_
  exact pv_iret (M := mJ0_isLatin1_aae02) dJ0_isLatin1_aae02_18 rfl rfl ⟨_, rfl, rfl, by decide, by decide, trivial⟩
