set_option maxHeartbeats 2000000 in
set_option maxRecDepth 20000 in
theorem s_X11_isWidth_va (g : pv_G) {T : List mv_T} {m : Nat → Nat → Int32} {n : Nat → Nat → Int64} {r : Nat → Value} (hT : TX T) (I : IV BB m) (x0 : Int32) : PM g mX11_isWidth yX11_isWidth (sqP (mk T m n r) 0 1 (fun v => (v = 0 ∨ (1 ≤ x0.toInt ∧ x0.toInt ≤ 9)) ∧ ((v.toInt = 1 ∧ 1 ≤ x0.toInt ∧ x0.toInt ≤ 9) ∨ (v.toInt = 0 ∧ (x0.toInt < 1 ∨ 9 < x0.toInt))))) 1 0 0 [.int x0] (mk T m n r) := by
  have Kp : fr (wl []) m m := fr.rf
  refine PM.of 0 (lo := [.int x0]) rfl (by decide) rfl rfl (Nat.le_of_ble_eq_true rfl) ?_
  refine pv_iload_n (M := mX11_isWidth) 0 dX11_isWidth_0 1 rfl rfl rfl ?_
  refine pv_iconst (M := mX11_isWidth) (v := 1) dX11_isWidth_1 2 rfl (by decide) ?_
  refine pv_icmp_lt (M := mX11_isWidth) (tgt := 15) dX11_isWidth_2 5 rfl (by decide) (fun c1 => ?_) (fun c1 => ?_)
  · have c1 := iv_lt (X := x0.toInt) (Y := 1) c1 rfl (by decide)
    refine pv_iconst (M := mX11_isWidth) (v := 0) dX11_isWidth_15 16 rfl (by decide) ?_
    have z2 : (0 : Int32).toInt = 0 := by decide
    exact pv_iret (M := mX11_isWidth) dX11_isWidth_16 rfl rfl ⟨_, rfl, rfl, by decide, by decide, ⟨Or.inl rfl, Or.inr ⟨by decide, by omega⟩⟩⟩
  · have c1 := iv_nlt (X := x0.toInt) (Y := 1) c1 rfl (by decide)
    refine pv_iload_n (M := mX11_isWidth) 0 dX11_isWidth_5 6 rfl rfl rfl ?_
    refine pv_bipush (M := mX11_isWidth) (v := 9) dX11_isWidth_6 8 rfl (by decide) ?_
    refine pv_icmp_gt (M := mX11_isWidth) (tgt := 15) dX11_isWidth_8 11 rfl (by decide) (fun c3 => ?_) (fun c3 => ?_)
    · have c3 := iv_lt (X := 9) (Y := x0.toInt) c3 (by decide) rfl
      refine pv_iconst (M := mX11_isWidth) (v := 0) dX11_isWidth_15 16 rfl (by decide) ?_
      have z4 : (0 : Int32).toInt = 0 := by decide
      exact pv_iret (M := mX11_isWidth) dX11_isWidth_16 rfl rfl ⟨_, rfl, rfl, by decide, by decide, ⟨Or.inl rfl, Or.inr ⟨by decide, by omega⟩⟩⟩
    · have c3 := iv_nlt (X := 9) (Y := x0.toInt) c3 (by decide) rfl
      refine pv_iconst (M := mX11_isWidth) (v := 1) dX11_isWidth_11 12 rfl (by decide) ?_
      refine pv_goto (M := mX11_isWidth) (tgt := 16) dX11_isWidth_12 (by decide) ?_
      have z5 : (1 : Int32).toInt = 1 := by decide
      exact pv_iret (M := mX11_isWidth) dX11_isWidth_16 rfl rfl ⟨_, rfl, rfl, by decide, by decide, ⟨Or.inr (by omega), Or.inl ⟨by decide, by omega, by omega⟩⟩⟩
