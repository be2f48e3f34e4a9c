theorem wd154 : Cond.code objectInit ⟨#[0xb1]⟩ 1 none ∈ pv_T := pv_m 154 (by decide +kernel) (by decide +kernel)
abbrev dvX0 : List Value := [.null, .null, .null, .null]
theorem pv_df0X0 : ∀ j, j < 4 → defaultValue (tyX0 j) = vp_V dvX0 j := by decide +kernel
theorem pv_dfX0 : ∀ (b j : Nat), j < 4 → defaultValue (tyX0 j) = vp_V (dvX0.map (pv_lf b)) j := fun b j hj => by rw [show dvX0.map (pv_lf b) = dvX0 from rfl]; exact pv_df0X0 j hj
abbrev dvX1 : List Value := [.null, .null, .null, .null, .null, .null, .int 0]
theorem pv_df0X1 : ∀ j, j < 7 → defaultValue (tyX1 j) = vp_V dvX1 j := by decide +kernel
theorem pv_dfX1 : ∀ (b j : Nat), j < 7 → defaultValue (tyX1 j) = vp_V (dvX1.map (pv_lf b)) j := fun b j hj => by rw [show dvX1.map (pv_lf b) = dvX1 from rfl]; exact pv_df0X1 j hj
abbrev dvX2 : List Value := [.null, .null, .null, .null]
theorem pv_df0X2 : ∀ j, j < 4 → defaultValue (tyX2 j) = vp_V dvX2 j := by decide +kernel
theorem pv_dfX2 : ∀ (b j : Nat), j < 4 → defaultValue (tyX2 j) = vp_V (dvX2.map (pv_lf b)) j := fun b j hj => by rw [show dvX2.map (pv_lf b) = dvX2 from rfl]; exact pv_df0X2 j hj
abbrev dvX3 : List Value := [.null, .int 0, .null, .null, .int 0, .null, .null, .null, .null, .null]
theorem pv_df0X3 : ∀ j, j < 10 → defaultValue (tyX3 j) = vp_V dvX3 j := by decide +kernel
theorem pv_dfX3 : ∀ (b j : Nat), j < 10 → defaultValue (tyX3 j) = vp_V (dvX3.map (pv_lf b)) j := fun b j hj => by rw [show dvX3.map (pv_lf b) = dvX3 from rfl]; exact pv_df0X3 j hj
abbrev dvX4 : List Value := [.null, .null]
theorem pv_df0X4 : ∀ j, j < 2 → defaultValue (tyX4 j) = vp_V dvX4 j := by decide +kernel
theorem pv_dfX4 : ∀ (b j : Nat), j < 2 → defaultValue (tyX4 j) = vp_V (dvX4.map (pv_lf b)) j := fun b j hj => by rw [show dvX4.map (pv_lf b) = dvX4 from rfl]; exact pv_df0X4 j hj
abbrev dvX5 : List Value := [.null, .int 0, .null]
theorem pv_df0X5 : ∀ j, j < 3 → defaultValue (tyX5 j) = vp_V dvX5 j := by decide +kernel
theorem pv_dfX5 : ∀ (b j : Nat), j < 3 → defaultValue (tyX5 j) = vp_V (dvX5.map (pv_lf b)) j := fun b j hj => by rw [show dvX5.map (pv_lf b) = dvX5 from rfl]; exact pv_df0X5 j hj
abbrev dvX6 : List Value := [.null, .null, .int 0, .null, .null, .null, .null, .int 0, .null, .null, .int 0, .int 0]
theorem pv_df0X6 : ∀ j, j < 12 → defaultValue (tyX6 j) = vp_V dvX6 j := by decide +kernel
theorem pv_dfX6 : ∀ (b j : Nat), j < 12 → defaultValue (tyX6 j) = vp_V (dvX6.map (pv_lf b)) j := fun b j hj => by rw [show dvX6.map (pv_lf b) = dvX6 from rfl]; exact pv_df0X6 j hj
abbrev dvX7 : List Value := [.null, .null, .int 0, .int 0, .int 0]
theorem pv_df0X7 : ∀ j, j < 5 → defaultValue (tyX7 j) = vp_V dvX7 j := by decide +kernel
theorem pv_dfX7 : ∀ (b j : Nat), j < 5 → defaultValue (tyX7 j) = vp_V (dvX7.map (pv_lf b)) j := fun b j hj => by rw [show dvX7.map (pv_lf b) = dvX7 from rfl]; exact pv_df0X7 j hj
abbrev dvX8 : List Value := [.null, .int 0]
theorem pv_df0X8 : ∀ j, j < 2 → defaultValue (tyX8 j) = vp_V dvX8 j := by decide +kernel
theorem pv_dfX8 : ∀ (b j : Nat), j < 2 → defaultValue (tyX8 j) = vp_V (dvX8.map (pv_lf b)) j := fun b j hj => by rw [show dvX8.map (pv_lf b) = dvX8 from rfl]; exact pv_df0X8 j hj
abbrev dvX9 : List Value := [.null, .int 0, .int 0, .null, .null]
theorem pv_df0X9 : ∀ j, j < 5 → defaultValue (tyX9 j) = vp_V dvX9 j := by decide +kernel
theorem pv_dfX9 : ∀ (b j : Nat), j < 5 → defaultValue (tyX9 j) = vp_V (dvX9.map (pv_lf b)) j := fun b j hj => by rw [show dvX9.map (pv_lf b) = dvX9 from rfl]; exact pv_df0X9 j hj
abbrev dvX10 : List Value := [.null, .int 0]
theorem pv_df0X10 : ∀ j, j < 2 → defaultValue (tyX10 j) = vp_V dvX10 j := by decide +kernel
theorem pv_dfX10 : ∀ (b j : Nat), j < 2 → defaultValue (tyX10 j) = vp_V (dvX10.map (pv_lf b)) j := fun b j hj => by rw [show dvX10.map (pv_lf b) = dvX10 from rfl]; exact pv_df0X10 j hj
abbrev dvX11 : List Value := [.null, .null, .int 0, .null, .null, .null, .null, .int 0, .int 0, .null, .null, .null, .null, .null, .null, .null, .null]
theorem pv_df0X11 : ∀ j, j < 17 → defaultValue (tyX11 j) = vp_V dvX11 j := by decide +kernel
theorem pv_dfX11 : ∀ (b j : Nat), j < 17 → defaultValue (tyX11 j) = vp_V (dvX11.map (pv_lf b)) j := fun b j hj => by rw [show dvX11.map (pv_lf b) = dvX11 from rfl]; exact pv_df0X11 j hj
abbrev dvX12 : List Value := [.int 0, .int 0, .int 0, .int 0, .int 0, .null, .null, .null, .null, .null, .null, .int 0, .int 0, .int 0, .int 0, .int 0, .int 0, .int 0, .int 0, .int 0, .int 0, .null, .null, .null, .null, .null, .null, .null, .null, .null, .null, .null, .null, .null, .null, .null, .null, .null, .null, .null, .int 0, .int 0, .null, .null, .null, .null, .null, .null, .null, .null, .int 0, .null, .null, .null, .null, .null, .null, .null, .null, .null, .null, .int 0, .null, .null]
theorem pv_df0X12 : ∀ j, j < 64 → defaultValue (tyX12 j) = vp_V dvX12 j := by decide +kernel
theorem pv_dfX12 : ∀ (b j : Nat), j < 64 → defaultValue (tyX12 j) = vp_V (dvX12.map (pv_lf b)) j := fun b j hj => by rw [show dvX12.map (pv_lf b) = dvX12 from rfl]; exact pv_df0X12 j hj
set_option maxHeartbeats 4000000 in
set_option maxRecDepth 20000 in
theorem k_X10_init (g : pv_G) {h0 : List pv_C} {n : Nat} (hn : h0.length = n) : PM g mX10_init yX10_init (pv_is none (h0 ++ [pv_o 10 [.ref (n + 1), .int 0], pv_i 200 (fun _ => 0)])) 1 1 200 [.ref (n + 0)] (h0 ++ [pv_o 10 [.null, .int 0]]) := by
  refine PM.of 0 (lo := [.ref (n + 0)]) rfl (by decide) rfl rfl (Nat.le_of_ble_eq_true rfl) ?_
  refine pv_aload_n (M := mX10_init) 0 dX10_init_0 1 rfl rfl rfl ?_
  refine pv_obj (M := mX10_init) dX10_init_1 wd160 wd153 wd154 (Nat.le_of_ble_eq_true rfl) (by decide) 4 rfl ?_
  refine pv_aload_n (M := mX10_init) 0 dX10_init_4 5 rfl rfl rfl ?_
  refine pv_sipush (M := mX10_init) (v := 200) dX10_init_5 8 rfl (by decide) ?_
  refine pv_newa_i (M := mX10_init) (kc := 0) (ks := 0) dX10_init_8 wd170 (by decide) 200 (by decide) (by decide) (r2 := n + 1) (pv_f3 hn rfl) 10 rfl ?_
  refine pv_f4 (s3 := [pv_o 10 [.null, .int 0], pv_i 200 (fun _ => 0)]) rfl ?_
  refine pv_putF (M := mX10_init) (h2 := h0 ++ [pv_o 10 [.ref (n + 1), .int 0], pv_i 200 (fun _ => 0)]) (fs2 := [.ref (n + 1), .int 0]) dX10_init_10 FX10 0 wd161 (by decide) rfl rfl rfl (pv_f1 hn rfl) (Nat.le_of_ble_eq_true rfl) (fun _ => rfl) (fun _ => rfl) rfl (pv_f2 hn rfl) 13 rfl ?_
  refine pv_aload_n (M := mX10_init) 0 dX10_init_13 14 rfl rfl rfl ?_
  refine pv_iconst (M := mX10_init) (v := 0) dX10_init_14 15 rfl (by decide) ?_
  refine pv_put (M := mX10_init) (h2 := h0 ++ [pv_o 10 [.ref (n + 1), .int 0], pv_i 200 (fun _ => 0)]) (fs2 := [.ref (n + 1), .int 0]) dX10_init_15 FX10 1 wd163 (by decide) rfl (pv_f1 hn rfl) (Nat.le_of_ble_eq_true rfl) (fun _ => rfl) (fun _ => rfl) rfl (pv_f2 hn rfl) 18 rfl ?_
  exact pv_vret (M := mX10_init) dX10_init_18 rfl ⟨rfl, rfl⟩

set_option maxHeartbeats 4000000 in
set_option maxRecDepth 20000 in
theorem k_X8_init (g : pv_G) {h0 : List pv_C} {n : Nat} (hn : h0.length = n) : PM g mX8_init yX8_init (pv_is none (h0 ++ [pv_o 8 [.ref (n + 1), .int 0], pv_i 40 (fun _ => 0)])) 1 1 40 [.ref (n + 0), .int 40] (h0 ++ [pv_o 8 [.null, .int 0]]) := by
  refine PM.of 0 (lo := [.ref (n + 0), .int 40]) rfl (by decide) rfl rfl (Nat.le_of_ble_eq_true rfl) ?_
  refine pv_aload_n (M := mX8_init) 0 dX8_init_0 1 rfl rfl rfl ?_
  refine pv_obj (M := mX8_init) dX8_init_1 wd183 wd153 wd154 (Nat.le_of_ble_eq_true rfl) (by decide) 4 rfl ?_
  refine pv_aload_n (M := mX8_init) 0 dX8_init_4 5 rfl rfl rfl ?_
  refine pv_iconst (M := mX8_init) (v := 0) dX8_init_5 6 rfl (by decide) ?_
  refine pv_put (M := mX8_init) (h2 := h0 ++ [pv_o 8 [.null, .int 0]]) (fs2 := [.null, .int 0]) dX8_init_6 FX8 1 wd193 (by decide) rfl (pv_f1 hn rfl) (Nat.le_of_ble_eq_true rfl) (fun _ => rfl) (fun _ => rfl) rfl (pv_f2 hn rfl) 9 rfl ?_
  refine pv_aload_n (M := mX8_init) 0 dX8_init_9 10 rfl rfl rfl ?_
  refine pv_iload_n (M := mX8_init) 1 dX8_init_10 11 rfl rfl rfl ?_
  refine pv_iconst (M := mX8_init) (v := 0) dX8_init_11 12 rfl (by decide) ?_
  refine pv_max (M := mX8_init) dX8_init_12 wd184 Wmmax (Nat.le_of_ble_eq_true rfl) (by decide) (v := 40) (by decide) 15 rfl ?_
  refine pv_newa_i (M := mX8_init) (kc := 0) (ks := 0) dX8_init_15 wd170 (by decide) 40 (by decide) (by decide) (r2 := n + 1) (pv_f3 hn rfl) 17 rfl ?_
  refine pv_f4 (s3 := [pv_o 8 [.null, .int 0], pv_i 40 (fun _ => 0)]) rfl ?_
  refine pv_putF (M := mX8_init) (h2 := h0 ++ [pv_o 8 [.ref (n + 1), .int 0], pv_i 40 (fun _ => 0)]) (fs2 := [.ref (n + 1), .int 0]) dX8_init_17 FX8 0 wd187 (by decide) rfl rfl rfl (pv_f1 hn rfl) (Nat.le_of_ble_eq_true rfl) (fun _ => rfl) (fun _ => rfl) rfl (pv_f2 hn rfl) 20 rfl ?_
  exact pv_vret (M := mX8_init) dX8_init_20 rfl ⟨rfl, rfl⟩

set_option maxHeartbeats 4000000 in
set_option maxRecDepth 20000 in
theorem k_X0_init (g : pv_G) {h0 : List pv_C} {n : Nat} (hn : h0.length = n) : PM g mX0_init yX0_init (pv_is none (h0 ++ [pv_o 0 [.ref (n + 1), .ref (n + 3), .ref (n + 5), .ref (n + 6)], pv_o 8 [.ref (n + 2), .int 0], pv_i 40 (fun _ => 0), pv_o 8 [.ref (n + 4), .int 0], pv_i 40 (fun _ => 0), pv_i 40 (fun _ => 0), pv_z 40 (fun _ => 0)])) 2 6 164 [.ref (n + 0)] (h0 ++ [pv_o 0 [.null, .null, .null, .null]]) := by
  refine PM.of 0 (lo := [.ref (n + 0)]) rfl (by decide) rfl rfl (Nat.le_of_ble_eq_true rfl) ?_
  refine pv_aload_n (M := mX0_init) 0 dX0_init_0 1 rfl rfl rfl ?_
  refine pv_obj (M := mX0_init) dX0_init_1 wd177 wd153 wd154 (Nat.le_of_ble_eq_true rfl) (by decide) 4 rfl ?_
  refine pv_aload_n (M := mX0_init) 0 dX0_init_4 5 rfl rfl rfl ?_
  refine pv_new (M := mX0_init) (kc := 5) (ks := 162) (fs := dvX8) dX0_init_5 FX8 wd178 wd179 wd128 pv_dfX8 (r2 := n + 1) (pv_f3 hn rfl) 8 rfl ?_
  refine pv_f4 (s3 := [pv_o 0 [.null, .null, .null, .null], pv_o 8 [.null, .int 0]]) rfl ?_
  refine pv_dup (M := mX0_init) dX0_init_8 9 rfl rfl ?_
  refine pv_bipush (M := mX0_init) (v := 40) dX0_init_9 11 rfl (by decide) ?_
  refine pv_calli (M := mX0_init) (as := [.int 40]) (st := [.ref (n + 1), .ref (n + 0)]) (kc2 := 4) (ks2 := 122) dX0_init_11 wd180 YX8_init ⟨rfl, rfl, wd181⟩ (pv_B (s1 := [pv_o 0 [.null, .null, .null, .null]]) (s2 := [pv_o 8 [.null, .int 0]]) (s3 := [pv_o 0 [.null, .null, .null, .null], pv_o 8 [.null, .int 0]]) rfl (k_X8_init g (h0 := h0 ++ [pv_o 0 [.null, .null, .null, .null]]) (n := n + 1) (pv_f3 hn rfl))) rfl rfl (Nat.le_of_ble_eq_true rfl) (by decide) rfl rfl 14 rfl (pv_k0 ?_)
  refine pv_f4 (s3 := [pv_o 0 [.null, .null, .null, .null], pv_o 8 [.ref (n + 2), .int 0], pv_i 40 (fun _ => 0)]) rfl ?_
  refine pv_putF (M := mX0_init) (h2 := h0 ++ [pv_o 0 [.ref (n + 1), .null, .null, .null], pv_o 8 [.ref (n + 2), .int 0], pv_i 40 (fun _ => 0)]) (fs2 := [.ref (n + 1), .null, .null, .null]) dX0_init_14 FX0 0 wd207 (by decide) rfl rfl rfl (pv_f1 hn rfl) (Nat.le_of_ble_eq_true rfl) (fun _ => rfl) (fun _ => rfl) rfl (pv_f2 hn rfl) 17 rfl ?_
  refine pv_aload_n (M := mX0_init) 0 dX0_init_17 18 rfl rfl rfl ?_
  refine pv_new (M := mX0_init) (kc := 3) (ks := 120) (fs := dvX8) dX0_init_18 FX8 wd178 wd179 wd128 pv_dfX8 (r2 := n + 3) (pv_f3 hn rfl) 21 rfl ?_
  refine pv_f4 (s3 := [pv_o 0 [.ref (n + 1), .null, .null, .null], pv_o 8 [.ref (n + 2), .int 0], pv_i 40 (fun _ => 0), pv_o 8 [.null, .int 0]]) rfl ?_
  refine pv_dup (M := mX0_init) dX0_init_21 22 rfl rfl ?_
  refine pv_bipush (M := mX0_init) (v := 40) dX0_init_22 24 rfl (by decide) ?_
  refine pv_calli (M := mX0_init) (as := [.int 40]) (st := [.ref (n + 3), .ref (n + 0)]) (kc2 := 2) (ks2 := 80) dX0_init_24 wd180 YX8_init ⟨rfl, rfl, wd181⟩ (pv_B (s1 := [pv_o 0 [.ref (n + 1), .null, .null, .null], pv_o 8 [.ref (n + 2), .int 0], pv_i 40 (fun _ => 0)]) (s2 := [pv_o 8 [.null, .int 0]]) (s3 := [pv_o 0 [.ref (n + 1), .null, .null, .null], pv_o 8 [.ref (n + 2), .int 0], pv_i 40 (fun _ => 0), pv_o 8 [.null, .int 0]]) rfl (k_X8_init g (h0 := h0 ++ [pv_o 0 [.ref (n + 1), .null, .null, .null], pv_o 8 [.ref (n + 2), .int 0], pv_i 40 (fun _ => 0)]) (n := n + 3) (pv_f3 hn rfl))) rfl rfl (Nat.le_of_ble_eq_true rfl) (by decide) rfl rfl 27 rfl (pv_k0 ?_)
  refine pv_f4 (s3 := [pv_o 0 [.ref (n + 1), .null, .null, .null], pv_o 8 [.ref (n + 2), .int 0], pv_i 40 (fun _ => 0), pv_o 8 [.ref (n + 4), .int 0], pv_i 40 (fun _ => 0)]) rfl ?_
  refine pv_putF (M := mX0_init) (h2 := h0 ++ [pv_o 0 [.ref (n + 1), .ref (n + 3), .null, .null], pv_o 8 [.ref (n + 2), .int 0], pv_i 40 (fun _ => 0), pv_o 8 [.ref (n + 4), .int 0], pv_i 40 (fun _ => 0)]) (fs2 := [.ref (n + 1), .ref (n + 3), .null, .null]) dX0_init_27 FX0 1 wd209 (by decide) rfl rfl rfl (pv_f1 hn rfl) (Nat.le_of_ble_eq_true rfl) (fun _ => rfl) (fun _ => rfl) rfl (pv_f2 hn rfl) 30 rfl ?_
  refine pv_aload_n (M := mX0_init) 0 dX0_init_30 31 rfl rfl rfl ?_
  refine pv_bipush (M := mX0_init) (v := 40) dX0_init_31 33 rfl (by decide) ?_
  refine pv_newa_i (M := mX0_init) (kc := 1) (ks := 40) dX0_init_33 wd170 (by decide) 40 (by decide) (by decide) (r2 := n + 5) (pv_f3 hn rfl) 35 rfl ?_
  refine pv_f4 (s3 := [pv_o 0 [.ref (n + 1), .ref (n + 3), .null, .null], pv_o 8 [.ref (n + 2), .int 0], pv_i 40 (fun _ => 0), pv_o 8 [.ref (n + 4), .int 0], pv_i 40 (fun _ => 0), pv_i 40 (fun _ => 0)]) rfl ?_
  refine pv_putF (M := mX0_init) (h2 := h0 ++ [pv_o 0 [.ref (n + 1), .ref (n + 3), .ref (n + 5), .null], pv_o 8 [.ref (n + 2), .int 0], pv_i 40 (fun _ => 0), pv_o 8 [.ref (n + 4), .int 0], pv_i 40 (fun _ => 0), pv_i 40 (fun _ => 0)]) (fs2 := [.ref (n + 1), .ref (n + 3), .ref (n + 5), .null]) dX0_init_35 FX0 2 wd212 (by decide) rfl rfl rfl (pv_f1 hn rfl) (Nat.le_of_ble_eq_true rfl) (fun _ => rfl) (fun _ => rfl) rfl (pv_f2 hn rfl) 38 rfl ?_
  refine pv_aload_n (M := mX0_init) 0 dX0_init_38 39 rfl rfl rfl ?_
  refine pv_bipush (M := mX0_init) (v := 40) dX0_init_39 41 rfl (by decide) ?_
  refine pv_newa_z (M := mX0_init) (kc := 0) (ks := 0) dX0_init_41 wd223 (by decide) 40 (by decide) (by decide) (r2 := n + 6) (pv_f3 hn rfl) 43 rfl ?_
  refine pv_f4 (s3 := [pv_o 0 [.ref (n + 1), .ref (n + 3), .ref (n + 5), .null], pv_o 8 [.ref (n + 2), .int 0], pv_i 40 (fun _ => 0), pv_o 8 [.ref (n + 4), .int 0], pv_i 40 (fun _ => 0), pv_i 40 (fun _ => 0), pv_z 40 (fun _ => 0)]) rfl ?_
  refine pv_putF (M := mX0_init) (h2 := h0 ++ [pv_o 0 [.ref (n + 1), .ref (n + 3), .ref (n + 5), .ref (n + 6)], pv_o 8 [.ref (n + 2), .int 0], pv_i 40 (fun _ => 0), pv_o 8 [.ref (n + 4), .int 0], pv_i 40 (fun _ => 0), pv_i 40 (fun _ => 0), pv_z 40 (fun _ => 0)]) (fs2 := [.ref (n + 1), .ref (n + 3), .ref (n + 5), .ref (n + 6)]) dX0_init_43 FX0 3 wd213 (by decide) rfl rfl rfl (pv_f1 hn rfl) (Nat.le_of_ble_eq_true rfl) (fun _ => rfl) (fun _ => rfl) rfl (pv_f2 hn rfl) 46 rfl ?_
  exact pv_vret (M := mX0_init) dX0_init_46 rfl ⟨rfl, rfl⟩

set_option maxHeartbeats 4000000 in
set_option maxRecDepth 20000 in
theorem k_X8_init_2 (g : pv_G) {h0 : List pv_C} {n : Nat} (hn : h0.length = n) : PM g mX8_init yX8_init (pv_is none (h0 ++ [pv_o 8 [.ref (n + 1), .int 0], pv_i 16 (fun _ => 0)])) 1 1 16 [.ref (n + 0), .int 16] (h0 ++ [pv_o 8 [.null, .int 0]]) := by
  refine PM.of 0 (lo := [.ref (n + 0), .int 16]) rfl (by decide) rfl rfl (Nat.le_of_ble_eq_true rfl) ?_
  refine pv_aload_n (M := mX8_init) 0 dX8_init_0 1 rfl rfl rfl ?_
  refine pv_obj (M := mX8_init) dX8_init_1 wd183 wd153 wd154 (Nat.le_of_ble_eq_true rfl) (by decide) 4 rfl ?_
  refine pv_aload_n (M := mX8_init) 0 dX8_init_4 5 rfl rfl rfl ?_
  refine pv_iconst (M := mX8_init) (v := 0) dX8_init_5 6 rfl (by decide) ?_
  refine pv_put (M := mX8_init) (h2 := h0 ++ [pv_o 8 [.null, .int 0]]) (fs2 := [.null, .int 0]) dX8_init_6 FX8 1 wd193 (by decide) rfl (pv_f1 hn rfl) (Nat.le_of_ble_eq_true rfl) (fun _ => rfl) (fun _ => rfl) rfl (pv_f2 hn rfl) 9 rfl ?_
  refine pv_aload_n (M := mX8_init) 0 dX8_init_9 10 rfl rfl rfl ?_
  refine pv_iload_n (M := mX8_init) 1 dX8_init_10 11 rfl rfl rfl ?_
  refine pv_iconst (M := mX8_init) (v := 0) dX8_init_11 12 rfl (by decide) ?_
  refine pv_max (M := mX8_init) dX8_init_12 wd184 Wmmax (Nat.le_of_ble_eq_true rfl) (by decide) (v := 16) (by decide) 15 rfl ?_
  refine pv_newa_i (M := mX8_init) (kc := 0) (ks := 0) dX8_init_15 wd170 (by decide) 16 (by decide) (by decide) (r2 := n + 1) (pv_f3 hn rfl) 17 rfl ?_
  refine pv_f4 (s3 := [pv_o 8 [.null, .int 0], pv_i 16 (fun _ => 0)]) rfl ?_
  refine pv_putF (M := mX8_init) (h2 := h0 ++ [pv_o 8 [.ref (n + 1), .int 0], pv_i 16 (fun _ => 0)]) (fs2 := [.ref (n + 1), .int 0]) dX8_init_17 FX8 0 wd187 (by decide) rfl rfl rfl (pv_f1 hn rfl) (Nat.le_of_ble_eq_true rfl) (fun _ => rfl) (fun _ => rfl) rfl (pv_f2 hn rfl) 20 rfl ?_
  exact pv_vret (M := mX8_init) dX8_init_20 rfl ⟨rfl, rfl⟩

set_option maxHeartbeats 4000000 in
set_option maxRecDepth 20000 in
theorem k_X6_init (g : pv_G) {h0 : List pv_C} {n : Nat} (hn : h0.length = n) : PM g mX6_init yX6_init (pv_is none (h0 ++ [pv_o 6 [.ref (n + 1), .ref (n + 2), .int 0, .ref (n + 3), .ref (n + 4), .ref (n + 5), .ref (n + 6), .int 0, .ref (n + 7), .ref (n + 8), .int 0, .int 0], pv_i 160 (fun _ => 0), pv_i 160 (fun _ => 0), pv_i 12 (fun _ => 0), pv_i 12 (fun _ => 0), pv_i 12 (fun _ => 0), pv_i 12 (fun _ => 0), pv_i 10 (fun _ => 0), pv_i 32 (fun _ => 0)])) 1 8 410 [.ref (n + 0)] (h0 ++ [pv_o 6 [.null, .null, .int 0, .null, .null, .null, .null, .int 0, .null, .null, .int 0, .int 0]]) := by
  refine PM.of 0 (lo := [.ref (n + 0)]) rfl (by decide) rfl rfl (Nat.le_of_ble_eq_true rfl) ?_
  refine pv_aload_n (M := mX6_init) 0 dX6_init_0 1 rfl rfl rfl ?_
  refine pv_obj (M := mX6_init) dX6_init_1 wd232 wd153 wd154 (Nat.le_of_ble_eq_true rfl) (by decide) 4 rfl ?_
  refine pv_aload_n (M := mX6_init) 0 dX6_init_4 5 rfl rfl rfl ?_
  refine pv_sipush (M := mX6_init) (v := 160) dX6_init_5 8 rfl (by decide) ?_
  refine pv_newa_i (M := mX6_init) (kc := 7) (ks := 250) dX6_init_8 wd170 (by decide) 160 (by decide) (by decide) (r2 := n + 1) (pv_f3 hn rfl) 10 rfl ?_
  refine pv_f4 (s3 := [pv_o 6 [.null, .null, .int 0, .null, .null, .null, .null, .int 0, .null, .null, .int 0, .int 0], pv_i 160 (fun _ => 0)]) rfl ?_
  refine pv_putF (M := mX6_init) (h2 := h0 ++ [pv_o 6 [.ref (n + 1), .null, .int 0, .null, .null, .null, .null, .int 0, .null, .null, .int 0, .int 0], pv_i 160 (fun _ => 0)]) (fs2 := [.ref (n + 1), .null, .int 0, .null, .null, .null, .null, .int 0, .null, .null, .int 0, .int 0]) dX6_init_10 FX6 0 wd233 (by decide) rfl rfl rfl (pv_f1 hn rfl) (Nat.le_of_ble_eq_true rfl) (fun _ => rfl) (fun _ => rfl) rfl (pv_f2 hn rfl) 13 rfl ?_
  refine pv_aload_n (M := mX6_init) 0 dX6_init_13 14 rfl rfl rfl ?_
  refine pv_sipush (M := mX6_init) (v := 160) dX6_init_14 17 rfl (by decide) ?_
  refine pv_newa_i (M := mX6_init) (kc := 6) (ks := 90) dX6_init_17 wd170 (by decide) 160 (by decide) (by decide) (r2 := n + 2) (pv_f3 hn rfl) 19 rfl ?_
  refine pv_f4 (s3 := [pv_o 6 [.ref (n + 1), .null, .int 0, .null, .null, .null, .null, .int 0, .null, .null, .int 0, .int 0], pv_i 160 (fun _ => 0), pv_i 160 (fun _ => 0)]) rfl ?_
  refine pv_putF (M := mX6_init) (h2 := h0 ++ [pv_o 6 [.ref (n + 1), .ref (n + 2), .int 0, .null, .null, .null, .null, .int 0, .null, .null, .int 0, .int 0], pv_i 160 (fun _ => 0), pv_i 160 (fun _ => 0)]) (fs2 := [.ref (n + 1), .ref (n + 2), .int 0, .null, .null, .null, .null, .int 0, .null, .null, .int 0, .int 0]) dX6_init_19 FX6 1 wd234 (by decide) rfl rfl rfl (pv_f1 hn rfl) (Nat.le_of_ble_eq_true rfl) (fun _ => rfl) (fun _ => rfl) rfl (pv_f2 hn rfl) 22 rfl ?_
  refine pv_aload_n (M := mX6_init) 0 dX6_init_22 23 rfl rfl rfl ?_
  refine pv_iconst (M := mX6_init) (v := 0) dX6_init_23 24 rfl (by decide) ?_
  refine pv_put (M := mX6_init) (h2 := h0 ++ [pv_o 6 [.ref (n + 1), .ref (n + 2), .int 0, .null, .null, .null, .null, .int 0, .null, .null, .int 0, .int 0], pv_i 160 (fun _ => 0), pv_i 160 (fun _ => 0)]) (fs2 := [.ref (n + 1), .ref (n + 2), .int 0, .null, .null, .null, .null, .int 0, .null, .null, .int 0, .int 0]) dX6_init_24 FX6 2 wd235 (by decide) rfl (pv_f1 hn rfl) (Nat.le_of_ble_eq_true rfl) (fun _ => rfl) (fun _ => rfl) rfl (pv_f2 hn rfl) 27 rfl ?_
  refine pv_aload_n (M := mX6_init) 0 dX6_init_27 28 rfl rfl rfl ?_
  refine pv_bipush (M := mX6_init) (v := 12) dX6_init_28 30 rfl (by decide) ?_
  refine pv_newa_i (M := mX6_init) (kc := 5) (ks := 78) dX6_init_30 wd170 (by decide) 12 (by decide) (by decide) (r2 := n + 3) (pv_f3 hn rfl) 32 rfl ?_
  refine pv_f4 (s3 := [pv_o 6 [.ref (n + 1), .ref (n + 2), .int 0, .null, .null, .null, .null, .int 0, .null, .null, .int 0, .int 0], pv_i 160 (fun _ => 0), pv_i 160 (fun _ => 0), pv_i 12 (fun _ => 0)]) rfl ?_
  refine pv_putF (M := mX6_init) (h2 := h0 ++ [pv_o 6 [.ref (n + 1), .ref (n + 2), .int 0, .ref (n + 3), .null, .null, .null, .int 0, .null, .null, .int 0, .int 0], pv_i 160 (fun _ => 0), pv_i 160 (fun _ => 0), pv_i 12 (fun _ => 0)]) (fs2 := [.ref (n + 1), .ref (n + 2), .int 0, .ref (n + 3), .null, .null, .null, .int 0, .null, .null, .int 0, .int 0]) dX6_init_32 FX6 3 wd236 (by decide) rfl rfl rfl (pv_f1 hn rfl) (Nat.le_of_ble_eq_true rfl) (fun _ => rfl) (fun _ => rfl) rfl (pv_f2 hn rfl) 35 rfl ?_
  refine pv_aload_n (M := mX6_init) 0 dX6_init_35 36 rfl rfl rfl ?_
  refine pv_bipush (M := mX6_init) (v := 12) dX6_init_36 38 rfl (by decide) ?_
  refine pv_newa_i (M := mX6_init) (kc := 4) (ks := 66) dX6_init_38 wd170 (by decide) 12 (by decide) (by decide) (r2 := n + 4) (pv_f3 hn rfl) 40 rfl ?_
  refine pv_f4 (s3 := [pv_o 6 [.ref (n + 1), .ref (n + 2), .int 0, .ref (n + 3), .null, .null, .null, .int 0, .null, .null, .int 0, .int 0], pv_i 160 (fun _ => 0), pv_i 160 (fun _ => 0), pv_i 12 (fun _ => 0), pv_i 12 (fun _ => 0)]) rfl ?_
  refine pv_putF (M := mX6_init) (h2 := h0 ++ [pv_o 6 [.ref (n + 1), .ref (n + 2), .int 0, .ref (n + 3), .ref (n + 4), .null, .null, .int 0, .null, .null, .int 0, .int 0], pv_i 160 (fun _ => 0), pv_i 160 (fun _ => 0), pv_i 12 (fun _ => 0), pv_i 12 (fun _ => 0)]) (fs2 := [.ref (n + 1), .ref (n + 2), .int 0, .ref (n + 3), .ref (n + 4), .null, .null, .int 0, .null, .null, .int 0, .int 0]) dX6_init_40 FX6 4 wd237 (by decide) rfl rfl rfl (pv_f1 hn rfl) (Nat.le_of_ble_eq_true rfl) (fun _ => rfl) (fun _ => rfl) rfl (pv_f2 hn rfl) 43 rfl ?_
  refine pv_aload_n (M := mX6_init) 0 dX6_init_43 44 rfl rfl rfl ?_
  refine pv_bipush (M := mX6_init) (v := 12) dX6_init_44 46 rfl (by decide) ?_
  refine pv_newa_i (M := mX6_init) (kc := 3) (ks := 54) dX6_init_46 wd170 (by decide) 12 (by decide) (by decide) (r2 := n + 5) (pv_f3 hn rfl) 48 rfl ?_
  refine pv_f4 (s3 := [pv_o 6 [.ref (n + 1), .ref (n + 2), .int 0, .ref (n + 3), .ref (n + 4), .null, .null, .int 0, .null, .null, .int 0, .int 0], pv_i 160 (fun _ => 0), pv_i 160 (fun _ => 0), pv_i 12 (fun _ => 0), pv_i 12 (fun _ => 0), pv_i 12 (fun _ => 0)]) rfl ?_
  refine pv_putF (M := mX6_init) (h2 := h0 ++ [pv_o 6 [.ref (n + 1), .ref (n + 2), .int 0, .ref (n + 3), .ref (n + 4), .ref (n + 5), .null, .int 0, .null, .null, .int 0, .int 0], pv_i 160 (fun _ => 0), pv_i 160 (fun _ => 0), pv_i 12 (fun _ => 0), pv_i 12 (fun _ => 0), pv_i 12 (fun _ => 0)]) (fs2 := [.ref (n + 1), .ref (n + 2), .int 0, .ref (n + 3), .ref (n + 4), .ref (n + 5), .null, .int 0, .null, .null, .int 0, .int 0]) dX6_init_48 FX6 5 wd238 (by decide) rfl rfl rfl (pv_f1 hn rfl) (Nat.le_of_ble_eq_true rfl) (fun _ => rfl) (fun _ => rfl) rfl (pv_f2 hn rfl) 51 rfl ?_
  refine pv_aload_n (M := mX6_init) 0 dX6_init_51 52 rfl rfl rfl ?_
  refine pv_bipush (M := mX6_init) (v := 12) dX6_init_52 54 rfl (by decide) ?_
  refine pv_newa_i (M := mX6_init) (kc := 2) (ks := 42) dX6_init_54 wd170 (by decide) 12 (by decide) (by decide) (r2 := n + 6) (pv_f3 hn rfl) 56 rfl ?_
  refine pv_f4 (s3 := [pv_o 6 [.ref (n + 1), .ref (n + 2), .int 0, .ref (n + 3), .ref (n + 4), .ref (n + 5), .null, .int 0, .null, .null, .int 0, .int 0], pv_i 160 (fun _ => 0), pv_i 160 (fun _ => 0), pv_i 12 (fun _ => 0), pv_i 12 (fun _ => 0), pv_i 12 (fun _ => 0), pv_i 12 (fun _ => 0)]) rfl ?_
  refine pv_putF (M := mX6_init) (h2 := h0 ++ [pv_o 6 [.ref (n + 1), .ref (n + 2), .int 0, .ref (n + 3), .ref (n + 4), .ref (n + 5), .ref (n + 6), .int 0, .null, .null, .int 0, .int 0], pv_i 160 (fun _ => 0), pv_i 160 (fun _ => 0), pv_i 12 (fun _ => 0), pv_i 12 (fun _ => 0), pv_i 12 (fun _ => 0), pv_i 12 (fun _ => 0)]) (fs2 := [.ref (n + 1), .ref (n + 2), .int 0, .ref (n + 3), .ref (n + 4), .ref (n + 5), .ref (n + 6), .int 0, .null, .null, .int 0, .int 0]) dX6_init_56 FX6 6 wd239 (by decide) rfl rfl rfl (pv_f1 hn rfl) (Nat.le_of_ble_eq_true rfl) (fun _ => rfl) (fun _ => rfl) rfl (pv_f2 hn rfl) 59 rfl ?_
  refine pv_aload_n (M := mX6_init) 0 dX6_init_59 60 rfl rfl rfl ?_
  refine pv_iconst (M := mX6_init) (v := 0) dX6_init_60 61 rfl (by decide) ?_
  refine pv_put (M := mX6_init) (h2 := h0 ++ [pv_o 6 [.ref (n + 1), .ref (n + 2), .int 0, .ref (n + 3), .ref (n + 4), .ref (n + 5), .ref (n + 6), .int 0, .null, .null, .int 0, .int 0], pv_i 160 (fun _ => 0), pv_i 160 (fun _ => 0), pv_i 12 (fun _ => 0), pv_i 12 (fun _ => 0), pv_i 12 (fun _ => 0), pv_i 12 (fun _ => 0)]) (fs2 := [.ref (n + 1), .ref (n + 2), .int 0, .ref (n + 3), .ref (n + 4), .ref (n + 5), .ref (n + 6), .int 0, .null, .null, .int 0, .int 0]) dX6_init_61 FX6 7 wd240 (by decide) rfl (pv_f1 hn rfl) (Nat.le_of_ble_eq_true rfl) (fun _ => rfl) (fun _ => rfl) rfl (pv_f2 hn rfl) 64 rfl ?_
  refine pv_aload_n (M := mX6_init) 0 dX6_init_64 65 rfl rfl rfl ?_
  refine pv_bipush (M := mX6_init) (v := 10) dX6_init_65 67 rfl (by decide) ?_
  refine pv_newa_i (M := mX6_init) (kc := 1) (ks := 32) dX6_init_67 wd170 (by decide) 10 (by decide) (by decide) (r2 := n + 7) (pv_f3 hn rfl) 69 rfl ?_
  refine pv_f4 (s3 := [pv_o 6 [.ref (n + 1), .ref (n + 2), .int 0, .ref (n + 3), .ref (n + 4), .ref (n + 5), .ref (n + 6), .int 0, .null, .null, .int 0, .int 0], pv_i 160 (fun _ => 0), pv_i 160 (fun _ => 0), pv_i 12 (fun _ => 0), pv_i 12 (fun _ => 0), pv_i 12 (fun _ => 0), pv_i 12 (fun _ => 0), pv_i 10 (fun _ => 0)]) rfl ?_
  refine pv_putF (M := mX6_init) (h2 := h0 ++ [pv_o 6 [.ref (n + 1), .ref (n + 2), .int 0, .ref (n + 3), .ref (n + 4), .ref (n + 5), .ref (n + 6), .int 0, .ref (n + 7), .null, .int 0, .int 0], pv_i 160 (fun _ => 0), pv_i 160 (fun _ => 0), pv_i 12 (fun _ => 0), pv_i 12 (fun _ => 0), pv_i 12 (fun _ => 0), pv_i 12 (fun _ => 0), pv_i 10 (fun _ => 0)]) (fs2 := [.ref (n + 1), .ref (n + 2), .int 0, .ref (n + 3), .ref (n + 4), .ref (n + 5), .ref (n + 6), .int 0, .ref (n + 7), .null, .int 0, .int 0]) dX6_init_69 FX6 8 wd243 (by decide) rfl rfl rfl (pv_f1 hn rfl) (Nat.le_of_ble_eq_true rfl) (fun _ => rfl) (fun _ => rfl) rfl (pv_f2 hn rfl) 72 rfl ?_
  refine pv_aload_n (M := mX6_init) 0 dX6_init_72 73 rfl rfl rfl ?_
  refine pv_bipush (M := mX6_init) (v := 32) dX6_init_73 75 rfl (by decide) ?_
  refine pv_newa_i (M := mX6_init) (kc := 0) (ks := 0) dX6_init_75 wd170 (by decide) 32 (by decide) (by decide) (r2 := n + 8) (pv_f3 hn rfl) 77 rfl ?_
  refine pv_f4 (s3 := [pv_o 6 [.ref (n + 1), .ref (n + 2), .int 0, .ref (n + 3), .ref (n + 4), .ref (n + 5), .ref (n + 6), .int 0, .ref (n + 7), .null, .int 0, .int 0], pv_i 160 (fun _ => 0), pv_i 160 (fun _ => 0), pv_i 12 (fun _ => 0), pv_i 12 (fun _ => 0), pv_i 12 (fun _ => 0), pv_i 12 (fun _ => 0), pv_i 10 (fun _ => 0), pv_i 32 (fun _ => 0)]) rfl ?_
  refine pv_putF (M := mX6_init) (h2 := h0 ++ [pv_o 6 [.ref (n + 1), .ref (n + 2), .int 0, .ref (n + 3), .ref (n + 4), .ref (n + 5), .ref (n + 6), .int 0, .ref (n + 7), .ref (n + 8), .int 0, .int 0], pv_i 160 (fun _ => 0), pv_i 160 (fun _ => 0), pv_i 12 (fun _ => 0), pv_i 12 (fun _ => 0), pv_i 12 (fun _ => 0), pv_i 12 (fun _ => 0), pv_i 10 (fun _ => 0), pv_i 32 (fun _ => 0)]) (fs2 := [.ref (n + 1), .ref (n + 2), .int 0, .ref (n + 3), .ref (n + 4), .ref (n + 5), .ref (n + 6), .int 0, .ref (n + 7), .ref (n + 8), .int 0, .int 0]) dX6_init_77 FX6 9 wd244 (by decide) rfl rfl rfl (pv_f1 hn rfl) (Nat.le_of_ble_eq_true rfl) (fun _ => rfl) (fun _ => rfl) rfl (pv_f2 hn rfl) 80 rfl ?_
  refine pv_aload_n (M := mX6_init) 0 dX6_init_80 81 rfl rfl rfl ?_
  refine pv_iconst (M := mX6_init) (v := 0) dX6_init_81 82 rfl (by decide) ?_
  refine pv_put (M := mX6_init) (h2 := h0 ++ [pv_o 6 [.ref (n + 1), .ref (n + 2), .int 0, .ref (n + 3), .ref (n + 4), .ref (n + 5), .ref (n + 6), .int 0, .ref (n + 7), .ref (n + 8), .int 0, .int 0], pv_i 160 (fun _ => 0), pv_i 160 (fun _ => 0), pv_i 12 (fun _ => 0), pv_i 12 (fun _ => 0), pv_i 12 (fun _ => 0), pv_i 12 (fun _ => 0), pv_i 10 (fun _ => 0), pv_i 32 (fun _ => 0)]) (fs2 := [.ref (n + 1), .ref (n + 2), .int 0, .ref (n + 3), .ref (n + 4), .ref (n + 5), .ref (n + 6), .int 0, .ref (n + 7), .ref (n + 8), .int 0, .int 0]) dX6_init_82 FX6 10 wd245 (by decide) rfl (pv_f1 hn rfl) (Nat.le_of_ble_eq_true rfl) (fun _ => rfl) (fun _ => rfl) rfl (pv_f2 hn rfl) 85 rfl ?_
  refine pv_aload_n (M := mX6_init) 0 dX6_init_85 86 rfl rfl rfl ?_
  refine pv_iconst (M := mX6_init) (v := 0) dX6_init_86 87 rfl (by decide) ?_
  refine pv_put (M := mX6_init) (h2 := h0 ++ [pv_o 6 [.ref (n + 1), .ref (n + 2), .int 0, .ref (n + 3), .ref (n + 4), .ref (n + 5), .ref (n + 6), .int 0, .ref (n + 7), .ref (n + 8), .int 0, .int 0], pv_i 160 (fun _ => 0), pv_i 160 (fun _ => 0), pv_i 12 (fun _ => 0), pv_i 12 (fun _ => 0), pv_i 12 (fun _ => 0), pv_i 12 (fun _ => 0), pv_i 10 (fun _ => 0), pv_i 32 (fun _ => 0)]) (fs2 := [.ref (n + 1), .ref (n + 2), .int 0, .ref (n + 3), .ref (n + 4), .ref (n + 5), .ref (n + 6), .int 0, .ref (n + 7), .ref (n + 8), .int 0, .int 0]) dX6_init_87 FX6 11 wd246 (by decide) rfl (pv_f1 hn rfl) (Nat.le_of_ble_eq_true rfl) (fun _ => rfl) (fun _ => rfl) rfl (pv_f2 hn rfl) 90 rfl ?_
  exact pv_vret (M := mX6_init) dX6_init_90 rfl ⟨rfl, rfl⟩

set_option maxHeartbeats 4000000 in
set_option maxRecDepth 20000 in
theorem k_X7_init (g : pv_G) {h0 : List pv_C} {n : Nat} (hn : h0.length = n) : PM g mX7_init yX7_init (pv_is none (h0 ++ [pv_o 7 [.ref (n + 1), .ref (n + 2), .int 0, .int 0, .int 0], pv_i 160 (fun _ => 0), pv_o 6 [.ref (n + 3), .ref (n + 4), .int 0, .ref (n + 5), .ref (n + 6), .ref (n + 7), .ref (n + 8), .int 0, .ref (n + 9), .ref (n + 10), .int 0, .int 0], pv_i 160 (fun _ => 0), pv_i 160 (fun _ => 0), pv_i 12 (fun _ => 0), pv_i 12 (fun _ => 0), pv_i 12 (fun _ => 0), pv_i 12 (fun _ => 0), pv_i 10 (fun _ => 0), pv_i 32 (fun _ => 0)])) 2 10 582 [.ref (n + 0)] (h0 ++ [pv_o 7 [.null, .null, .int 0, .int 0, .int 0]]) := by
  refine PM.of 0 (lo := [.ref (n + 0)]) rfl (by decide) rfl rfl (Nat.le_of_ble_eq_true rfl) ?_
  refine pv_aload_n (M := mX7_init) 0 dX7_init_0 1 rfl rfl rfl ?_
  refine pv_obj (M := mX7_init) dX7_init_1 wd277 wd153 wd154 (Nat.le_of_ble_eq_true rfl) (by decide) 4 rfl ?_
  refine pv_aload_n (M := mX7_init) 0 dX7_init_4 5 rfl rfl rfl ?_
  refine pv_sipush (M := mX7_init) (v := 160) dX7_init_5 8 rfl (by decide) ?_
  refine pv_newa_i (M := mX7_init) (kc := 9) (ks := 422) dX7_init_8 wd170 (by decide) 160 (by decide) (by decide) (r2 := n + 1) (pv_f3 hn rfl) 10 rfl ?_
  refine pv_f4 (s3 := [pv_o 7 [.null, .null, .int 0, .int 0, .int 0], pv_i 160 (fun _ => 0)]) rfl ?_
  refine pv_putF (M := mX7_init) (h2 := h0 ++ [pv_o 7 [.ref (n + 1), .null, .int 0, .int 0, .int 0], pv_i 160 (fun _ => 0)]) (fs2 := [.ref (n + 1), .null, .int 0, .int 0, .int 0]) dX7_init_10 FX7 0 wd280 (by decide) rfl rfl rfl (pv_f1 hn rfl) (Nat.le_of_ble_eq_true rfl) (fun _ => rfl) (fun _ => rfl) rfl (pv_f2 hn rfl) 13 rfl ?_
  refine pv_aload_n (M := mX7_init) 0 dX7_init_13 14 rfl rfl rfl ?_
  refine pv_new (M := mX7_init) (kc := 8) (ks := 410) (fs := dvX6) dX7_init_14 FX6 wd278 wd228 wd130 pv_dfX6 (r2 := n + 2) (pv_f3 hn rfl) 17 rfl ?_
  refine pv_f4 (s3 := [pv_o 7 [.ref (n + 1), .null, .int 0, .int 0, .int 0], pv_i 160 (fun _ => 0), pv_o 6 [.null, .null, .int 0, .null, .null, .null, .null, .int 0, .null, .null, .int 0, .int 0]]) rfl ?_
  refine pv_dup (M := mX7_init) dX7_init_17 18 rfl rfl ?_
  refine pv_callin (M := mX7_init) (host := "StrikeOut") (as := []) (st := [.ref (n + 2), .ref (n + 0)]) (kc2 := 0) (ks2 := 0) dX7_init_18 (by decide) YX6_init ⟨rfl, rfl, wd230⟩ (pv_B (s1 := [pv_o 7 [.ref (n + 1), .null, .int 0, .int 0, .int 0], pv_i 160 (fun _ => 0)]) (s2 := [pv_o 6 [.null, .null, .int 0, .null, .null, .null, .null, .int 0, .null, .null, .int 0, .int 0]]) (s3 := [pv_o 7 [.ref (n + 1), .null, .int 0, .int 0, .int 0], pv_i 160 (fun _ => 0), pv_o 6 [.null, .null, .int 0, .null, .null, .null, .null, .int 0, .null, .null, .int 0, .int 0]]) rfl (k_X6_init g (h0 := h0 ++ [pv_o 7 [.ref (n + 1), .null, .int 0, .int 0, .int 0], pv_i 160 (fun _ => 0)]) (n := n + 2) (pv_f3 hn rfl))) rfl rfl (Nat.le_of_ble_eq_true rfl) (by decide) rfl rfl 21 rfl (pv_k0 ?_)
  refine pv_f4 (s3 := [pv_o 7 [.ref (n + 1), .null, .int 0, .int 0, .int 0], pv_i 160 (fun _ => 0), pv_o 6 [.ref (n + 3), .ref (n + 4), .int 0, .ref (n + 5), .ref (n + 6), .ref (n + 7), .ref (n + 8), .int 0, .ref (n + 9), .ref (n + 10), .int 0, .int 0], pv_i 160 (fun _ => 0), pv_i 160 (fun _ => 0), pv_i 12 (fun _ => 0), pv_i 12 (fun _ => 0), pv_i 12 (fun _ => 0), pv_i 12 (fun _ => 0), pv_i 10 (fun _ => 0), pv_i 32 (fun _ => 0)]) rfl ?_
  refine pv_put (M := mX7_init) (h2 := h0 ++ [pv_o 7 [.ref (n + 1), .ref (n + 2), .int 0, .int 0, .int 0], pv_i 160 (fun _ => 0), pv_o 6 [.ref (n + 3), .ref (n + 4), .int 0, .ref (n + 5), .ref (n + 6), .ref (n + 7), .ref (n + 8), .int 0, .ref (n + 9), .ref (n + 10), .int 0, .int 0], pv_i 160 (fun _ => 0), pv_i 160 (fun _ => 0), pv_i 12 (fun _ => 0), pv_i 12 (fun _ => 0), pv_i 12 (fun _ => 0), pv_i 12 (fun _ => 0), pv_i 10 (fun _ => 0), pv_i 32 (fun _ => 0)]) (fs2 := [.ref (n + 1), .ref (n + 2), .int 0, .int 0, .int 0]) dX7_init_21 FX7 1 wd281 (by decide) rfl (pv_f1 hn rfl) (Nat.le_of_ble_eq_true rfl) (fun _ => rfl) (fun _ => rfl) rfl (pv_f2 hn rfl) 24 rfl ?_
  refine pv_aload_n (M := mX7_init) 0 dX7_init_24 25 rfl rfl rfl ?_
  refine pv_iconst (M := mX7_init) (v := 0) dX7_init_25 26 rfl (by decide) ?_
  refine pv_put (M := mX7_init) (h2 := h0 ++ [pv_o 7 [.ref (n + 1), .ref (n + 2), .int 0, .int 0, .int 0], pv_i 160 (fun _ => 0), pv_o 6 [.ref (n + 3), .ref (n + 4), .int 0, .ref (n + 5), .ref (n + 6), .ref (n + 7), .ref (n + 8), .int 0, .ref (n + 9), .ref (n + 10), .int 0, .int 0], pv_i 160 (fun _ => 0), pv_i 160 (fun _ => 0), pv_i 12 (fun _ => 0), pv_i 12 (fun _ => 0), pv_i 12 (fun _ => 0), pv_i 12 (fun _ => 0), pv_i 10 (fun _ => 0), pv_i 32 (fun _ => 0)]) (fs2 := [.ref (n + 1), .ref (n + 2), .int 0, .int 0, .int 0]) dX7_init_26 FX7 2 wd282 (by decide) rfl (pv_f1 hn rfl) (Nat.le_of_ble_eq_true rfl) (fun _ => rfl) (fun _ => rfl) rfl (pv_f2 hn rfl) 29 rfl ?_
  refine pv_aload_n (M := mX7_init) 0 dX7_init_29 30 rfl rfl rfl ?_
  refine pv_iconst (M := mX7_init) (v := 0) dX7_init_30 31 rfl (by decide) ?_
  refine pv_put (M := mX7_init) (h2 := h0 ++ [pv_o 7 [.ref (n + 1), .ref (n + 2), .int 0, .int 0, .int 0], pv_i 160 (fun _ => 0), pv_o 6 [.ref (n + 3), .ref (n + 4), .int 0, .ref (n + 5), .ref (n + 6), .ref (n + 7), .ref (n + 8), .int 0, .ref (n + 9), .ref (n + 10), .int 0, .int 0], pv_i 160 (fun _ => 0), pv_i 160 (fun _ => 0), pv_i 12 (fun _ => 0), pv_i 12 (fun _ => 0), pv_i 12 (fun _ => 0), pv_i 12 (fun _ => 0), pv_i 10 (fun _ => 0), pv_i 32 (fun _ => 0)]) (fs2 := [.ref (n + 1), .ref (n + 2), .int 0, .int 0, .int 0]) dX7_init_31 FX7 3 wd283 (by decide) rfl (pv_f1 hn rfl) (Nat.le_of_ble_eq_true rfl) (fun _ => rfl) (fun _ => rfl) rfl (pv_f2 hn rfl) 34 rfl ?_
  refine pv_aload_n (M := mX7_init) 0 dX7_init_34 35 rfl rfl rfl ?_
  refine pv_iconst (M := mX7_init) (v := 0) dX7_init_35 36 rfl (by decide) ?_
  refine pv_put (M := mX7_init) (h2 := h0 ++ [pv_o 7 [.ref (n + 1), .ref (n + 2), .int 0, .int 0, .int 0], pv_i 160 (fun _ => 0), pv_o 6 [.ref (n + 3), .ref (n + 4), .int 0, .ref (n + 5), .ref (n + 6), .ref (n + 7), .ref (n + 8), .int 0, .ref (n + 9), .ref (n + 10), .int 0, .int 0], pv_i 160 (fun _ => 0), pv_i 160 (fun _ => 0), pv_i 12 (fun _ => 0), pv_i 12 (fun _ => 0), pv_i 12 (fun _ => 0), pv_i 12 (fun _ => 0), pv_i 10 (fun _ => 0), pv_i 32 (fun _ => 0)]) (fs2 := [.ref (n + 1), .ref (n + 2), .int 0, .int 0, .int 0]) dX7_init_36 FX7 4 wd284 (by decide) rfl (pv_f1 hn rfl) (Nat.le_of_ble_eq_true rfl) (fun _ => rfl) (fun _ => rfl) rfl (pv_f2 hn rfl) 39 rfl ?_
  exact pv_vret (M := mX7_init) dX7_init_39 rfl ⟨rfl, rfl⟩

set_option maxHeartbeats 4000000 in
set_option maxRecDepth 20000 in
theorem k_X1_init (g : pv_G) {h0 : List pv_C} {n : Nat} (hn : h0.length = n) : PM g mX1_init yX1_init (pv_is none (h0 ++ [pv_o 1 [.ref (n + 1), .ref (n + 2), .ref (n + 3), .ref (n + 4), .ref (n + 5), .ref (n + 6), .int 0], pv_i 60 (fun _ => 0), pv_i 60 (fun _ => 0), pv_i 60 (fun _ => 0), pv_i 60 (fun _ => 0), pv_i 60 (fun _ => 0), pv_i 540 (fun _ => 0)])) 1 6 840 [.ref (n + 0)] (h0 ++ [pv_o 1 [.null, .null, .null, .null, .null, .null, .int 0]]) := by
  refine PM.of 0 (lo := [.ref (n + 0)]) rfl (by decide) rfl rfl (Nat.le_of_ble_eq_true rfl) ?_
  refine pv_aload_n (M := mX1_init) 0 dX1_init_0 1 rfl rfl rfl ?_
  refine pv_obj (M := mX1_init) dX1_init_1 wd301 wd153 wd154 (Nat.le_of_ble_eq_true rfl) (by decide) 4 rfl ?_
  refine pv_aload_n (M := mX1_init) 0 dX1_init_4 5 rfl rfl rfl ?_
  refine pv_bipush (M := mX1_init) (v := 60) dX1_init_5 7 rfl (by decide) ?_
  refine pv_newa_i (M := mX1_init) (kc := 5) (ks := 780) dX1_init_7 wd170 (by decide) 60 (by decide) (by decide) (r2 := n + 1) (pv_f3 hn rfl) 9 rfl ?_
  refine pv_f4 (s3 := [pv_o 1 [.null, .null, .null, .null, .null, .null, .int 0], pv_i 60 (fun _ => 0)]) rfl ?_
  refine pv_putF (M := mX1_init) (h2 := h0 ++ [pv_o 1 [.ref (n + 1), .null, .null, .null, .null, .null, .int 0], pv_i 60 (fun _ => 0)]) (fs2 := [.ref (n + 1), .null, .null, .null, .null, .null, .int 0]) dX1_init_9 FX1 0 wd302 (by decide) rfl rfl rfl (pv_f1 hn rfl) (Nat.le_of_ble_eq_true rfl) (fun _ => rfl) (fun _ => rfl) rfl (pv_f2 hn rfl) 12 rfl ?_
  refine pv_aload_n (M := mX1_init) 0 dX1_init_12 13 rfl rfl rfl ?_
  refine pv_bipush (M := mX1_init) (v := 60) dX1_init_13 15 rfl (by decide) ?_
  refine pv_newa_i (M := mX1_init) (kc := 4) (ks := 720) dX1_init_15 wd170 (by decide) 60 (by decide) (by decide) (r2 := n + 2) (pv_f3 hn rfl) 17 rfl ?_
  refine pv_f4 (s3 := [pv_o 1 [.ref (n + 1), .null, .null, .null, .null, .null, .int 0], pv_i 60 (fun _ => 0), pv_i 60 (fun _ => 0)]) rfl ?_
  refine pv_putF (M := mX1_init) (h2 := h0 ++ [pv_o 1 [.ref (n + 1), .ref (n + 2), .null, .null, .null, .null, .int 0], pv_i 60 (fun _ => 0), pv_i 60 (fun _ => 0)]) (fs2 := [.ref (n + 1), .ref (n + 2), .null, .null, .null, .null, .int 0]) dX1_init_17 FX1 1 wd303 (by decide) rfl rfl rfl (pv_f1 hn rfl) (Nat.le_of_ble_eq_true rfl) (fun _ => rfl) (fun _ => rfl) rfl (pv_f2 hn rfl) 20 rfl ?_
  refine pv_aload_n (M := mX1_init) 0 dX1_init_20 21 rfl rfl rfl ?_
  refine pv_bipush (M := mX1_init) (v := 60) dX1_init_21 23 rfl (by decide) ?_
  refine pv_newa_i (M := mX1_init) (kc := 3) (ks := 660) dX1_init_23 wd170 (by decide) 60 (by decide) (by decide) (r2 := n + 3) (pv_f3 hn rfl) 25 rfl ?_
  refine pv_f4 (s3 := [pv_o 1 [.ref (n + 1), .ref (n + 2), .null, .null, .null, .null, .int 0], pv_i 60 (fun _ => 0), pv_i 60 (fun _ => 0), pv_i 60 (fun _ => 0)]) rfl ?_
  refine pv_putF (M := mX1_init) (h2 := h0 ++ [pv_o 1 [.ref (n + 1), .ref (n + 2), .ref (n + 3), .null, .null, .null, .int 0], pv_i 60 (fun _ => 0), pv_i 60 (fun _ => 0), pv_i 60 (fun _ => 0)]) (fs2 := [.ref (n + 1), .ref (n + 2), .ref (n + 3), .null, .null, .null, .int 0]) dX1_init_25 FX1 2 wd304 (by decide) rfl rfl rfl (pv_f1 hn rfl) (Nat.le_of_ble_eq_true rfl) (fun _ => rfl) (fun _ => rfl) rfl (pv_f2 hn rfl) 28 rfl ?_
  refine pv_aload_n (M := mX1_init) 0 dX1_init_28 29 rfl rfl rfl ?_
  refine pv_bipush (M := mX1_init) (v := 60) dX1_init_29 31 rfl (by decide) ?_
  refine pv_newa_i (M := mX1_init) (kc := 2) (ks := 600) dX1_init_31 wd170 (by decide) 60 (by decide) (by decide) (r2 := n + 4) (pv_f3 hn rfl) 33 rfl ?_
  refine pv_f4 (s3 := [pv_o 1 [.ref (n + 1), .ref (n + 2), .ref (n + 3), .null, .null, .null, .int 0], pv_i 60 (fun _ => 0), pv_i 60 (fun _ => 0), pv_i 60 (fun _ => 0), pv_i 60 (fun _ => 0)]) rfl ?_
  refine pv_putF (M := mX1_init) (h2 := h0 ++ [pv_o 1 [.ref (n + 1), .ref (n + 2), .ref (n + 3), .ref (n + 4), .null, .null, .int 0], pv_i 60 (fun _ => 0), pv_i 60 (fun _ => 0), pv_i 60 (fun _ => 0), pv_i 60 (fun _ => 0)]) (fs2 := [.ref (n + 1), .ref (n + 2), .ref (n + 3), .ref (n + 4), .null, .null, .int 0]) dX1_init_33 FX1 3 wd305 (by decide) rfl rfl rfl (pv_f1 hn rfl) (Nat.le_of_ble_eq_true rfl) (fun _ => rfl) (fun _ => rfl) rfl (pv_f2 hn rfl) 36 rfl ?_
  refine pv_aload_n (M := mX1_init) 0 dX1_init_36 37 rfl rfl rfl ?_
  refine pv_bipush (M := mX1_init) (v := 60) dX1_init_37 39 rfl (by decide) ?_
  refine pv_newa_i (M := mX1_init) (kc := 1) (ks := 540) dX1_init_39 wd170 (by decide) 60 (by decide) (by decide) (r2 := n + 5) (pv_f3 hn rfl) 41 rfl ?_
  refine pv_f4 (s3 := [pv_o 1 [.ref (n + 1), .ref (n + 2), .ref (n + 3), .ref (n + 4), .null, .null, .int 0], pv_i 60 (fun _ => 0), pv_i 60 (fun _ => 0), pv_i 60 (fun _ => 0), pv_i 60 (fun _ => 0), pv_i 60 (fun _ => 0)]) rfl ?_
  refine pv_putF (M := mX1_init) (h2 := h0 ++ [pv_o 1 [.ref (n + 1), .ref (n + 2), .ref (n + 3), .ref (n + 4), .ref (n + 5), .null, .int 0], pv_i 60 (fun _ => 0), pv_i 60 (fun _ => 0), pv_i 60 (fun _ => 0), pv_i 60 (fun _ => 0), pv_i 60 (fun _ => 0)]) (fs2 := [.ref (n + 1), .ref (n + 2), .ref (n + 3), .ref (n + 4), .ref (n + 5), .null, .int 0]) dX1_init_41 FX1 4 wd306 (by decide) rfl rfl rfl (pv_f1 hn rfl) (Nat.le_of_ble_eq_true rfl) (fun _ => rfl) (fun _ => rfl) rfl (pv_f2 hn rfl) 44 rfl ?_
  refine pv_aload_n (M := mX1_init) 0 dX1_init_44 45 rfl rfl rfl ?_
  refine pv_sipush (M := mX1_init) (v := 540) dX1_init_45 48 rfl (by decide) ?_
  refine pv_newa_i (M := mX1_init) (kc := 0) (ks := 0) dX1_init_48 wd170 (by decide) 540 (by decide) (by decide) (r2 := n + 6) (pv_f3 hn rfl) 50 rfl ?_
  refine pv_f4 (s3 := [pv_o 1 [.ref (n + 1), .ref (n + 2), .ref (n + 3), .ref (n + 4), .ref (n + 5), .null, .int 0], pv_i 60 (fun _ => 0), pv_i 60 (fun _ => 0), pv_i 60 (fun _ => 0), pv_i 60 (fun _ => 0), pv_i 60 (fun _ => 0), pv_i 540 (fun _ => 0)]) rfl ?_
  refine pv_putF (M := mX1_init) (h2 := h0 ++ [pv_o 1 [.ref (n + 1), .ref (n + 2), .ref (n + 3), .ref (n + 4), .ref (n + 5), .ref (n + 6), .int 0], pv_i 60 (fun _ => 0), pv_i 60 (fun _ => 0), pv_i 60 (fun _ => 0), pv_i 60 (fun _ => 0), pv_i 60 (fun _ => 0), pv_i 540 (fun _ => 0)]) (fs2 := [.ref (n + 1), .ref (n + 2), .ref (n + 3), .ref (n + 4), .ref (n + 5), .ref (n + 6), .int 0]) dX1_init_50 FX1 5 wd308 (by decide) rfl rfl rfl (pv_f1 hn rfl) (Nat.le_of_ble_eq_true rfl) (fun _ => rfl) (fun _ => rfl) rfl (pv_f2 hn rfl) 53 rfl ?_
  refine pv_aload_n (M := mX1_init) 0 dX1_init_53 54 rfl rfl rfl ?_
  refine pv_iconst (M := mX1_init) (v := 0) dX1_init_54 55 rfl (by decide) ?_
  refine pv_put (M := mX1_init) (h2 := h0 ++ [pv_o 1 [.ref (n + 1), .ref (n + 2), .ref (n + 3), .ref (n + 4), .ref (n + 5), .ref (n + 6), .int 0], pv_i 60 (fun _ => 0), pv_i 60 (fun _ => 0), pv_i 60 (fun _ => 0), pv_i 60 (fun _ => 0), pv_i 60 (fun _ => 0), pv_i 540 (fun _ => 0)]) (fs2 := [.ref (n + 1), .ref (n + 2), .ref (n + 3), .ref (n + 4), .ref (n + 5), .ref (n + 6), .int 0]) dX1_init_55 FX1 6 wd309 (by decide) rfl (pv_f1 hn rfl) (Nat.le_of_ble_eq_true rfl) (fun _ => rfl) (fun _ => rfl) rfl (pv_f2 hn rfl) 58 rfl ?_
  exact pv_vret (M := mX1_init) dX1_init_58 rfl ⟨rfl, rfl⟩

set_option maxHeartbeats 4000000 in
set_option maxRecDepth 20000 in
theorem k_X4_init (g : pv_G) {h0 : List pv_C} {n : Nat} (hn : h0.length = n) : PM g mX4_init yX4_init (pv_is none (h0 ++ [pv_o 4 [.ref (n + 1), .ref (n + 2)], pv_i 41 (fun _ => 0), pv_l 41 (fun _ => 0)])) 1 2 82 [.ref (n + 0)] (h0 ++ [pv_o 4 [.null, .null]]) := by
  refine PM.of 0 (lo := [.ref (n + 0)]) rfl (by decide) rfl rfl (Nat.le_of_ble_eq_true rfl) ?_
  refine pv_aload_n (M := mX4_init) 0 dX4_init_0 1 rfl rfl rfl ?_
  refine pv_obj (M := mX4_init) dX4_init_1 wd331 wd153 wd154 (Nat.le_of_ble_eq_true rfl) (by decide) 4 rfl ?_
  refine pv_aload_n (M := mX4_init) 0 dX4_init_4 5 rfl rfl rfl ?_
  refine pv_bipush (M := mX4_init) (v := 41) dX4_init_5 7 rfl (by decide) ?_
  refine pv_newa_i (M := mX4_init) (kc := 1) (ks := 41) dX4_init_7 wd170 (by decide) 41 (by decide) (by decide) (r2 := n + 1) (pv_f3 hn rfl) 9 rfl ?_
  refine pv_f4 (s3 := [pv_o 4 [.null, .null], pv_i 41 (fun _ => 0)]) rfl ?_
  refine pv_putF (M := mX4_init) (h2 := h0 ++ [pv_o 4 [.ref (n + 1), .null], pv_i 41 (fun _ => 0)]) (fs2 := [.ref (n + 1), .null]) dX4_init_9 FX4 0 wd332 (by decide) rfl rfl rfl (pv_f1 hn rfl) (Nat.le_of_ble_eq_true rfl) (fun _ => rfl) (fun _ => rfl) rfl (pv_f2 hn rfl) 12 rfl ?_
  refine pv_aload_n (M := mX4_init) 0 dX4_init_12 13 rfl rfl rfl ?_
  refine pv_bipush (M := mX4_init) (v := 41) dX4_init_13 15 rfl (by decide) ?_
  refine pv_newa_l (M := mX4_init) (kc := 0) (ks := 0) dX4_init_15 wd339 (by decide) 41 (by decide) (by decide) (r2 := n + 2) (pv_f3 hn rfl) 17 rfl ?_
  refine pv_f4 (s3 := [pv_o 4 [.ref (n + 1), .null], pv_i 41 (fun _ => 0), pv_l 41 (fun _ => 0)]) rfl ?_
  refine pv_putF (M := mX4_init) (h2 := h0 ++ [pv_o 4 [.ref (n + 1), .ref (n + 2)], pv_i 41 (fun _ => 0), pv_l 41 (fun _ => 0)]) (fs2 := [.ref (n + 1), .ref (n + 2)]) dX4_init_17 FX4 1 wd333 (by decide) rfl rfl rfl (pv_f1 hn rfl) (Nat.le_of_ble_eq_true rfl) (fun _ => rfl) (fun _ => rfl) rfl (pv_f2 hn rfl) 20 rfl ?_
  exact pv_vret (M := mX4_init) dX4_init_20 rfl ⟨rfl, rfl⟩

set_option maxHeartbeats 4000000 in
set_option maxRecDepth 20000 in
theorem k_X2_init (g : pv_G) {h0 : List pv_C} {n : Nat} (hn : h0.length = n) : PM g mX2_init yX2_init (pv_is none (h0 ++ [pv_o 2 [.ref (n + 1), .ref (n + 2), .ref (n + 3), .ref (n + 4)], pv_z 40 (fun _ => 0), pv_i 40 (fun _ => 0), pv_i 16 (fun _ => 0), pv_i 697 (fun _ => 0)])) 1 4 793 [.ref (n + 0)] (h0 ++ [pv_o 2 [.null, .null, .null, .null]]) := by
  refine PM.of 0 (lo := [.ref (n + 0)]) rfl (by decide) rfl rfl (Nat.le_of_ble_eq_true rfl) ?_
  refine pv_aload_n (M := mX2_init) 0 dX2_init_0 1 rfl rfl rfl ?_
  refine pv_obj (M := mX2_init) dX2_init_1 wd345 wd153 wd154 (Nat.le_of_ble_eq_true rfl) (by decide) 4 rfl ?_
  refine pv_aload_n (M := mX2_init) 0 dX2_init_4 5 rfl rfl rfl ?_
  refine pv_bipush (M := mX2_init) (v := 40) dX2_init_5 7 rfl (by decide) ?_
  refine pv_newa_z (M := mX2_init) (kc := 3) (ks := 753) dX2_init_7 wd223 (by decide) 40 (by decide) (by decide) (r2 := n + 1) (pv_f3 hn rfl) 9 rfl ?_
  refine pv_f4 (s3 := [pv_o 2 [.null, .null, .null, .null], pv_z 40 (fun _ => 0)]) rfl ?_
  refine pv_putF (M := mX2_init) (h2 := h0 ++ [pv_o 2 [.ref (n + 1), .null, .null, .null], pv_z 40 (fun _ => 0)]) (fs2 := [.ref (n + 1), .null, .null, .null]) dX2_init_9 FX2 0 wd346 (by decide) rfl rfl rfl (pv_f1 hn rfl) (Nat.le_of_ble_eq_true rfl) (fun _ => rfl) (fun _ => rfl) rfl (pv_f2 hn rfl) 12 rfl ?_
  refine pv_aload_n (M := mX2_init) 0 dX2_init_12 13 rfl rfl rfl ?_
  refine pv_bipush (M := mX2_init) (v := 40) dX2_init_13 15 rfl (by decide) ?_
  refine pv_newa_i (M := mX2_init) (kc := 2) (ks := 713) dX2_init_15 wd170 (by decide) 40 (by decide) (by decide) (r2 := n + 2) (pv_f3 hn rfl) 17 rfl ?_
  refine pv_f4 (s3 := [pv_o 2 [.ref (n + 1), .null, .null, .null], pv_z 40 (fun _ => 0), pv_i 40 (fun _ => 0)]) rfl ?_
  refine pv_putF (M := mX2_init) (h2 := h0 ++ [pv_o 2 [.ref (n + 1), .ref (n + 2), .null, .null], pv_z 40 (fun _ => 0), pv_i 40 (fun _ => 0)]) (fs2 := [.ref (n + 1), .ref (n + 2), .null, .null]) dX2_init_17 FX2 1 wd348 (by decide) rfl rfl rfl (pv_f1 hn rfl) (Nat.le_of_ble_eq_true rfl) (fun _ => rfl) (fun _ => rfl) rfl (pv_f2 hn rfl) 20 rfl ?_
  refine pv_aload_n (M := mX2_init) 0 dX2_init_20 21 rfl rfl rfl ?_
  refine pv_bipush (M := mX2_init) (v := 16) dX2_init_21 23 rfl (by decide) ?_
  refine pv_newa_i (M := mX2_init) (kc := 1) (ks := 697) dX2_init_23 wd170 (by decide) 16 (by decide) (by decide) (r2 := n + 3) (pv_f3 hn rfl) 25 rfl ?_
  refine pv_f4 (s3 := [pv_o 2 [.ref (n + 1), .ref (n + 2), .null, .null], pv_z 40 (fun _ => 0), pv_i 40 (fun _ => 0), pv_i 16 (fun _ => 0)]) rfl ?_
  refine pv_putF (M := mX2_init) (h2 := h0 ++ [pv_o 2 [.ref (n + 1), .ref (n + 2), .ref (n + 3), .null], pv_z 40 (fun _ => 0), pv_i 40 (fun _ => 0), pv_i 16 (fun _ => 0)]) (fs2 := [.ref (n + 1), .ref (n + 2), .ref (n + 3), .null]) dX2_init_25 FX2 2 wd350 (by decide) rfl rfl rfl (pv_f1 hn rfl) (Nat.le_of_ble_eq_true rfl) (fun _ => rfl) (fun _ => rfl) rfl (pv_f2 hn rfl) 28 rfl ?_
  refine pv_aload_n (M := mX2_init) 0 dX2_init_28 29 rfl rfl rfl ?_
  refine pv_sipush (M := mX2_init) (v := 697) dX2_init_29 32 rfl (by decide) ?_
  refine pv_newa_i (M := mX2_init) (kc := 0) (ks := 0) dX2_init_32 wd170 (by decide) 697 (by decide) (by decide) (r2 := n + 4) (pv_f3 hn rfl) 34 rfl ?_
  refine pv_f4 (s3 := [pv_o 2 [.ref (n + 1), .ref (n + 2), .ref (n + 3), .null], pv_z 40 (fun _ => 0), pv_i 40 (fun _ => 0), pv_i 16 (fun _ => 0), pv_i 697 (fun _ => 0)]) rfl ?_
  refine pv_putF (M := mX2_init) (h2 := h0 ++ [pv_o 2 [.ref (n + 1), .ref (n + 2), .ref (n + 3), .ref (n + 4)], pv_z 40 (fun _ => 0), pv_i 40 (fun _ => 0), pv_i 16 (fun _ => 0), pv_i 697 (fun _ => 0)]) (fs2 := [.ref (n + 1), .ref (n + 2), .ref (n + 3), .ref (n + 4)]) dX2_init_34 FX2 3 wd352 (by decide) rfl rfl rfl (pv_f1 hn rfl) (Nat.le_of_ble_eq_true rfl) (fun _ => rfl) (fun _ => rfl) rfl (pv_f2 hn rfl) 37 rfl ?_
  exact pv_vret (M := mX2_init) dX2_init_37 rfl ⟨rfl, rfl⟩

set_option maxHeartbeats 4000000 in
set_option maxRecDepth 20000 in
theorem k_X5_init (g : pv_G) {h0 : List pv_C} {n : Nat} (hn : h0.length = n) : PM g mX5_init yX5_init (pv_is none (h0 ++ [pv_o 5 [.ref (n + 1), .int 0, .ref (n + 3)], pv_o 8 [.ref (n + 2), .int 0], pv_i 16 (fun _ => 0), pv_i 4913 (fun _ => 0)])) 2 3 4931 [.ref (n + 0)] (h0 ++ [pv_o 5 [.null, .int 0, .null]]) := by
  refine PM.of 0 (lo := [.ref (n + 0)]) rfl (by decide) rfl rfl (Nat.le_of_ble_eq_true rfl) ?_
  refine pv_aload_n (M := mX5_init) 0 dX5_init_0 1 rfl rfl rfl ?_
  refine pv_obj (M := mX5_init) dX5_init_1 wd367 wd153 wd154 (Nat.le_of_ble_eq_true rfl) (by decide) 4 rfl ?_
  refine pv_aload_n (M := mX5_init) 0 dX5_init_4 5 rfl rfl rfl ?_
  refine pv_new (M := mX5_init) (kc := 2) (ks := 4929) (fs := dvX8) dX5_init_5 FX8 wd368 wd179 wd128 pv_dfX8 (r2 := n + 1) (pv_f3 hn rfl) 8 rfl ?_
  refine pv_f4 (s3 := [pv_o 5 [.null, .int 0, .null], pv_o 8 [.null, .int 0]]) rfl ?_
  refine pv_dup (M := mX5_init) dX5_init_8 9 rfl rfl ?_
  refine pv_bipush (M := mX5_init) (v := 16) dX5_init_9 11 rfl (by decide) ?_
  refine pv_calli (M := mX5_init) (as := [.int 16]) (st := [.ref (n + 1), .ref (n + 0)]) (kc2 := 1) (ks2 := 4913) dX5_init_11 wd369 YX8_init ⟨rfl, rfl, wd181⟩ (pv_B (s1 := [pv_o 5 [.null, .int 0, .null]]) (s2 := [pv_o 8 [.null, .int 0]]) (s3 := [pv_o 5 [.null, .int 0, .null], pv_o 8 [.null, .int 0]]) rfl (k_X8_init_2 g (h0 := h0 ++ [pv_o 5 [.null, .int 0, .null]]) (n := n + 1) (pv_f3 hn rfl))) rfl rfl (Nat.le_of_ble_eq_true rfl) (by decide) rfl rfl 14 rfl (pv_k0 ?_)
  refine pv_f4 (s3 := [pv_o 5 [.null, .int 0, .null], pv_o 8 [.ref (n + 2), .int 0], pv_i 16 (fun _ => 0)]) rfl ?_
  refine pv_putF (M := mX5_init) (h2 := h0 ++ [pv_o 5 [.ref (n + 1), .int 0, .null], pv_o 8 [.ref (n + 2), .int 0], pv_i 16 (fun _ => 0)]) (fs2 := [.ref (n + 1), .int 0, .null]) dX5_init_14 FX5 0 wd370 (by decide) rfl rfl rfl (pv_f1 hn rfl) (Nat.le_of_ble_eq_true rfl) (fun _ => rfl) (fun _ => rfl) rfl (pv_f2 hn rfl) 17 rfl ?_
  refine pv_aload_n (M := mX5_init) 0 dX5_init_17 18 rfl rfl rfl ?_
  refine pv_iconst (M := mX5_init) (v := 0) dX5_init_18 19 rfl (by decide) ?_
  refine pv_put (M := mX5_init) (h2 := h0 ++ [pv_o 5 [.ref (n + 1), .int 0, .null], pv_o 8 [.ref (n + 2), .int 0], pv_i 16 (fun _ => 0)]) (fs2 := [.ref (n + 1), .int 0, .null]) dX5_init_19 FX5 1 wd372 (by decide) rfl (pv_f1 hn rfl) (Nat.le_of_ble_eq_true rfl) (fun _ => rfl) (fun _ => rfl) rfl (pv_f2 hn rfl) 22 rfl ?_
  refine pv_aload_n (M := mX5_init) 0 dX5_init_22 23 rfl rfl rfl ?_
  refine pv_sipush (M := mX5_init) (v := 4913) dX5_init_23 26 rfl (by decide) ?_
  refine pv_newa_i (M := mX5_init) (kc := 0) (ks := 0) dX5_init_26 wd170 (by decide) 4913 (by decide) (by decide) (r2 := n + 3) (pv_f3 hn rfl) 28 rfl ?_
  refine pv_f4 (s3 := [pv_o 5 [.ref (n + 1), .int 0, .null], pv_o 8 [.ref (n + 2), .int 0], pv_i 16 (fun _ => 0), pv_i 4913 (fun _ => 0)]) rfl ?_
  refine pv_putF (M := mX5_init) (h2 := h0 ++ [pv_o 5 [.ref (n + 1), .int 0, .ref (n + 3)], pv_o 8 [.ref (n + 2), .int 0], pv_i 16 (fun _ => 0), pv_i 4913 (fun _ => 0)]) (fs2 := [.ref (n + 1), .int 0, .ref (n + 3)]) dX5_init_28 FX5 2 wd374 (by decide) rfl rfl rfl (pv_f1 hn rfl) (Nat.le_of_ble_eq_true rfl) (fun _ => rfl) (fun _ => rfl) rfl (pv_f2 hn rfl) 31 rfl ?_
  exact pv_vret (M := mX5_init) dX5_init_31 rfl ⟨rfl, rfl⟩

set_option maxHeartbeats 4000000 in
set_option maxRecDepth 20000 in
theorem k_X9_init (g : pv_G) {h0 : List pv_C} {n : Nat} (hn : h0.length = n) : PM g mX9_init yX9_init (pv_is none (h0 ++ [pv_o 9 [.ref (n + 1), .int 0, .int 0, .ref (n + 2), .ref (n + 3)], pv_i 8 (fun _ => 0), pv_i 64 (fun _ => 0), pv_i 2304 (fun _ => 0)])) 1 3 2376 [.ref (n + 0)] (h0 ++ [pv_o 9 [.null, .int 0, .int 0, .null, .null]]) := by
  refine PM.of 0 (lo := [.ref (n + 0)]) rfl (by decide) rfl rfl (Nat.le_of_ble_eq_true rfl) ?_
  refine pv_aload_n (M := mX9_init) 0 dX9_init_0 1 rfl rfl rfl ?_
  refine pv_obj (M := mX9_init) dX9_init_1 wd387 wd153 wd154 (Nat.le_of_ble_eq_true rfl) (by decide) 4 rfl ?_
  refine pv_aload_n (M := mX9_init) 0 dX9_init_4 5 rfl rfl rfl ?_
  refine pv_bipush (M := mX9_init) (v := 8) dX9_init_5 7 rfl (by decide) ?_
  refine pv_newa_i (M := mX9_init) (kc := 2) (ks := 2368) dX9_init_7 wd170 (by decide) 8 (by decide) (by decide) (r2 := n + 1) (pv_f3 hn rfl) 9 rfl ?_
  refine pv_f4 (s3 := [pv_o 9 [.null, .int 0, .int 0, .null, .null], pv_i 8 (fun _ => 0)]) rfl ?_
  refine pv_putF (M := mX9_init) (h2 := h0 ++ [pv_o 9 [.ref (n + 1), .int 0, .int 0, .null, .null], pv_i 8 (fun _ => 0)]) (fs2 := [.ref (n + 1), .int 0, .int 0, .null, .null]) dX9_init_9 FX9 0 wd388 (by decide) rfl rfl rfl (pv_f1 hn rfl) (Nat.le_of_ble_eq_true rfl) (fun _ => rfl) (fun _ => rfl) rfl (pv_f2 hn rfl) 12 rfl ?_
  refine pv_aload_n (M := mX9_init) 0 dX9_init_12 13 rfl rfl rfl ?_
  refine pv_iconst (M := mX9_init) (v := 0) dX9_init_13 14 rfl (by decide) ?_
  refine pv_put (M := mX9_init) (h2 := h0 ++ [pv_o 9 [.ref (n + 1), .int 0, .int 0, .null, .null], pv_i 8 (fun _ => 0)]) (fs2 := [.ref (n + 1), .int 0, .int 0, .null, .null]) dX9_init_14 FX9 1 wd390 (by decide) rfl (pv_f1 hn rfl) (Nat.le_of_ble_eq_true rfl) (fun _ => rfl) (fun _ => rfl) rfl (pv_f2 hn rfl) 17 rfl ?_
  refine pv_aload_n (M := mX9_init) 0 dX9_init_17 18 rfl rfl rfl ?_
  refine pv_iconst (M := mX9_init) (v := 0) dX9_init_18 19 rfl (by decide) ?_
  refine pv_put (M := mX9_init) (h2 := h0 ++ [pv_o 9 [.ref (n + 1), .int 0, .int 0, .null, .null], pv_i 8 (fun _ => 0)]) (fs2 := [.ref (n + 1), .int 0, .int 0, .null, .null]) dX9_init_19 FX9 2 wd392 (by decide) rfl (pv_f1 hn rfl) (Nat.le_of_ble_eq_true rfl) (fun _ => rfl) (fun _ => rfl) rfl (pv_f2 hn rfl) 22 rfl ?_
  refine pv_aload_n (M := mX9_init) 0 dX9_init_22 23 rfl rfl rfl ?_
  refine pv_bipush (M := mX9_init) (v := 64) dX9_init_23 25 rfl (by decide) ?_
  refine pv_newa_i (M := mX9_init) (kc := 1) (ks := 2304) dX9_init_25 wd170 (by decide) 64 (by decide) (by decide) (r2 := n + 2) (pv_f3 hn rfl) 27 rfl ?_
  refine pv_f4 (s3 := [pv_o 9 [.ref (n + 1), .int 0, .int 0, .null, .null], pv_i 8 (fun _ => 0), pv_i 64 (fun _ => 0)]) rfl ?_
  refine pv_putF (M := mX9_init) (h2 := h0 ++ [pv_o 9 [.ref (n + 1), .int 0, .int 0, .ref (n + 2), .null], pv_i 8 (fun _ => 0), pv_i 64 (fun _ => 0)]) (fs2 := [.ref (n + 1), .int 0, .int 0, .ref (n + 2), .null]) dX9_init_27 FX9 3 wd394 (by decide) rfl rfl rfl (pv_f1 hn rfl) (Nat.le_of_ble_eq_true rfl) (fun _ => rfl) (fun _ => rfl) rfl (pv_f2 hn rfl) 30 rfl ?_
  refine pv_aload_n (M := mX9_init) 0 dX9_init_30 31 rfl rfl rfl ?_
  refine pv_sipush (M := mX9_init) (v := 2304) dX9_init_31 34 rfl (by decide) ?_
  refine pv_newa_i (M := mX9_init) (kc := 0) (ks := 0) dX9_init_34 wd170 (by decide) 2304 (by decide) (by decide) (r2 := n + 3) (pv_f3 hn rfl) 36 rfl ?_
  refine pv_f4 (s3 := [pv_o 9 [.ref (n + 1), .int 0, .int 0, .ref (n + 2), .null], pv_i 8 (fun _ => 0), pv_i 64 (fun _ => 0), pv_i 2304 (fun _ => 0)]) rfl ?_
  refine pv_putF (M := mX9_init) (h2 := h0 ++ [pv_o 9 [.ref (n + 1), .int 0, .int 0, .ref (n + 2), .ref (n + 3)], pv_i 8 (fun _ => 0), pv_i 64 (fun _ => 0), pv_i 2304 (fun _ => 0)]) (fs2 := [.ref (n + 1), .int 0, .int 0, .ref (n + 2), .ref (n + 3)]) dX9_init_36 FX9 4 wd395 (by decide) rfl rfl rfl (pv_f1 hn rfl) (Nat.le_of_ble_eq_true rfl) (fun _ => rfl) (fun _ => rfl) rfl (pv_f2 hn rfl) 39 rfl ?_
  exact pv_vret (M := mX9_init) dX9_init_39 rfl ⟨rfl, rfl⟩

set_option maxHeartbeats 4000000 in
set_option maxRecDepth 20000 in
theorem k_X8_init_3 (g : pv_G) {h0 : List pv_C} {n : Nat} (hn : h0.length = n) : PM g mX8_init yX8_init (pv_is none (h0 ++ [pv_o 8 [.ref (n + 1), .int 0], pv_i 48 (fun _ => 0)])) 1 1 48 [.ref (n + 0), .int 48] (h0 ++ [pv_o 8 [.null, .int 0]]) := by
  refine PM.of 0 (lo := [.ref (n + 0), .int 48]) rfl (by decide) rfl rfl (Nat.le_of_ble_eq_true rfl) ?_
  refine pv_aload_n (M := mX8_init) 0 dX8_init_0 1 rfl rfl rfl ?_
  refine pv_obj (M := mX8_init) dX8_init_1 wd183 wd153 wd154 (Nat.le_of_ble_eq_true rfl) (by decide) 4 rfl ?_
  refine pv_aload_n (M := mX8_init) 0 dX8_init_4 5 rfl rfl rfl ?_
  refine pv_iconst (M := mX8_init) (v := 0) dX8_init_5 6 rfl (by decide) ?_
  refine pv_put (M := mX8_init) (h2 := h0 ++ [pv_o 8 [.null, .int 0]]) (fs2 := [.null, .int 0]) dX8_init_6 FX8 1 wd193 (by decide) rfl (pv_f1 hn rfl) (Nat.le_of_ble_eq_true rfl) (fun _ => rfl) (fun _ => rfl) rfl (pv_f2 hn rfl) 9 rfl ?_
  refine pv_aload_n (M := mX8_init) 0 dX8_init_9 10 rfl rfl rfl ?_
  refine pv_iload_n (M := mX8_init) 1 dX8_init_10 11 rfl rfl rfl ?_
  refine pv_iconst (M := mX8_init) (v := 0) dX8_init_11 12 rfl (by decide) ?_
  refine pv_max (M := mX8_init) dX8_init_12 wd184 Wmmax (Nat.le_of_ble_eq_true rfl) (by decide) (v := 48) (by decide) 15 rfl ?_
  refine pv_newa_i (M := mX8_init) (kc := 0) (ks := 0) dX8_init_15 wd170 (by decide) 48 (by decide) (by decide) (r2 := n + 1) (pv_f3 hn rfl) 17 rfl ?_
  refine pv_f4 (s3 := [pv_o 8 [.null, .int 0], pv_i 48 (fun _ => 0)]) rfl ?_
  refine pv_putF (M := mX8_init) (h2 := h0 ++ [pv_o 8 [.ref (n + 1), .int 0], pv_i 48 (fun _ => 0)]) (fs2 := [.ref (n + 1), .int 0]) dX8_init_17 FX8 0 wd187 (by decide) rfl rfl rfl (pv_f1 hn rfl) (Nat.le_of_ble_eq_true rfl) (fun _ => rfl) (fun _ => rfl) rfl (pv_f2 hn rfl) 20 rfl ?_
  exact pv_vret (M := mX8_init) dX8_init_20 rfl ⟨rfl, rfl⟩

set_option maxHeartbeats 4000000 in
set_option maxRecDepth 20000 in
theorem k_X8_init_4 (g : pv_G) {h0 : List pv_C} {n : Nat} (hn : h0.length = n) : PM g mX8_init yX8_init (pv_is none (h0 ++ [pv_o 8 [.ref (n + 1), .int 0], pv_i 0 (fun _ => 0)])) 1 1 0 [.ref (n + 0), .int 0] (h0 ++ [pv_o 8 [.null, .int 0]]) := by
  refine PM.of 0 (lo := [.ref (n + 0), .int 0]) rfl (by decide) rfl rfl (Nat.le_of_ble_eq_true rfl) ?_
  refine pv_aload_n (M := mX8_init) 0 dX8_init_0 1 rfl rfl rfl ?_
  refine pv_obj (M := mX8_init) dX8_init_1 wd183 wd153 wd154 (Nat.le_of_ble_eq_true rfl) (by decide) 4 rfl ?_
  refine pv_aload_n (M := mX8_init) 0 dX8_init_4 5 rfl rfl rfl ?_
  refine pv_iconst (M := mX8_init) (v := 0) dX8_init_5 6 rfl (by decide) ?_
  refine pv_put (M := mX8_init) (h2 := h0 ++ [pv_o 8 [.null, .int 0]]) (fs2 := [.null, .int 0]) dX8_init_6 FX8 1 wd193 (by decide) rfl (pv_f1 hn rfl) (Nat.le_of_ble_eq_true rfl) (fun _ => rfl) (fun _ => rfl) rfl (pv_f2 hn rfl) 9 rfl ?_
  refine pv_aload_n (M := mX8_init) 0 dX8_init_9 10 rfl rfl rfl ?_
  refine pv_iload_n (M := mX8_init) 1 dX8_init_10 11 rfl rfl rfl ?_
  refine pv_iconst (M := mX8_init) (v := 0) dX8_init_11 12 rfl (by decide) ?_
  refine pv_max (M := mX8_init) dX8_init_12 wd184 Wmmax (Nat.le_of_ble_eq_true rfl) (by decide) (v := 0) (by decide) 15 rfl ?_
  refine pv_newa_i (M := mX8_init) (kc := 0) (ks := 0) dX8_init_15 wd170 (by decide) 0 (by decide) (by decide) (r2 := n + 1) (pv_f3 hn rfl) 17 rfl ?_
  refine pv_f4 (s3 := [pv_o 8 [.null, .int 0], pv_i 0 (fun _ => 0)]) rfl ?_
  refine pv_putF (M := mX8_init) (h2 := h0 ++ [pv_o 8 [.ref (n + 1), .int 0], pv_i 0 (fun _ => 0)]) (fs2 := [.ref (n + 1), .int 0]) dX8_init_17 FX8 0 wd187 (by decide) rfl rfl rfl (pv_f1 hn rfl) (Nat.le_of_ble_eq_true rfl) (fun _ => rfl) (fun _ => rfl) rfl (pv_f2 hn rfl) 20 rfl ?_
  exact pv_vret (M := mX8_init) dX8_init_20 rfl ⟨rfl, rfl⟩

set_option maxHeartbeats 4000000 in
set_option maxRecDepth 20000 in
theorem k_X3_pre (g : pv_G) {Q : Option Value → List pv_C → Prop} {h0 : List pv_C} {n : Nat} (hn : h0.length = n) (k : PV none g mX3_init Q 3 0 0 86 [.ref (n + 0)] [] (h0 ++ [pv_o 3 [.ref (n + 1), .int 0, .ref (n + 3), .ref (n + 4), .int 0, .ref (n + 6), .ref (n + 7), .ref (n + 8), .ref (n + 9), .ref (n + 10)], pv_o 8 [.ref (n + 2), .int 0], pv_i 48 (fun _ => 0), pv_q 5 4 (fun _ => none), pv_o 8 [.ref (n + 5), .int 0], pv_i 0 (fun _ => 0), pv_i 4 (fun _ => 0), pv_i 4 (fun _ => 0), pv_i 4 (fun _ => 0), pv_i 28561 (fun _ => 0), pv_l 28561 (fun _ => 0)])) : PM g mX3_init yX3_init Q 3 10 57190 [.ref (n + 0)] (h0 ++ [pv_o 3 [.null, .int 0, .null, .null, .int 0, .null, .null, .null, .null, .null]]) := by
  refine PM.of 0 (lo := [.ref (n + 0)]) rfl (by decide) rfl rfl (Nat.le_of_ble_eq_true rfl) ?_
  refine pv_aload_n (M := mX3_init) 0 dX3_init_0 1 rfl rfl rfl ?_
  refine pv_obj (M := mX3_init) dX3_init_1 wd972 wd153 wd154 (Nat.le_of_ble_eq_true rfl) (by decide) 4 rfl ?_
  refine pv_aload_n (M := mX3_init) 0 dX3_init_4 5 rfl rfl rfl ?_
  refine pv_new (M := mX3_init) (kc := 9) (ks := 57188) (fs := dvX8) dX3_init_5 FX8 wd973 wd179 wd128 pv_dfX8 (r2 := n + 1) (pv_f3 hn rfl) 8 rfl ?_
  refine pv_f4 (s3 := [pv_o 3 [.null, .int 0, .null, .null, .int 0, .null, .null, .null, .null, .null], pv_o 8 [.null, .int 0]]) rfl ?_
  refine pv_dup (M := mX3_init) dX3_init_8 9 rfl rfl ?_
  refine pv_bipush (M := mX3_init) (v := 48) dX3_init_9 11 rfl (by decide) ?_
  refine pv_calli (M := mX3_init) (as := [.int 48]) (st := [.ref (n + 1), .ref (n + 0)]) (kc2 := 8) (ks2 := 57140) dX3_init_11 wd974 YX8_init ⟨rfl, rfl, wd181⟩ (pv_B (s1 := [pv_o 3 [.null, .int 0, .null, .null, .int 0, .null, .null, .null, .null, .null]]) (s2 := [pv_o 8 [.null, .int 0]]) (s3 := [pv_o 3 [.null, .int 0, .null, .null, .int 0, .null, .null, .null, .null, .null], pv_o 8 [.null, .int 0]]) rfl (k_X8_init_3 g (h0 := h0 ++ [pv_o 3 [.null, .int 0, .null, .null, .int 0, .null, .null, .null, .null, .null]]) (n := n + 1) (pv_f3 hn rfl))) rfl rfl (Nat.le_of_ble_eq_true rfl) (by decide) rfl rfl 14 rfl (pv_k0 ?_)
  refine pv_f4 (s3 := [pv_o 3 [.null, .int 0, .null, .null, .int 0, .null, .null, .null, .null, .null], pv_o 8 [.ref (n + 2), .int 0], pv_i 48 (fun _ => 0)]) rfl ?_
  refine pv_putF (M := mX3_init) (h2 := h0 ++ [pv_o 3 [.ref (n + 1), .int 0, .null, .null, .int 0, .null, .null, .null, .null, .null], pv_o 8 [.ref (n + 2), .int 0], pv_i 48 (fun _ => 0)]) (fs2 := [.ref (n + 1), .int 0, .null, .null, .int 0, .null, .null, .null, .null, .null]) dX3_init_14 FX3 0 wd979 (by decide) rfl rfl rfl (pv_f1 hn rfl) (Nat.le_of_ble_eq_true rfl) (fun _ => rfl) (fun _ => rfl) rfl (pv_f2 hn rfl) 17 rfl ?_
  refine pv_aload_n (M := mX3_init) 0 dX3_init_17 18 rfl rfl rfl ?_
  refine pv_iconst (M := mX3_init) (v := 0) dX3_init_18 19 rfl (by decide) ?_
  refine pv_put (M := mX3_init) (h2 := h0 ++ [pv_o 3 [.ref (n + 1), .int 0, .null, .null, .int 0, .null, .null, .null, .null, .null], pv_o 8 [.ref (n + 2), .int 0], pv_i 48 (fun _ => 0)]) (fs2 := [.ref (n + 1), .int 0, .null, .null, .int 0, .null, .null, .null, .null, .null]) dX3_init_19 FX3 1 wd981 (by decide) rfl (pv_f1 hn rfl) (Nat.le_of_ble_eq_true rfl) (fun _ => rfl) (fun _ => rfl) rfl (pv_f2 hn rfl) 22 rfl ?_
  refine pv_aload_n (M := mX3_init) 0 dX3_init_22 23 rfl rfl rfl ?_
  refine pv_iconst (M := mX3_init) (v := 4) dX3_init_23 24 rfl (by decide) ?_
  refine pv_anew (M := mX3_init) (kc := 7) (ks := 57136) dX3_init_24 5 (fun _ => rfl) (Or.inr rfl) wd973 (by decide) 4 (by decide) (by decide) (r2 := n + 3) (pv_f3 hn rfl) 27 rfl ?_
  refine pv_f4 (s3 := [pv_o 3 [.ref (n + 1), .int 0, .null, .null, .int 0, .null, .null, .null, .null, .null], pv_o 8 [.ref (n + 2), .int 0], pv_i 48 (fun _ => 0), pv_q 5 4 (fun _ => none)]) rfl ?_
  refine pv_putF (M := mX3_init) (h2 := h0 ++ [pv_o 3 [.ref (n + 1), .int 0, .ref (n + 3), .null, .int 0, .null, .null, .null, .null, .null], pv_o 8 [.ref (n + 2), .int 0], pv_i 48 (fun _ => 0), pv_q 5 4 (fun _ => none)]) (fs2 := [.ref (n + 1), .int 0, .ref (n + 3), .null, .int 0, .null, .null, .null, .null, .null]) dX3_init_27 FX3 2 wd983 (by decide) rfl rfl rfl (pv_f1 hn rfl) (Nat.le_of_ble_eq_true rfl) (fun _ => rfl) (fun _ => rfl) rfl (pv_f2 hn rfl) 30 rfl ?_
  refine pv_aload_n (M := mX3_init) 0 dX3_init_30 31 rfl rfl rfl ?_
  refine pv_new (M := mX3_init) (kc := 6) (ks := 57134) (fs := dvX8) dX3_init_31 FX8 wd973 wd179 wd128 pv_dfX8 (r2 := n + 4) (pv_f3 hn rfl) 34 rfl ?_
  refine pv_f4 (s3 := [pv_o 3 [.ref (n + 1), .int 0, .ref (n + 3), .null, .int 0, .null, .null, .null, .null, .null], pv_o 8 [.ref (n + 2), .int 0], pv_i 48 (fun _ => 0), pv_q 5 4 (fun _ => none), pv_o 8 [.null, .int 0]]) rfl ?_
  refine pv_dup (M := mX3_init) dX3_init_34 35 rfl rfl ?_
  refine pv_iconst (M := mX3_init) (v := 0) dX3_init_35 36 rfl (by decide) ?_
  refine pv_calli (M := mX3_init) (as := [.int 0]) (st := [.ref (n + 4), .ref (n + 0)]) (kc2 := 5) (ks2 := 57134) dX3_init_36 wd974 YX8_init ⟨rfl, rfl, wd181⟩ (pv_B (s1 := [pv_o 3 [.ref (n + 1), .int 0, .ref (n + 3), .null, .int 0, .null, .null, .null, .null, .null], pv_o 8 [.ref (n + 2), .int 0], pv_i 48 (fun _ => 0), pv_q 5 4 (fun _ => none)]) (s2 := [pv_o 8 [.null, .int 0]]) (s3 := [pv_o 3 [.ref (n + 1), .int 0, .ref (n + 3), .null, .int 0, .null, .null, .null, .null, .null], pv_o 8 [.ref (n + 2), .int 0], pv_i 48 (fun _ => 0), pv_q 5 4 (fun _ => none), pv_o 8 [.null, .int 0]]) rfl (k_X8_init_4 g (h0 := h0 ++ [pv_o 3 [.ref (n + 1), .int 0, .ref (n + 3), .null, .int 0, .null, .null, .null, .null, .null], pv_o 8 [.ref (n + 2), .int 0], pv_i 48 (fun _ => 0), pv_q 5 4 (fun _ => none)]) (n := n + 4) (pv_f3 hn rfl))) rfl rfl (Nat.le_of_ble_eq_true rfl) (by decide) rfl rfl 39 rfl (pv_k0 ?_)
  refine pv_f4 (s3 := [pv_o 3 [.ref (n + 1), .int 0, .ref (n + 3), .null, .int 0, .null, .null, .null, .null, .null], pv_o 8 [.ref (n + 2), .int 0], pv_i 48 (fun _ => 0), pv_q 5 4 (fun _ => none), pv_o 8 [.ref (n + 5), .int 0], pv_i 0 (fun _ => 0)]) rfl ?_
  refine pv_putF (M := mX3_init) (h2 := h0 ++ [pv_o 3 [.ref (n + 1), .int 0, .ref (n + 3), .ref (n + 4), .int 0, .null, .null, .null, .null, .null], pv_o 8 [.ref (n + 2), .int 0], pv_i 48 (fun _ => 0), pv_q 5 4 (fun _ => none), pv_o 8 [.ref (n + 5), .int 0], pv_i 0 (fun _ => 0)]) (fs2 := [.ref (n + 1), .int 0, .ref (n + 3), .ref (n + 4), .int 0, .null, .null, .null, .null, .null]) dX3_init_39 FX3 3 wd984 (by decide) rfl rfl rfl (pv_f1 hn rfl) (Nat.le_of_ble_eq_true rfl) (fun _ => rfl) (fun _ => rfl) rfl (pv_f2 hn rfl) 42 rfl ?_
  refine pv_aload_n (M := mX3_init) 0 dX3_init_42 43 rfl rfl rfl ?_
  refine pv_iconst (M := mX3_init) (v := 0) dX3_init_43 44 rfl (by decide) ?_
  refine pv_put (M := mX3_init) (h2 := h0 ++ [pv_o 3 [.ref (n + 1), .int 0, .ref (n + 3), .ref (n + 4), .int 0, .null, .null, .null, .null, .null], pv_o 8 [.ref (n + 2), .int 0], pv_i 48 (fun _ => 0), pv_q 5 4 (fun _ => none), pv_o 8 [.ref (n + 5), .int 0], pv_i 0 (fun _ => 0)]) (fs2 := [.ref (n + 1), .int 0, .ref (n + 3), .ref (n + 4), .int 0, .null, .null, .null, .null, .null]) dX3_init_44 FX3 4 wd985 (by decide) rfl (pv_f1 hn rfl) (Nat.le_of_ble_eq_true rfl) (fun _ => rfl) (fun _ => rfl) rfl (pv_f2 hn rfl) 47 rfl ?_
  refine pv_aload_n (M := mX3_init) 0 dX3_init_47 48 rfl rfl rfl ?_
  refine pv_iconst (M := mX3_init) (v := 4) dX3_init_48 49 rfl (by decide) ?_
  refine pv_newa_i (M := mX3_init) (kc := 4) (ks := 57130) dX3_init_49 wd170 (by decide) 4 (by decide) (by decide) (r2 := n + 6) (pv_f3 hn rfl) 51 rfl ?_
  refine pv_f4 (s3 := [pv_o 3 [.ref (n + 1), .int 0, .ref (n + 3), .ref (n + 4), .int 0, .null, .null, .null, .null, .null], pv_o 8 [.ref (n + 2), .int 0], pv_i 48 (fun _ => 0), pv_q 5 4 (fun _ => none), pv_o 8 [.ref (n + 5), .int 0], pv_i 0 (fun _ => 0), pv_i 4 (fun _ => 0)]) rfl ?_
  refine pv_putF (M := mX3_init) (h2 := h0 ++ [pv_o 3 [.ref (n + 1), .int 0, .ref (n + 3), .ref (n + 4), .int 0, .ref (n + 6), .null, .null, .null, .null], pv_o 8 [.ref (n + 2), .int 0], pv_i 48 (fun _ => 0), pv_q 5 4 (fun _ => none), pv_o 8 [.ref (n + 5), .int 0], pv_i 0 (fun _ => 0), pv_i 4 (fun _ => 0)]) (fs2 := [.ref (n + 1), .int 0, .ref (n + 3), .ref (n + 4), .int 0, .ref (n + 6), .null, .null, .null, .null]) dX3_init_51 FX3 5 wd986 (by decide) rfl rfl rfl (pv_f1 hn rfl) (Nat.le_of_ble_eq_true rfl) (fun _ => rfl) (fun _ => rfl) rfl (pv_f2 hn rfl) 54 rfl ?_
  refine pv_aload_n (M := mX3_init) 0 dX3_init_54 55 rfl rfl rfl ?_
  refine pv_iconst (M := mX3_init) (v := 4) dX3_init_55 56 rfl (by decide) ?_
  refine pv_newa_i (M := mX3_init) (kc := 3) (ks := 57126) dX3_init_56 wd170 (by decide) 4 (by decide) (by decide) (r2 := n + 7) (pv_f3 hn rfl) 58 rfl ?_
  refine pv_f4 (s3 := [pv_o 3 [.ref (n + 1), .int 0, .ref (n + 3), .ref (n + 4), .int 0, .ref (n + 6), .null, .null, .null, .null], pv_o 8 [.ref (n + 2), .int 0], pv_i 48 (fun _ => 0), pv_q 5 4 (fun _ => none), pv_o 8 [.ref (n + 5), .int 0], pv_i 0 (fun _ => 0), pv_i 4 (fun _ => 0), pv_i 4 (fun _ => 0)]) rfl ?_
  refine pv_putF (M := mX3_init) (h2 := h0 ++ [pv_o 3 [.ref (n + 1), .int 0, .ref (n + 3), .ref (n + 4), .int 0, .ref (n + 6), .ref (n + 7), .null, .null, .null], pv_o 8 [.ref (n + 2), .int 0], pv_i 48 (fun _ => 0), pv_q 5 4 (fun _ => none), pv_o 8 [.ref (n + 5), .int 0], pv_i 0 (fun _ => 0), pv_i 4 (fun _ => 0), pv_i 4 (fun _ => 0)]) (fs2 := [.ref (n + 1), .int 0, .ref (n + 3), .ref (n + 4), .int 0, .ref (n + 6), .ref (n + 7), .null, .null, .null]) dX3_init_58 FX3 6 wd987 (by decide) rfl rfl rfl (pv_f1 hn rfl) (Nat.le_of_ble_eq_true rfl) (fun _ => rfl) (fun _ => rfl) rfl (pv_f2 hn rfl) 61 rfl ?_
  refine pv_aload_n (M := mX3_init) 0 dX3_init_61 62 rfl rfl rfl ?_
  refine pv_iconst (M := mX3_init) (v := 4) dX3_init_62 63 rfl (by decide) ?_
  refine pv_newa_i (M := mX3_init) (kc := 2) (ks := 57122) dX3_init_63 wd170 (by decide) 4 (by decide) (by decide) (r2 := n + 8) (pv_f3 hn rfl) 65 rfl ?_
  refine pv_f4 (s3 := [pv_o 3 [.ref (n + 1), .int 0, .ref (n + 3), .ref (n + 4), .int 0, .ref (n + 6), .ref (n + 7), .null, .null, .null], pv_o 8 [.ref (n + 2), .int 0], pv_i 48 (fun _ => 0), pv_q 5 4 (fun _ => none), pv_o 8 [.ref (n + 5), .int 0], pv_i 0 (fun _ => 0), pv_i 4 (fun _ => 0), pv_i 4 (fun _ => 0), pv_i 4 (fun _ => 0)]) rfl ?_
  refine pv_putF (M := mX3_init) (h2 := h0 ++ [pv_o 3 [.ref (n + 1), .int 0, .ref (n + 3), .ref (n + 4), .int 0, .ref (n + 6), .ref (n + 7), .ref (n + 8), .null, .null], pv_o 8 [.ref (n + 2), .int 0], pv_i 48 (fun _ => 0), pv_q 5 4 (fun _ => none), pv_o 8 [.ref (n + 5), .int 0], pv_i 0 (fun _ => 0), pv_i 4 (fun _ => 0), pv_i 4 (fun _ => 0), pv_i 4 (fun _ => 0)]) (fs2 := [.ref (n + 1), .int 0, .ref (n + 3), .ref (n + 4), .int 0, .ref (n + 6), .ref (n + 7), .ref (n + 8), .null, .null]) dX3_init_65 FX3 7 wd988 (by decide) rfl rfl rfl (pv_f1 hn rfl) (Nat.le_of_ble_eq_true rfl) (fun _ => rfl) (fun _ => rfl) rfl (pv_f2 hn rfl) 68 rfl ?_
  refine pv_aload_n (M := mX3_init) 0 dX3_init_68 69 rfl rfl rfl ?_
  refine pv_sipush (M := mX3_init) (v := 28561) dX3_init_69 72 rfl (by decide) ?_
  refine pv_newa_i (M := mX3_init) (kc := 1) (ks := 28561) dX3_init_72 wd170 (by decide) 28561 (by decide) (by decide) (r2 := n + 9) (pv_f3 hn rfl) 74 rfl ?_
  refine pv_f4 (s3 := [pv_o 3 [.ref (n + 1), .int 0, .ref (n + 3), .ref (n + 4), .int 0, .ref (n + 6), .ref (n + 7), .ref (n + 8), .null, .null], pv_o 8 [.ref (n + 2), .int 0], pv_i 48 (fun _ => 0), pv_q 5 4 (fun _ => none), pv_o 8 [.ref (n + 5), .int 0], pv_i 0 (fun _ => 0), pv_i 4 (fun _ => 0), pv_i 4 (fun _ => 0), pv_i 4 (fun _ => 0), pv_i 28561 (fun _ => 0)]) rfl ?_
  refine pv_putF (M := mX3_init) (h2 := h0 ++ [pv_o 3 [.ref (n + 1), .int 0, .ref (n + 3), .ref (n + 4), .int 0, .ref (n + 6), .ref (n + 7), .ref (n + 8), .ref (n + 9), .null], pv_o 8 [.ref (n + 2), .int 0], pv_i 48 (fun _ => 0), pv_q 5 4 (fun _ => none), pv_o 8 [.ref (n + 5), .int 0], pv_i 0 (fun _ => 0), pv_i 4 (fun _ => 0), pv_i 4 (fun _ => 0), pv_i 4 (fun _ => 0), pv_i 28561 (fun _ => 0)]) (fs2 := [.ref (n + 1), .int 0, .ref (n + 3), .ref (n + 4), .int 0, .ref (n + 6), .ref (n + 7), .ref (n + 8), .ref (n + 9), .null]) dX3_init_74 FX3 8 wd989 (by decide) rfl rfl rfl (pv_f1 hn rfl) (Nat.le_of_ble_eq_true rfl) (fun _ => rfl) (fun _ => rfl) rfl (pv_f2 hn rfl) 77 rfl ?_
  refine pv_aload_n (M := mX3_init) 0 dX3_init_77 78 rfl rfl rfl ?_
  refine pv_sipush (M := mX3_init) (v := 28561) dX3_init_78 81 rfl (by decide) ?_
  refine pv_newa_l (M := mX3_init) (kc := 0) (ks := 0) dX3_init_81 wd339 (by decide) 28561 (by decide) (by decide) (r2 := n + 10) (pv_f3 hn rfl) 83 rfl ?_
  refine pv_f4 (s3 := [pv_o 3 [.ref (n + 1), .int 0, .ref (n + 3), .ref (n + 4), .int 0, .ref (n + 6), .ref (n + 7), .ref (n + 8), .ref (n + 9), .null], pv_o 8 [.ref (n + 2), .int 0], pv_i 48 (fun _ => 0), pv_q 5 4 (fun _ => none), pv_o 8 [.ref (n + 5), .int 0], pv_i 0 (fun _ => 0), pv_i 4 (fun _ => 0), pv_i 4 (fun _ => 0), pv_i 4 (fun _ => 0), pv_i 28561 (fun _ => 0), pv_l 28561 (fun _ => 0)]) rfl ?_
  refine pv_putF (M := mX3_init) (h2 := h0 ++ [pv_o 3 [.ref (n + 1), .int 0, .ref (n + 3), .ref (n + 4), .int 0, .ref (n + 6), .ref (n + 7), .ref (n + 8), .ref (n + 9), .ref (n + 10)], pv_o 8 [.ref (n + 2), .int 0], pv_i 48 (fun _ => 0), pv_q 5 4 (fun _ => none), pv_o 8 [.ref (n + 5), .int 0], pv_i 0 (fun _ => 0), pv_i 4 (fun _ => 0), pv_i 4 (fun _ => 0), pv_i 4 (fun _ => 0), pv_i 28561 (fun _ => 0), pv_l 28561 (fun _ => 0)]) (fs2 := [.ref (n + 1), .int 0, .ref (n + 3), .ref (n + 4), .int 0, .ref (n + 6), .ref (n + 7), .ref (n + 8), .ref (n + 9), .ref (n + 10)]) dX3_init_83 FX3 9 wd990 (by decide) rfl rfl rfl (pv_f1 hn rfl) (Nat.le_of_ble_eq_true rfl) (fun _ => rfl) (fun _ => rfl) rfl (pv_f2 hn rfl) 86 rfl ?_
  exact k
