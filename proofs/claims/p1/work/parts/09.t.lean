set_option maxHeartbeats 400000 in
set_option maxRecDepth 20000 in
theorem k_X10_init (g : pv_G) {h0 : List pv_C} {n : Nat} (hn : h0.length = n) : PM g mX10_init yX10_init (pv_is none (h0 ++ [pv_o 10 [.ref (n + 1), .int 0], pv_i 200 (fun _ => 0)])) 1 1 200 [.ref (n + 0)] (h0 ++ [pv_o 10 [.null, .int 0]]) := by
  refine PM.of 0 (lo := [.ref (n + 0)]) rfl (by decide) rfl rfl (Nat.le_of_ble_eq_true rfl) ?_
  refine pv_aload_n 0 dX10_init_0 1 rfl rfl rfl ?_
  refine pv_obj dX10_init_1 wd160 wd153 wd154 (Nat.le_of_ble_eq_true rfl) (by decide) 4 rfl ?_
  refine pv_aload_n 0 dX10_init_4 5 rfl rfl rfl ?_
  refine pv_sipush (v := 200) dX10_init_5 8 rfl (by decide) ?_
  refine pv_newa_i (kc := 0) (ks := 0) dX10_init_8 wd170 (by decide) 200 (by decide) (by decide) (r2 := n + 1) (pv_f3 hn rfl) 10 rfl ?_
  refine pv_f4 (s3 := [pv_o 10 [.null, .int 0], pv_i 200 (fun _ => 0)]) rfl ?_
  refine pv_putF (h2 := h0 ++ [pv_o 10 [.ref (n + 1), .int 0], pv_i 200 (fun _ => 0)]) dX10_init_10 FX10 0 wd161 (by decide) rfl rfl rfl (pv_f1 hn rfl) (Nat.le_of_ble_eq_true rfl) (fun _ => rfl) (fun _ => rfl) (pv_f2 hn rfl) 13 rfl ?_
  refine pv_aload_n 0 dX10_init_13 14 rfl rfl rfl ?_
  refine pv_iconst (v := 0) dX10_init_14 15 rfl (by decide) ?_
  refine pv_put (h2 := h0 ++ [pv_o 10 [.ref (n + 1), .int 0], pv_i 200 (fun _ => 0)]) dX10_init_15 FX10 1 wd163 (by decide) rfl (pv_f1 hn rfl) (Nat.le_of_ble_eq_true rfl) (fun _ => rfl) (fun _ => rfl) (pv_f2 hn rfl) 18 rfl ?_
  exact pv_vret dX10_init_18 rfl ⟨rfl, rfl⟩

set_option maxHeartbeats 400000 in
set_option maxRecDepth 20000 in
theorem k_X8_init (g : pv_G) {h0 : List pv_C} {n : Nat} (hn : h0.length = n) : PM g mX8_init yX8_init (pv_is none (h0 ++ [pv_o 8 [.ref (n + 1), .int 0], pv_i 40 (fun _ => 0)])) 1 1 40 [.ref (n + 0), .int 40] (h0 ++ [pv_o 8 [.null, .int 0]]) := by
  refine PM.of 0 (lo := [.ref (n + 0), .int 40]) rfl (by decide) rfl rfl (Nat.le_of_ble_eq_true rfl) ?_
  refine pv_aload_n 0 dX8_init_0 1 rfl rfl rfl ?_
  refine pv_obj dX8_init_1 wd183 wd153 wd154 (Nat.le_of_ble_eq_true rfl) (by decide) 4 rfl ?_
  refine pv_aload_n 0 dX8_init_4 5 rfl rfl rfl ?_
  refine pv_iconst (v := 0) dX8_init_5 6 rfl (by decide) ?_
  refine pv_put (h2 := h0 ++ [pv_o 8 [.null, .int 0]]) dX8_init_6 FX8 1 wd193 (by decide) rfl (pv_f1 hn rfl) (Nat.le_of_ble_eq_true rfl) (fun _ => rfl) (fun _ => rfl) (pv_f2 hn rfl) 9 rfl ?_
  refine pv_aload_n 0 dX8_init_9 10 rfl rfl rfl ?_
  refine pv_iload_n 1 dX8_init_10 11 rfl rfl rfl ?_
  refine pv_iconst (v := 0) dX8_init_11 12 rfl (by decide) ?_
  refine pv_max dX8_init_12 wd184 Wmmax (Nat.le_of_ble_eq_true rfl) (by decide) (v := 40) (by decide) 15 rfl ?_
  refine pv_newa_i (kc := 0) (ks := 0) dX8_init_15 wd170 (by decide) 40 (by decide) (by decide) (r2 := n + 1) (pv_f3 hn rfl) 17 rfl ?_
  refine pv_f4 (s3 := [pv_o 8 [.null, .int 0], pv_i 40 (fun _ => 0)]) rfl ?_
  refine pv_putF (h2 := h0 ++ [pv_o 8 [.ref (n + 1), .int 0], pv_i 40 (fun _ => 0)]) dX8_init_17 FX8 0 wd187 (by decide) rfl rfl rfl (pv_f1 hn rfl) (Nat.le_of_ble_eq_true rfl) (fun _ => rfl) (fun _ => rfl) (pv_f2 hn rfl) 20 rfl ?_
  exact pv_vret dX8_init_20 rfl ⟨rfl, rfl⟩

set_option maxHeartbeats 400000 in
set_option maxRecDepth 20000 in
theorem k_X0_init (g : pv_G) {h0 : List pv_C} {n : Nat} (hn : h0.length = n) : PM g mX0_init yX0_init (pv_is none (h0 ++ [pv_o 0 [.ref (n + 1), .ref (n + 3), .ref (n + 5), .ref (n + 6)], pv_o 8 [.ref (n + 2), .int 0], pv_i 40 (fun _ => 0), pv_o 8 [.ref (n + 4), .int 0], pv_i 40 (fun _ => 0), pv_i 40 (fun _ => 0), pv_z 40 (fun _ => 0)])) 2 6 164 [.ref (n + 0)] (h0 ++ [pv_o 0 [.null, .null, .null, .null]]) := by
  refine PM.of 0 (lo := [.ref (n + 0)]) rfl (by decide) rfl rfl (Nat.le_of_ble_eq_true rfl) ?_
  refine pv_aload_n 0 dX0_init_0 1 rfl rfl rfl ?_
  refine pv_obj dX0_init_1 wd177 wd153 wd154 (Nat.le_of_ble_eq_true rfl) (by decide) 4 rfl ?_
  refine pv_aload_n 0 dX0_init_4 5 rfl rfl rfl ?_
  refine pv_new (kc := 5) (ks := 162) (fs := [.null, .int 0]) dX0_init_5 FX8 wd178 wd179 wd128 (fun _ => pv_dfX8) (r2 := n + 1) (pv_f3 hn rfl) 8 rfl ?_
  refine pv_f4 (s3 := [pv_o 0 [.null, .null, .null, .null], pv_o 8 [.null, .int 0]]) rfl ?_
  refine pv_dup dX0_init_8 9 rfl rfl ?_
  refine pv_bipush (v := 40) dX0_init_9 11 rfl (by decide) ?_
  refine pv_calli (as := [.int 40]) (st := [.ref (n + 1), .ref (n + 0)]) (kc2 := 4) (ks2 := 122) dX0_init_11 wd180 YX8_init ⟨rfl, rfl, wd181⟩ (pv_B (s1 := [pv_o 0 [.null, .null, .null, .null]]) (s2 := [pv_o 8 [.null, .int 0]]) (s3 := [pv_o 0 [.null, .null, .null, .null], pv_o 8 [.null, .int 0]]) rfl (k_X8_init g (h0 := h0 ++ [pv_o 0 [.null, .null, .null, .null]]) (n := n + 1) (pv_f3 hn rfl))) rfl rfl (Nat.le_of_ble_eq_true rfl) (by decide) rfl rfl 14 rfl (pv_k0 ?_)
  refine pv_f4 (s3 := [pv_o 0 [.null, .null, .null, .null], pv_o 8 [.ref (n + 2), .int 0], pv_i 40 (fun _ => 0)]) rfl ?_
  refine pv_putF (h2 := h0 ++ [pv_o 0 [.ref (n + 1), .null, .null, .null], pv_o 8 [.ref (n + 2), .int 0], pv_i 40 (fun _ => 0)]) dX0_init_14 FX0 0 wd207 (by decide) rfl rfl rfl (pv_f1 hn rfl) (Nat.le_of_ble_eq_true rfl) (fun _ => rfl) (fun _ => rfl) (pv_f2 hn rfl) 17 rfl ?_
  refine pv_aload_n 0 dX0_init_17 18 rfl rfl rfl ?_
  refine pv_new (kc := 3) (ks := 120) (fs := [.null, .int 0]) dX0_init_18 FX8 wd178 wd179 wd128 (fun _ => pv_dfX8) (r2 := n + 3) (pv_f3 hn rfl) 21 rfl ?_
  refine pv_f4 (s3 := [pv_o 0 [.ref (n + 1), .null, .null, .null], pv_o 8 [.ref (n + 2), .int 0], pv_i 40 (fun _ => 0), pv_o 8 [.null, .int 0]]) rfl ?_
  refine pv_dup dX0_init_21 22 rfl rfl ?_
  refine pv_bipush (v := 40) dX0_init_22 24 rfl (by decide) ?_
  refine pv_calli (as := [.int 40]) (st := [.ref (n + 3), .ref (n + 0)]) (kc2 := 2) (ks2 := 80) dX0_init_24 wd180 YX8_init ⟨rfl, rfl, wd181⟩ (pv_B (s1 := [pv_o 0 [.ref (n + 1), .null, .null, .null], pv_o 8 [.ref (n + 2), .int 0], pv_i 40 (fun _ => 0)]) (s2 := [pv_o 8 [.null, .int 0]]) (s3 := [pv_o 0 [.ref (n + 1), .null, .null, .null], pv_o 8 [.ref (n + 2), .int 0], pv_i 40 (fun _ => 0), pv_o 8 [.null, .int 0]]) rfl (k_X8_init g (h0 := h0 ++ [pv_o 0 [.ref (n + 1), .null, .null, .null], pv_o 8 [.ref (n + 2), .int 0], pv_i 40 (fun _ => 0)]) (n := n + 3) (pv_f3 hn rfl))) rfl rfl (Nat.le_of_ble_eq_true rfl) (by decide) rfl rfl 27 rfl (pv_k0 ?_)
  refine pv_f4 (s3 := [pv_o 0 [.ref (n + 1), .null, .null, .null], pv_o 8 [.ref (n + 2), .int 0], pv_i 40 (fun _ => 0), pv_o 8 [.ref (n + 4), .int 0], pv_i 40 (fun _ => 0)]) rfl ?_
  refine pv_putF (h2 := h0 ++ [pv_o 0 [.ref (n + 1), .ref (n + 3), .null, .null], pv_o 8 [.ref (n + 2), .int 0], pv_i 40 (fun _ => 0), pv_o 8 [.ref (n + 4), .int 0], pv_i 40 (fun _ => 0)]) dX0_init_27 FX0 1 wd209 (by decide) rfl rfl rfl (pv_f1 hn rfl) (Nat.le_of_ble_eq_true rfl) (fun _ => rfl) (fun _ => rfl) (pv_f2 hn rfl) 30 rfl ?_
  refine pv_aload_n 0 dX0_init_30 31 rfl rfl rfl ?_
  refine pv_bipush (v := 40) dX0_init_31 33 rfl (by decide) ?_
  refine pv_newa_i (kc := 1) (ks := 40) dX0_init_33 wd170 (by decide) 40 (by decide) (by decide) (r2 := n + 5) (pv_f3 hn rfl) 35 rfl ?_
  refine pv_f4 (s3 := [pv_o 0 [.ref (n + 1), .ref (n + 3), .null, .null], pv_o 8 [.ref (n + 2), .int 0], pv_i 40 (fun _ => 0), pv_o 8 [.ref (n + 4), .int 0], pv_i 40 (fun _ => 0), pv_i 40 (fun _ => 0)]) rfl ?_
  refine pv_putF (h2 := h0 ++ [pv_o 0 [.ref (n + 1), .ref (n + 3), .ref (n + 5), .null], pv_o 8 [.ref (n + 2), .int 0], pv_i 40 (fun _ => 0), pv_o 8 [.ref (n + 4), .int 0], pv_i 40 (fun _ => 0), pv_i 40 (fun _ => 0)]) dX0_init_35 FX0 2 wd212 (by decide) rfl rfl rfl (pv_f1 hn rfl) (Nat.le_of_ble_eq_true rfl) (fun _ => rfl) (fun _ => rfl) (pv_f2 hn rfl) 38 rfl ?_
  refine pv_aload_n 0 dX0_init_38 39 rfl rfl rfl ?_
  refine pv_bipush (v := 40) dX0_init_39 41 rfl (by decide) ?_
  refine pv_newa_z (kc := 0) (ks := 0) dX0_init_41 wd223 (by decide) 40 (by decide) (by decide) (r2 := n + 6) (pv_f3 hn rfl) 43 rfl ?_
  refine pv_f4 (s3 := [pv_o 0 [.ref (n + 1), .ref (n + 3), .ref (n + 5), .null], pv_o 8 [.ref (n + 2), .int 0], pv_i 40 (fun _ => 0), pv_o 8 [.ref (n + 4), .int 0], pv_i 40 (fun _ => 0), pv_i 40 (fun _ => 0), pv_z 40 (fun _ => 0)]) rfl ?_
  refine pv_putF (h2 := h0 ++ [pv_o 0 [.ref (n + 1), .ref (n + 3), .ref (n + 5), .ref (n + 6)], pv_o 8 [.ref (n + 2), .int 0], pv_i 40 (fun _ => 0), pv_o 8 [.ref (n + 4), .int 0], pv_i 40 (fun _ => 0), pv_i 40 (fun _ => 0), pv_z 40 (fun _ => 0)]) dX0_init_43 FX0 3 wd213 (by decide) rfl rfl rfl (pv_f1 hn rfl) (Nat.le_of_ble_eq_true rfl) (fun _ => rfl) (fun _ => rfl) (pv_f2 hn rfl) 46 rfl ?_
  exact pv_vret dX0_init_46 rfl ⟨rfl, rfl⟩
