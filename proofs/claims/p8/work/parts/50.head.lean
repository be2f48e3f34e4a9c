set_option maxHeartbeats 4000000 in
set_option maxRecDepth 20000 in
theorem law_head (g : pv_G) {sc : pv_S} {Q : Option Value → List pv_C → Prop} {b : Nat} {h0 : List pv_C} {n : Nat} (hn : h0.length = n) (k : PV sc g mL_law Q 30 11 57200 18 [.retAddr (b + 1), .ref (n + 0), .ref (n + 123), .int 0] [] (h0 ++ [pv_o 11 [.ref (n + 1), .ref (n + 3), .int 0, .ref (n + 60), .ref (n + 77), .ref (n + 86), .ref (n + 97), .int 0, .int 1, .ref (n + 104), .ref (n + 107), .ref (n + 112), .null, .ref (n + 116), .ref (n + 120), .ref (n + 121), .ref (n + 122)], pv_o 10 [.ref (n + 2), .int 0], pv_i 200 (fun _ => 0), pv_q 4 8 (va_up (va_up (va_up (va_up (va_up (va_up (va_up (va_up (fun _ => none) 0 (some (n + 4))) 1 (some (n + 11))) 2 (some (n + 18))) 3 (some (n + 25))) 4 (some (n + 32))) 5 (some (n + 39))) 6 (some (n + 46))) 7 (some (n + 53))), pv_o 0 [.ref (n + 5), .ref (n + 7), .ref (n + 9), .ref (n + 10)], pv_o 8 [.ref (n + 6), .int 0], pv_i 40 (fun _ => 0), pv_o 8 [.ref (n + 8), .int 0], pv_i 40 (fun _ => 0), pv_i 40 (fun _ => 0), pv_z 40 (fun _ => 0), pv_o 0 [.ref (n + 12), .ref (n + 14), .ref (n + 16), .ref (n + 17)], pv_o 8 [.ref (n + 13), .int 0], pv_i 40 (fun _ => 0), pv_o 8 [.ref (n + 15), .int 0], pv_i 40 (fun _ => 0), pv_i 40 (fun _ => 0), pv_z 40 (fun _ => 0), pv_o 0 [.ref (n + 19), .ref (n + 21), .ref (n + 23), .ref (n + 24)], pv_o 8 [.ref (n + 20), .int 0], pv_i 40 (fun _ => 0), pv_o 8 [.ref (n + 22), .int 0], pv_i 40 (fun _ => 0), pv_i 40 (fun _ => 0), pv_z 40 (fun _ => 0), pv_o 0 [.ref (n + 26), .ref (n + 28), .ref (n + 30), .ref (n + 31)], pv_o 8 [.ref (n + 27), .int 0], pv_i 40 (fun _ => 0), pv_o 8 [.ref (n + 29), .int 0], pv_i 40 (fun _ => 0), pv_i 40 (fun _ => 0), pv_z 40 (fun _ => 0), pv_o 0 [.ref (n + 33), .ref (n + 35), .ref (n + 37), .ref (n + 38)], pv_o 8 [.ref (n + 34), .int 0], pv_i 40 (fun _ => 0), pv_o 8 [.ref (n + 36), .int 0], pv_i 40 (fun _ => 0), pv_i 40 (fun _ => 0), pv_z 40 (fun _ => 0), pv_o 0 [.ref (n + 40), .ref (n + 42), .ref (n + 44), .ref (n + 45)], pv_o 8 [.ref (n + 41), .int 0], pv_i 40 (fun _ => 0), pv_o 8 [.ref (n + 43), .int 0], pv_i 40 (fun _ => 0), pv_i 40 (fun _ => 0), pv_z 40 (fun _ => 0), pv_o 0 [.ref (n + 47), .ref (n + 49), .ref (n + 51), .ref (n + 52)], pv_o 8 [.ref (n + 48), .int 0], pv_i 40 (fun _ => 0), pv_o 8 [.ref (n + 50), .int 0], pv_i 40 (fun _ => 0), pv_i 40 (fun _ => 0), pv_z 40 (fun _ => 0), pv_o 0 [.ref (n + 54), .ref (n + 56), .ref (n + 58), .ref (n + 59)], pv_o 8 [.ref (n + 55), .int 0], pv_i 40 (fun _ => 0), pv_o 8 [.ref (n + 57), .int 0], pv_i 40 (fun _ => 0), pv_i 40 (fun _ => 0), pv_z 40 (fun _ => 0), pv_q 5 8 (va_up (va_up (va_up (va_up (va_up (va_up (va_up (va_up (fun _ => none) 0 (some (n + 61))) 1 (some (n + 63))) 2 (some (n + 65))) 3 (some (n + 67))) 4 (some (n + 69))) 5 (some (n + 71))) 6 (some (n + 73))) 7 (some (n + 75))), pv_o 8 [.ref (n + 62), .int 0], pv_i 16 (fun _ => 0), pv_o 8 [.ref (n + 64), .int 0], pv_i 16 (fun _ => 0), pv_o 8 [.ref (n + 66), .int 0], pv_i 16 (fun _ => 0), pv_o 8 [.ref (n + 68), .int 0], pv_i 16 (fun _ => 0), pv_o 8 [.ref (n + 70), .int 0], pv_i 16 (fun _ => 0), pv_o 8 [.ref (n + 72), .int 0], pv_i 16 (fun _ => 0), pv_o 8 [.ref (n + 74), .int 0], pv_i 16 (fun _ => 0), pv_o 8 [.ref (n + 76), .int 0], pv_i 16 (fun _ => 0), pv_o 6 [.ref (n + 78), .ref (n + 79), .int 0, .ref (n + 80), .ref (n + 81), .ref (n + 82), .ref (n + 83), .int 0, .ref (n + 84), .ref (n + 85), .int 0, .int 0], pv_i 160 (fun _ => 0), pv_i 160 (fun _ => 0), pv_i 12 (fun _ => 0), pv_i 12 (fun _ => 0), pv_i 12 (fun _ => 0), pv_i 12 (fun _ => 0), pv_i 10 (fun _ => 0), pv_i 32 (fun _ => 0), pv_o 7 [.ref (n + 87), .ref (n + 88), .int 0, .int 0, .int 0], pv_i 160 (fun _ => 0), pv_o 6 [.ref (n + 89), .ref (n + 90), .int 0, .ref (n + 91), .ref (n + 92), .ref (n + 93), .ref (n + 94), .int 0, .ref (n + 95), .ref (n + 96), .int 0, .int 0], pv_i 160 (fun _ => 0), pv_i 160 (fun _ => 0), pv_i 12 (fun _ => 0), pv_i 12 (fun _ => 0), pv_i 12 (fun _ => 0), pv_i 12 (fun _ => 0), pv_i 10 (fun _ => 0), pv_i 32 (fun _ => 0), pv_o 1 [.ref (n + 98), .ref (n + 99), .ref (n + 100), .ref (n + 101), .ref (n + 102), .ref (n + 103), .int 0], pv_i 60 (fun _ => 0), pv_i 60 (fun _ => 0), pv_i 60 (fun _ => 0), pv_i 60 (fun _ => 0), pv_i 60 (fun _ => 0), pv_i 540 (fun _ => 0), pv_o 4 [.ref (n + 105), .ref (n + 106)], pv_i 41 (fun _ => 0), pv_l 41 (fun _ => 0), pv_o 2 [.ref (n + 108), .ref (n + 109), .ref (n + 110), .ref (n + 111)], pv_z 40 (fun _ => 0), pv_i 40 (fun _ => 0), pv_i 16 (fun _ => 0), pv_i 697 (fun _ => 0), pv_o 5 [.ref (n + 113), .int 0, .ref (n + 115)], pv_o 8 [.ref (n + 114), .int 0], pv_i 16 (fun _ => 0), pv_i 4913 (fun _ => 0), pv_o 9 [.ref (n + 117), .int 0, .int 0, .ref (n + 118), .ref (n + 119)], pv_i 8 (fun _ => 0), pv_i 64 (fun _ => 0), pv_i 2304 (fun _ => 0), pv_i 8 (fun _ => 0), pv_i 8 (fun _ => 0), pv_i 8 (fun _ => 0), pv_o 12 [.int 0, .int 0, .int 1, .int 0, .int 0, .ref (n + 124), .ref (n + 125), .ref (n + 126), .ref (n + 127), .ref (n + 128), .ref (n + 129), .int 0, .int 0, .int 0, .int 0, .int 0, .int 0, .int 0, .int 0, .int 0, .int 0, .ref (n + 130), .ref (n + 131), .ref (n + 132), .ref (n + 133), .ref (n + 134), .ref (n + 135), .ref (n + 136), .ref (n + 137), .ref (n + 138), .ref (n + 139), .ref (n + 140), .ref (n + 141), .ref (n + 142), .ref (n + 143), .ref (n + 144), .ref (n + 145), .ref (n + 146), .ref (n + 147), .ref (n + 148), .int 0, .int 0, .ref (n + 149), .ref (n + 150), .ref (n + 151), .ref (n + 152), .ref (n + 153), .ref (n + 154), .ref (n + 155), .ref (n + 156), .int 0, .ref (n + 157), .ref (n + 158), .ref (n + 159), .ref (n + 160), .ref (n + 161), .ref (n + 162), .ref (n + 163), .ref (n + 164), .ref (n + 165), .ref (n + 166), .int 0, .ref (n + 167), .ref (n + 168)], pv_i 8 (fun _ => 0), pv_i 320 (fun _ => 0), pv_i 8 (fun _ => 0), pv_i 128 (fun _ => 0), pv_z 320 (fun _ => 0), pv_b 200 (fun _ => 0), pv_i 180 (fun _ => 0), pv_i 180 (fun _ => 0), pv_i 12 (fun _ => 0), pv_i 12 (fun _ => 0), pv_i 12 (fun _ => 0), pv_i 12 (fun _ => 0), pv_i 180 (fun _ => 0), pv_i 12 (fun _ => 0), pv_i 12 (fun _ => 0), pv_i 12 (fun _ => 0), pv_i 12 (fun _ => 0), pv_i 180 (fun _ => 0), pv_i 10 (fun _ => 0), pv_i 60 (fun _ => 0), pv_i 60 (fun _ => 0), pv_i 60 (fun _ => 0), pv_i 60 (fun _ => 0), pv_i 60 (fun _ => 0), pv_i 540 (fun _ => 0), pv_i 40 (fun _ => 0), pv_i 16 (fun _ => 0), pv_l 17 (fun _ => 0), pv_i 40 (fun _ => 0), pv_i 697 (fun _ => 0), pv_i 16 (fun _ => 0), pv_i 697 (fun _ => 0), pv_l 697 (fun _ => 0), pv_i 4 (fun _ => 0), pv_i 4 (fun _ => 0), pv_i 4 (fun _ => 0), pv_i 4 (fun _ => 0), pv_i 4913 (fun _ => 0), pv_i 16 (fun _ => 0), pv_i 28561 (fun _ => 0), pv_l 28561 (fun _ => 0), pv_z 64 (fun _ => 0), pv_i 2304 (fun _ => 0), pv_z 72 (fun _ => 0), pv_i 2304 (fun _ => 0)])) : PV sc g mL_law Q 30 180 140744 0 [.retAddr (b + 1), pv_U, pv_U, pv_U] [] (h0 ++ []) := by
  refine pv_new (M := mL_law) (kc := 179) (ks := 140727) (fs := dvX11) dL_law_0 FX11 wd147 wd148 wd125 pv_dfX11 (r2 := n + 0) (pv_f3 hn rfl) 3 rfl ?_
  refine pv_f4 (s3 := [pv_o 11 [.null, .null, .int 0, .null, .null, .null, .null, .int 0, .int 0, .null, .null, .null, .null, .null, .null, .null, .null]]) rfl ?_
  refine pv_dup (M := mL_law) dL_law_3 4 rfl rfl ?_
  refine pv_calli (M := mL_law) (as := []) (st := [.ref (n + 0)]) (kc2 := 57) (ks2 := 128945) dL_law_4 wd149 YX11_init ⟨rfl, rfl, wd150⟩ (pv_B (s1 := []) (s2 := [pv_o 11 [.null, .null, .int 0, .null, .null, .null, .null, .int 0, .int 0, .null, .null, .null, .null, .null, .null, .null, .null]]) (s3 := [pv_o 11 [.null, .null, .int 0, .null, .null, .null, .null, .int 0, .int 0, .null, .null, .null, .null, .null, .null, .null, .null]]) rfl (k_X11_init g (h0 := h0 ++ []) (n := n + 0) (pv_f3 hn rfl))) rfl rfl (Nat.le_of_ble_eq_true rfl) (by decide) rfl rfl 7 rfl (pv_k0 ?_)
  refine pv_f4 (s3 := [pv_o 11 [.ref (n + 1), .ref (n + 3), .int 0, .ref (n + 60), .ref (n + 77), .ref (n + 86), .ref (n + 97), .int 0, .int 1, .ref (n + 104), .ref (n + 107), .ref (n + 112), .null, .ref (n + 116), .ref (n + 120), .ref (n + 121), .ref (n + 122)], pv_o 10 [.ref (n + 2), .int 0], pv_i 200 (fun _ => 0), pv_q 4 8 (va_up (va_up (va_up (va_up (va_up (va_up (va_up (va_up (fun _ => none) 0 (some (n + 4))) 1 (some (n + 11))) 2 (some (n + 18))) 3 (some (n + 25))) 4 (some (n + 32))) 5 (some (n + 39))) 6 (some (n + 46))) 7 (some (n + 53))), pv_o 0 [.ref (n + 5), .ref (n + 7), .ref (n + 9), .ref (n + 10)], pv_o 8 [.ref (n + 6), .int 0], pv_i 40 (fun _ => 0), pv_o 8 [.ref (n + 8), .int 0], pv_i 40 (fun _ => 0), pv_i 40 (fun _ => 0), pv_z 40 (fun _ => 0), pv_o 0 [.ref (n + 12), .ref (n + 14), .ref (n + 16), .ref (n + 17)], pv_o 8 [.ref (n + 13), .int 0], pv_i 40 (fun _ => 0), pv_o 8 [.ref (n + 15), .int 0], pv_i 40 (fun _ => 0), pv_i 40 (fun _ => 0), pv_z 40 (fun _ => 0), pv_o 0 [.ref (n + 19), .ref (n + 21), .ref (n + 23), .ref (n + 24)], pv_o 8 [.ref (n + 20), .int 0], pv_i 40 (fun _ => 0), pv_o 8 [.ref (n + 22), .int 0], pv_i 40 (fun _ => 0), pv_i 40 (fun _ => 0), pv_z 40 (fun _ => 0), pv_o 0 [.ref (n + 26), .ref (n + 28), .ref (n + 30), .ref (n + 31)], pv_o 8 [.ref (n + 27), .int 0], pv_i 40 (fun _ => 0), pv_o 8 [.ref (n + 29), .int 0], pv_i 40 (fun _ => 0), pv_i 40 (fun _ => 0), pv_z 40 (fun _ => 0), pv_o 0 [.ref (n + 33), .ref (n + 35), .ref (n + 37), .ref (n + 38)], pv_o 8 [.ref (n + 34), .int 0], pv_i 40 (fun _ => 0), pv_o 8 [.ref (n + 36), .int 0], pv_i 40 (fun _ => 0), pv_i 40 (fun _ => 0), pv_z 40 (fun _ => 0), pv_o 0 [.ref (n + 40), .ref (n + 42), .ref (n + 44), .ref (n + 45)], pv_o 8 [.ref (n + 41), .int 0], pv_i 40 (fun _ => 0), pv_o 8 [.ref (n + 43), .int 0], pv_i 40 (fun _ => 0), pv_i 40 (fun _ => 0), pv_z 40 (fun _ => 0), pv_o 0 [.ref (n + 47), .ref (n + 49), .ref (n + 51), .ref (n + 52)], pv_o 8 [.ref (n + 48), .int 0], pv_i 40 (fun _ => 0), pv_o 8 [.ref (n + 50), .int 0], pv_i 40 (fun _ => 0), pv_i 40 (fun _ => 0), pv_z 40 (fun _ => 0), pv_o 0 [.ref (n + 54), .ref (n + 56), .ref (n + 58), .ref (n + 59)], pv_o 8 [.ref (n + 55), .int 0], pv_i 40 (fun _ => 0), pv_o 8 [.ref (n + 57), .int 0], pv_i 40 (fun _ => 0), pv_i 40 (fun _ => 0), pv_z 40 (fun _ => 0), pv_q 5 8 (va_up (va_up (va_up (va_up (va_up (va_up (va_up (va_up (fun _ => none) 0 (some (n + 61))) 1 (some (n + 63))) 2 (some (n + 65))) 3 (some (n + 67))) 4 (some (n + 69))) 5 (some (n + 71))) 6 (some (n + 73))) 7 (some (n + 75))), pv_o 8 [.ref (n + 62), .int 0], pv_i 16 (fun _ => 0), pv_o 8 [.ref (n + 64), .int 0], pv_i 16 (fun _ => 0), pv_o 8 [.ref (n + 66), .int 0], pv_i 16 (fun _ => 0), pv_o 8 [.ref (n + 68), .int 0], pv_i 16 (fun _ => 0), pv_o 8 [.ref (n + 70), .int 0], pv_i 16 (fun _ => 0), pv_o 8 [.ref (n + 72), .int 0], pv_i 16 (fun _ => 0), pv_o 8 [.ref (n + 74), .int 0], pv_i 16 (fun _ => 0), pv_o 8 [.ref (n + 76), .int 0], pv_i 16 (fun _ => 0), pv_o 6 [.ref (n + 78), .ref (n + 79), .int 0, .ref (n + 80), .ref (n + 81), .ref (n + 82), .ref (n + 83), .int 0, .ref (n + 84), .ref (n + 85), .int 0, .int 0], pv_i 160 (fun _ => 0), pv_i 160 (fun _ => 0), pv_i 12 (fun _ => 0), pv_i 12 (fun _ => 0), pv_i 12 (fun _ => 0), pv_i 12 (fun _ => 0), pv_i 10 (fun _ => 0), pv_i 32 (fun _ => 0), pv_o 7 [.ref (n + 87), .ref (n + 88), .int 0, .int 0, .int 0], pv_i 160 (fun _ => 0), pv_o 6 [.ref (n + 89), .ref (n + 90), .int 0, .ref (n + 91), .ref (n + 92), .ref (n + 93), .ref (n + 94), .int 0, .ref (n + 95), .ref (n + 96), .int 0, .int 0], pv_i 160 (fun _ => 0), pv_i 160 (fun _ => 0), pv_i 12 (fun _ => 0), pv_i 12 (fun _ => 0), pv_i 12 (fun _ => 0), pv_i 12 (fun _ => 0), pv_i 10 (fun _ => 0), pv_i 32 (fun _ => 0), pv_o 1 [.ref (n + 98), .ref (n + 99), .ref (n + 100), .ref (n + 101), .ref (n + 102), .ref (n + 103), .int 0], pv_i 60 (fun _ => 0), pv_i 60 (fun _ => 0), pv_i 60 (fun _ => 0), pv_i 60 (fun _ => 0), pv_i 60 (fun _ => 0), pv_i 540 (fun _ => 0), pv_o 4 [.ref (n + 105), .ref (n + 106)], pv_i 41 (fun _ => 0), pv_l 41 (fun _ => 0), pv_o 2 [.ref (n + 108), .ref (n + 109), .ref (n + 110), .ref (n + 111)], pv_z 40 (fun _ => 0), pv_i 40 (fun _ => 0), pv_i 16 (fun _ => 0), pv_i 697 (fun _ => 0), pv_o 5 [.ref (n + 113), .int 0, .ref (n + 115)], pv_o 8 [.ref (n + 114), .int 0], pv_i 16 (fun _ => 0), pv_i 4913 (fun _ => 0), pv_o 9 [.ref (n + 117), .int 0, .int 0, .ref (n + 118), .ref (n + 119)], pv_i 8 (fun _ => 0), pv_i 64 (fun _ => 0), pv_i 2304 (fun _ => 0), pv_i 8 (fun _ => 0), pv_i 8 (fun _ => 0), pv_i 8 (fun _ => 0)]) rfl ?_
  refine pv_astore_n (M := mL_law) 1 (lo2 := [.retAddr (b + 1), .ref (n + 0), pv_U, pv_U]) dL_law_7 8 rfl rfl (by decide) rfl rfl ?_
  refine pv_new (M := mL_law) (kc := 56) (ks := 128881) (fs := dvX12) dL_law_8 FX12 wd1167 wd1168 wd137 pv_dfX12 (r2 := n + 123) (pv_f3 hn rfl) 11 rfl ?_
  refine pv_f4 (s3 := [pv_o 11 [.ref (n + 1), .ref (n + 3), .int 0, .ref (n + 60), .ref (n + 77), .ref (n + 86), .ref (n + 97), .int 0, .int 1, .ref (n + 104), .ref (n + 107), .ref (n + 112), .null, .ref (n + 116), .ref (n + 120), .ref (n + 121), .ref (n + 122)], pv_o 10 [.ref (n + 2), .int 0], pv_i 200 (fun _ => 0), pv_q 4 8 (va_up (va_up (va_up (va_up (va_up (va_up (va_up (va_up (fun _ => none) 0 (some (n + 4))) 1 (some (n + 11))) 2 (some (n + 18))) 3 (some (n + 25))) 4 (some (n + 32))) 5 (some (n + 39))) 6 (some (n + 46))) 7 (some (n + 53))), pv_o 0 [.ref (n + 5), .ref (n + 7), .ref (n + 9), .ref (n + 10)], pv_o 8 [.ref (n + 6), .int 0], pv_i 40 (fun _ => 0), pv_o 8 [.ref (n + 8), .int 0], pv_i 40 (fun _ => 0), pv_i 40 (fun _ => 0), pv_z 40 (fun _ => 0), pv_o 0 [.ref (n + 12), .ref (n + 14), .ref (n + 16), .ref (n + 17)], pv_o 8 [.ref (n + 13), .int 0], pv_i 40 (fun _ => 0), pv_o 8 [.ref (n + 15), .int 0], pv_i 40 (fun _ => 0), pv_i 40 (fun _ => 0), pv_z 40 (fun _ => 0), pv_o 0 [.ref (n + 19), .ref (n + 21), .ref (n + 23), .ref (n + 24)], pv_o 8 [.ref (n + 20), .int 0], pv_i 40 (fun _ => 0), pv_o 8 [.ref (n + 22), .int 0], pv_i 40 (fun _ => 0), pv_i 40 (fun _ => 0), pv_z 40 (fun _ => 0), pv_o 0 [.ref (n + 26), .ref (n + 28), .ref (n + 30), .ref (n + 31)], pv_o 8 [.ref (n + 27), .int 0], pv_i 40 (fun _ => 0), pv_o 8 [.ref (n + 29), .int 0], pv_i 40 (fun _ => 0), pv_i 40 (fun _ => 0), pv_z 40 (fun _ => 0), pv_o 0 [.ref (n + 33), .ref (n + 35), .ref (n + 37), .ref (n + 38)], pv_o 8 [.ref (n + 34), .int 0], pv_i 40 (fun _ => 0), pv_o 8 [.ref (n + 36), .int 0], pv_i 40 (fun _ => 0), pv_i 40 (fun _ => 0), pv_z 40 (fun _ => 0), pv_o 0 [.ref (n + 40), .ref (n + 42), .ref (n + 44), .ref (n + 45)], pv_o 8 [.ref (n + 41), .int 0], pv_i 40 (fun _ => 0), pv_o 8 [.ref (n + 43), .int 0], pv_i 40 (fun _ => 0), pv_i 40 (fun _ => 0), pv_z 40 (fun _ => 0), pv_o 0 [.ref (n + 47), .ref (n + 49), .ref (n + 51), .ref (n + 52)], pv_o 8 [.ref (n + 48), .int 0], pv_i 40 (fun _ => 0), pv_o 8 [.ref (n + 50), .int 0], pv_i 40 (fun _ => 0), pv_i 40 (fun _ => 0), pv_z 40 (fun _ => 0), pv_o 0 [.ref (n + 54), .ref (n + 56), .ref (n + 58), .ref (n + 59)], pv_o 8 [.ref (n + 55), .int 0], pv_i 40 (fun _ => 0), pv_o 8 [.ref (n + 57), .int 0], pv_i 40 (fun _ => 0), pv_i 40 (fun _ => 0), pv_z 40 (fun _ => 0), pv_q 5 8 (va_up (va_up (va_up (va_up (va_up (va_up (va_up (va_up (fun _ => none) 0 (some (n + 61))) 1 (some (n + 63))) 2 (some (n + 65))) 3 (some (n + 67))) 4 (some (n + 69))) 5 (some (n + 71))) 6 (some (n + 73))) 7 (some (n + 75))), pv_o 8 [.ref (n + 62), .int 0], pv_i 16 (fun _ => 0), pv_o 8 [.ref (n + 64), .int 0], pv_i 16 (fun _ => 0), pv_o 8 [.ref (n + 66), .int 0], pv_i 16 (fun _ => 0), pv_o 8 [.ref (n + 68), .int 0], pv_i 16 (fun _ => 0), pv_o 8 [.ref (n + 70), .int 0], pv_i 16 (fun _ => 0), pv_o 8 [.ref (n + 72), .int 0], pv_i 16 (fun _ => 0), pv_o 8 [.ref (n + 74), .int 0], pv_i 16 (fun _ => 0), pv_o 8 [.ref (n + 76), .int 0], pv_i 16 (fun _ => 0), pv_o 6 [.ref (n + 78), .ref (n + 79), .int 0, .ref (n + 80), .ref (n + 81), .ref (n + 82), .ref (n + 83), .int 0, .ref (n + 84), .ref (n + 85), .int 0, .int 0], pv_i 160 (fun _ => 0), pv_i 160 (fun _ => 0), pv_i 12 (fun _ => 0), pv_i 12 (fun _ => 0), pv_i 12 (fun _ => 0), pv_i 12 (fun _ => 0), pv_i 10 (fun _ => 0), pv_i 32 (fun _ => 0), pv_o 7 [.ref (n + 87), .ref (n + 88), .int 0, .int 0, .int 0], pv_i 160 (fun _ => 0), pv_o 6 [.ref (n + 89), .ref (n + 90), .int 0, .ref (n + 91), .ref (n + 92), .ref (n + 93), .ref (n + 94), .int 0, .ref (n + 95), .ref (n + 96), .int 0, .int 0], pv_i 160 (fun _ => 0), pv_i 160 (fun _ => 0), pv_i 12 (fun _ => 0), pv_i 12 (fun _ => 0), pv_i 12 (fun _ => 0), pv_i 12 (fun _ => 0), pv_i 10 (fun _ => 0), pv_i 32 (fun _ => 0), pv_o 1 [.ref (n + 98), .ref (n + 99), .ref (n + 100), .ref (n + 101), .ref (n + 102), .ref (n + 103), .int 0], pv_i 60 (fun _ => 0), pv_i 60 (fun _ => 0), pv_i 60 (fun _ => 0), pv_i 60 (fun _ => 0), pv_i 60 (fun _ => 0), pv_i 540 (fun _ => 0), pv_o 4 [.ref (n + 105), .ref (n + 106)], pv_i 41 (fun _ => 0), pv_l 41 (fun _ => 0), pv_o 2 [.ref (n + 108), .ref (n + 109), .ref (n + 110), .ref (n + 111)], pv_z 40 (fun _ => 0), pv_i 40 (fun _ => 0), pv_i 16 (fun _ => 0), pv_i 697 (fun _ => 0), pv_o 5 [.ref (n + 113), .int 0, .ref (n + 115)], pv_o 8 [.ref (n + 114), .int 0], pv_i 16 (fun _ => 0), pv_i 4913 (fun _ => 0), pv_o 9 [.ref (n + 117), .int 0, .int 0, .ref (n + 118), .ref (n + 119)], pv_i 8 (fun _ => 0), pv_i 64 (fun _ => 0), pv_i 2304 (fun _ => 0), pv_i 8 (fun _ => 0), pv_i 8 (fun _ => 0), pv_i 8 (fun _ => 0), pv_o 12 [.int 0, .int 0, .int 0, .int 0, .int 0, .null, .null, .null, .null, .null, .null, .int 0, .int 0, .int 0, .int 0, .int 0, .int 0, .int 0, .int 0, .int 0, .int 0, .null, .null, .null, .null, .null, .null, .null, .null, .null, .null, .null, .null, .null, .null, .null, .null, .null, .null, .null, .int 0, .int 0, .null, .null, .null, .null, .null, .null, .null, .null, .int 0, .null, .null, .null, .null, .null, .null, .null, .null, .null, .null, .int 0, .null, .null]]) rfl ?_
  refine pv_dup (M := mL_law) dL_law_11 12 rfl rfl ?_
  refine pv_calli (M := mL_law) (as := []) (st := [.ref (n + 123)]) (kc2 := 11) (ks2 := 57200) dL_law_12 wd1169 YX12_init ⟨rfl, rfl, wd1170⟩ (pv_B (s1 := [pv_o 11 [.ref (n + 1), .ref (n + 3), .int 0, .ref (n + 60), .ref (n + 77), .ref (n + 86), .ref (n + 97), .int 0, .int 1, .ref (n + 104), .ref (n + 107), .ref (n + 112), .null, .ref (n + 116), .ref (n + 120), .ref (n + 121), .ref (n + 122)], pv_o 10 [.ref (n + 2), .int 0], pv_i 200 (fun _ => 0), pv_q 4 8 (va_up (va_up (va_up (va_up (va_up (va_up (va_up (va_up (fun _ => none) 0 (some (n + 4))) 1 (some (n + 11))) 2 (some (n + 18))) 3 (some (n + 25))) 4 (some (n + 32))) 5 (some (n + 39))) 6 (some (n + 46))) 7 (some (n + 53))), pv_o 0 [.ref (n + 5), .ref (n + 7), .ref (n + 9), .ref (n + 10)], pv_o 8 [.ref (n + 6), .int 0], pv_i 40 (fun _ => 0), pv_o 8 [.ref (n + 8), .int 0], pv_i 40 (fun _ => 0), pv_i 40 (fun _ => 0), pv_z 40 (fun _ => 0), pv_o 0 [.ref (n + 12), .ref (n + 14), .ref (n + 16), .ref (n + 17)], pv_o 8 [.ref (n + 13), .int 0], pv_i 40 (fun _ => 0), pv_o 8 [.ref (n + 15), .int 0], pv_i 40 (fun _ => 0), pv_i 40 (fun _ => 0), pv_z 40 (fun _ => 0), pv_o 0 [.ref (n + 19), .ref (n + 21), .ref (n + 23), .ref (n + 24)], pv_o 8 [.ref (n + 20), .int 0], pv_i 40 (fun _ => 0), pv_o 8 [.ref (n + 22), .int 0], pv_i 40 (fun _ => 0), pv_i 40 (fun _ => 0), pv_z 40 (fun _ => 0), pv_o 0 [.ref (n + 26), .ref (n + 28), .ref (n + 30), .ref (n + 31)], pv_o 8 [.ref (n + 27), .int 0], pv_i 40 (fun _ => 0), pv_o 8 [.ref (n + 29), .int 0], pv_i 40 (fun _ => 0), pv_i 40 (fun _ => 0), pv_z 40 (fun _ => 0), pv_o 0 [.ref (n + 33), .ref (n + 35), .ref (n + 37), .ref (n + 38)], pv_o 8 [.ref (n + 34), .int 0], pv_i 40 (fun _ => 0), pv_o 8 [.ref (n + 36), .int 0], pv_i 40 (fun _ => 0), pv_i 40 (fun _ => 0), pv_z 40 (fun _ => 0), pv_o 0 [.ref (n + 40), .ref (n + 42), .ref (n + 44), .ref (n + 45)], pv_o 8 [.ref (n + 41), .int 0], pv_i 40 (fun _ => 0), pv_o 8 [.ref (n + 43), .int 0], pv_i 40 (fun _ => 0), pv_i 40 (fun _ => 0), pv_z 40 (fun _ => 0), pv_o 0 [.ref (n + 47), .ref (n + 49), .ref (n + 51), .ref (n + 52)], pv_o 8 [.ref (n + 48), .int 0], pv_i 40 (fun _ => 0), pv_o 8 [.ref (n + 50), .int 0], pv_i 40 (fun _ => 0), pv_i 40 (fun _ => 0), pv_z 40 (fun _ => 0), pv_o 0 [.ref (n + 54), .ref (n + 56), .ref (n + 58), .ref (n + 59)], pv_o 8 [.ref (n + 55), .int 0], pv_i 40 (fun _ => 0), pv_o 8 [.ref (n + 57), .int 0], pv_i 40 (fun _ => 0), pv_i 40 (fun _ => 0), pv_z 40 (fun _ => 0), pv_q 5 8 (va_up (va_up (va_up (va_up (va_up (va_up (va_up (va_up (fun _ => none) 0 (some (n + 61))) 1 (some (n + 63))) 2 (some (n + 65))) 3 (some (n + 67))) 4 (some (n + 69))) 5 (some (n + 71))) 6 (some (n + 73))) 7 (some (n + 75))), pv_o 8 [.ref (n + 62), .int 0], pv_i 16 (fun _ => 0), pv_o 8 [.ref (n + 64), .int 0], pv_i 16 (fun _ => 0), pv_o 8 [.ref (n + 66), .int 0], pv_i 16 (fun _ => 0), pv_o 8 [.ref (n + 68), .int 0], pv_i 16 (fun _ => 0), pv_o 8 [.ref (n + 70), .int 0], pv_i 16 (fun _ => 0), pv_o 8 [.ref (n + 72), .int 0], pv_i 16 (fun _ => 0), pv_o 8 [.ref (n + 74), .int 0], pv_i 16 (fun _ => 0), pv_o 8 [.ref (n + 76), .int 0], pv_i 16 (fun _ => 0), pv_o 6 [.ref (n + 78), .ref (n + 79), .int 0, .ref (n + 80), .ref (n + 81), .ref (n + 82), .ref (n + 83), .int 0, .ref (n + 84), .ref (n + 85), .int 0, .int 0], pv_i 160 (fun _ => 0), pv_i 160 (fun _ => 0), pv_i 12 (fun _ => 0), pv_i 12 (fun _ => 0), pv_i 12 (fun _ => 0), pv_i 12 (fun _ => 0), pv_i 10 (fun _ => 0), pv_i 32 (fun _ => 0), pv_o 7 [.ref (n + 87), .ref (n + 88), .int 0, .int 0, .int 0], pv_i 160 (fun _ => 0), pv_o 6 [.ref (n + 89), .ref (n + 90), .int 0, .ref (n + 91), .ref (n + 92), .ref (n + 93), .ref (n + 94), .int 0, .ref (n + 95), .ref (n + 96), .int 0, .int 0], pv_i 160 (fun _ => 0), pv_i 160 (fun _ => 0), pv_i 12 (fun _ => 0), pv_i 12 (fun _ => 0), pv_i 12 (fun _ => 0), pv_i 12 (fun _ => 0), pv_i 10 (fun _ => 0), pv_i 32 (fun _ => 0), pv_o 1 [.ref (n + 98), .ref (n + 99), .ref (n + 100), .ref (n + 101), .ref (n + 102), .ref (n + 103), .int 0], pv_i 60 (fun _ => 0), pv_i 60 (fun _ => 0), pv_i 60 (fun _ => 0), pv_i 60 (fun _ => 0), pv_i 60 (fun _ => 0), pv_i 540 (fun _ => 0), pv_o 4 [.ref (n + 105), .ref (n + 106)], pv_i 41 (fun _ => 0), pv_l 41 (fun _ => 0), pv_o 2 [.ref (n + 108), .ref (n + 109), .ref (n + 110), .ref (n + 111)], pv_z 40 (fun _ => 0), pv_i 40 (fun _ => 0), pv_i 16 (fun _ => 0), pv_i 697 (fun _ => 0), pv_o 5 [.ref (n + 113), .int 0, .ref (n + 115)], pv_o 8 [.ref (n + 114), .int 0], pv_i 16 (fun _ => 0), pv_i 4913 (fun _ => 0), pv_o 9 [.ref (n + 117), .int 0, .int 0, .ref (n + 118), .ref (n + 119)], pv_i 8 (fun _ => 0), pv_i 64 (fun _ => 0), pv_i 2304 (fun _ => 0), pv_i 8 (fun _ => 0), pv_i 8 (fun _ => 0), pv_i 8 (fun _ => 0)]) (s2 := [pv_o 12 [.int 0, .int 0, .int 0, .int 0, .int 0, .null, .null, .null, .null, .null, .null, .int 0, .int 0, .int 0, .int 0, .int 0, .int 0, .int 0, .int 0, .int 0, .int 0, .null, .null, .null, .null, .null, .null, .null, .null, .null, .null, .null, .null, .null, .null, .null, .null, .null, .null, .null, .int 0, .int 0, .null, .null, .null, .null, .null, .null, .null, .null, .int 0, .null, .null, .null, .null, .null, .null, .null, .null, .null, .null, .int 0, .null, .null]]) (s3 := [pv_o 11 [.ref (n + 1), .ref (n + 3), .int 0, .ref (n + 60), .ref (n + 77), .ref (n + 86), .ref (n + 97), .int 0, .int 1, .ref (n + 104), .ref (n + 107), .ref (n + 112), .null, .ref (n + 116), .ref (n + 120), .ref (n + 121), .ref (n + 122)], pv_o 10 [.ref (n + 2), .int 0], pv_i 200 (fun _ => 0), pv_q 4 8 (va_up (va_up (va_up (va_up (va_up (va_up (va_up (va_up (fun _ => none) 0 (some (n + 4))) 1 (some (n + 11))) 2 (some (n + 18))) 3 (some (n + 25))) 4 (some (n + 32))) 5 (some (n + 39))) 6 (some (n + 46))) 7 (some (n + 53))), pv_o 0 [.ref (n + 5), .ref (n + 7), .ref (n + 9), .ref (n + 10)], pv_o 8 [.ref (n + 6), .int 0], pv_i 40 (fun _ => 0), pv_o 8 [.ref (n + 8), .int 0], pv_i 40 (fun _ => 0), pv_i 40 (fun _ => 0), pv_z 40 (fun _ => 0), pv_o 0 [.ref (n + 12), .ref (n + 14), .ref (n + 16), .ref (n + 17)], pv_o 8 [.ref (n + 13), .int 0], pv_i 40 (fun _ => 0), pv_o 8 [.ref (n + 15), .int 0], pv_i 40 (fun _ => 0), pv_i 40 (fun _ => 0), pv_z 40 (fun _ => 0), pv_o 0 [.ref (n + 19), .ref (n + 21), .ref (n + 23), .ref (n + 24)], pv_o 8 [.ref (n + 20), .int 0], pv_i 40 (fun _ => 0), pv_o 8 [.ref (n + 22), .int 0], pv_i 40 (fun _ => 0), pv_i 40 (fun _ => 0), pv_z 40 (fun _ => 0), pv_o 0 [.ref (n + 26), .ref (n + 28), .ref (n + 30), .ref (n + 31)], pv_o 8 [.ref (n + 27), .int 0], pv_i 40 (fun _ => 0), pv_o 8 [.ref (n + 29), .int 0], pv_i 40 (fun _ => 0), pv_i 40 (fun _ => 0), pv_z 40 (fun _ => 0), pv_o 0 [.ref (n + 33), .ref (n + 35), .ref (n + 37), .ref (n + 38)], pv_o 8 [.ref (n + 34), .int 0], pv_i 40 (fun _ => 0), pv_o 8 [.ref (n + 36), .int 0], pv_i 40 (fun _ => 0), pv_i 40 (fun _ => 0), pv_z 40 (fun _ => 0), pv_o 0 [.ref (n + 40), .ref (n + 42), .ref (n + 44), .ref (n + 45)], pv_o 8 [.ref (n + 41), .int 0], pv_i 40 (fun _ => 0), pv_o 8 [.ref (n + 43), .int 0], pv_i 40 (fun _ => 0), pv_i 40 (fun _ => 0), pv_z 40 (fun _ => 0), pv_o 0 [.ref (n + 47), .ref (n + 49), .ref (n + 51), .ref (n + 52)], pv_o 8 [.ref (n + 48), .int 0], pv_i 40 (fun _ => 0), pv_o 8 [.ref (n + 50), .int 0], pv_i 40 (fun _ => 0), pv_i 40 (fun _ => 0), pv_z 40 (fun _ => 0), pv_o 0 [.ref (n + 54), .ref (n + 56), .ref (n + 58), .ref (n + 59)], pv_o 8 [.ref (n + 55), .int 0], pv_i 40 (fun _ => 0), pv_o 8 [.ref (n + 57), .int 0], pv_i 40 (fun _ => 0), pv_i 40 (fun _ => 0), pv_z 40 (fun _ => 0), pv_q 5 8 (va_up (va_up (va_up (va_up (va_up (va_up (va_up (va_up (fun _ => none) 0 (some (n + 61))) 1 (some (n + 63))) 2 (some (n + 65))) 3 (some (n + 67))) 4 (some (n + 69))) 5 (some (n + 71))) 6 (some (n + 73))) 7 (some (n + 75))), pv_o 8 [.ref (n + 62), .int 0], pv_i 16 (fun _ => 0), pv_o 8 [.ref (n + 64), .int 0], pv_i 16 (fun _ => 0), pv_o 8 [.ref (n + 66), .int 0], pv_i 16 (fun _ => 0), pv_o 8 [.ref (n + 68), .int 0], pv_i 16 (fun _ => 0), pv_o 8 [.ref (n + 70), .int 0], pv_i 16 (fun _ => 0), pv_o 8 [.ref (n + 72), .int 0], pv_i 16 (fun _ => 0), pv_o 8 [.ref (n + 74), .int 0], pv_i 16 (fun _ => 0), pv_o 8 [.ref (n + 76), .int 0], pv_i 16 (fun _ => 0), pv_o 6 [.ref (n + 78), .ref (n + 79), .int 0, .ref (n + 80), .ref (n + 81), .ref (n + 82), .ref (n + 83), .int 0, .ref (n + 84), .ref (n + 85), .int 0, .int 0], pv_i 160 (fun _ => 0), pv_i 160 (fun _ => 0), pv_i 12 (fun _ => 0), pv_i 12 (fun _ => 0), pv_i 12 (fun _ => 0), pv_i 12 (fun _ => 0), pv_i 10 (fun _ => 0), pv_i 32 (fun _ => 0), pv_o 7 [.ref (n + 87), .ref (n + 88), .int 0, .int 0, .int 0], pv_i 160 (fun _ => 0), pv_o 6 [.ref (n + 89), .ref (n + 90), .int 0, .ref (n + 91), .ref (n + 92), .ref (n + 93), .ref (n + 94), .int 0, .ref (n + 95), .ref (n + 96), .int 0, .int 0], pv_i 160 (fun _ => 0), pv_i 160 (fun _ => 0), pv_i 12 (fun _ => 0), pv_i 12 (fun _ => 0), pv_i 12 (fun _ => 0), pv_i 12 (fun _ => 0), pv_i 10 (fun _ => 0), pv_i 32 (fun _ => 0), pv_o 1 [.ref (n + 98), .ref (n + 99), .ref (n + 100), .ref (n + 101), .ref (n + 102), .ref (n + 103), .int 0], pv_i 60 (fun _ => 0), pv_i 60 (fun _ => 0), pv_i 60 (fun _ => 0), pv_i 60 (fun _ => 0), pv_i 60 (fun _ => 0), pv_i 540 (fun _ => 0), pv_o 4 [.ref (n + 105), .ref (n + 106)], pv_i 41 (fun _ => 0), pv_l 41 (fun _ => 0), pv_o 2 [.ref (n + 108), .ref (n + 109), .ref (n + 110), .ref (n + 111)], pv_z 40 (fun _ => 0), pv_i 40 (fun _ => 0), pv_i 16 (fun _ => 0), pv_i 697 (fun _ => 0), pv_o 5 [.ref (n + 113), .int 0, .ref (n + 115)], pv_o 8 [.ref (n + 114), .int 0], pv_i 16 (fun _ => 0), pv_i 4913 (fun _ => 0), pv_o 9 [.ref (n + 117), .int 0, .int 0, .ref (n + 118), .ref (n + 119)], pv_i 8 (fun _ => 0), pv_i 64 (fun _ => 0), pv_i 2304 (fun _ => 0), pv_i 8 (fun _ => 0), pv_i 8 (fun _ => 0), pv_i 8 (fun _ => 0), pv_o 12 [.int 0, .int 0, .int 0, .int 0, .int 0, .null, .null, .null, .null, .null, .null, .int 0, .int 0, .int 0, .int 0, .int 0, .int 0, .int 0, .int 0, .int 0, .int 0, .null, .null, .null, .null, .null, .null, .null, .null, .null, .null, .null, .null, .null, .null, .null, .null, .null, .null, .null, .int 0, .int 0, .null, .null, .null, .null, .null, .null, .null, .null, .int 0, .null, .null, .null, .null, .null, .null, .null, .null, .null, .null, .int 0, .null, .null]]) rfl (k_X12_init g (h0 := h0 ++ [pv_o 11 [.ref (n + 1), .ref (n + 3), .int 0, .ref (n + 60), .ref (n + 77), .ref (n + 86), .ref (n + 97), .int 0, .int 1, .ref (n + 104), .ref (n + 107), .ref (n + 112), .null, .ref (n + 116), .ref (n + 120), .ref (n + 121), .ref (n + 122)], pv_o 10 [.ref (n + 2), .int 0], pv_i 200 (fun _ => 0), pv_q 4 8 (va_up (va_up (va_up (va_up (va_up (va_up (va_up (va_up (fun _ => none) 0 (some (n + 4))) 1 (some (n + 11))) 2 (some (n + 18))) 3 (some (n + 25))) 4 (some (n + 32))) 5 (some (n + 39))) 6 (some (n + 46))) 7 (some (n + 53))), pv_o 0 [.ref (n + 5), .ref (n + 7), .ref (n + 9), .ref (n + 10)], pv_o 8 [.ref (n + 6), .int 0], pv_i 40 (fun _ => 0), pv_o 8 [.ref (n + 8), .int 0], pv_i 40 (fun _ => 0), pv_i 40 (fun _ => 0), pv_z 40 (fun _ => 0), pv_o 0 [.ref (n + 12), .ref (n + 14), .ref (n + 16), .ref (n + 17)], pv_o 8 [.ref (n + 13), .int 0], pv_i 40 (fun _ => 0), pv_o 8 [.ref (n + 15), .int 0], pv_i 40 (fun _ => 0), pv_i 40 (fun _ => 0), pv_z 40 (fun _ => 0), pv_o 0 [.ref (n + 19), .ref (n + 21), .ref (n + 23), .ref (n + 24)], pv_o 8 [.ref (n + 20), .int 0], pv_i 40 (fun _ => 0), pv_o 8 [.ref (n + 22), .int 0], pv_i 40 (fun _ => 0), pv_i 40 (fun _ => 0), pv_z 40 (fun _ => 0), pv_o 0 [.ref (n + 26), .ref (n + 28), .ref (n + 30), .ref (n + 31)], pv_o 8 [.ref (n + 27), .int 0], pv_i 40 (fun _ => 0), pv_o 8 [.ref (n + 29), .int 0], pv_i 40 (fun _ => 0), pv_i 40 (fun _ => 0), pv_z 40 (fun _ => 0), pv_o 0 [.ref (n + 33), .ref (n + 35), .ref (n + 37), .ref (n + 38)], pv_o 8 [.ref (n + 34), .int 0], pv_i 40 (fun _ => 0), pv_o 8 [.ref (n + 36), .int 0], pv_i 40 (fun _ => 0), pv_i 40 (fun _ => 0), pv_z 40 (fun _ => 0), pv_o 0 [.ref (n + 40), .ref (n + 42), .ref (n + 44), .ref (n + 45)], pv_o 8 [.ref (n + 41), .int 0], pv_i 40 (fun _ => 0), pv_o 8 [.ref (n + 43), .int 0], pv_i 40 (fun _ => 0), pv_i 40 (fun _ => 0), pv_z 40 (fun _ => 0), pv_o 0 [.ref (n + 47), .ref (n + 49), .ref (n + 51), .ref (n + 52)], pv_o 8 [.ref (n + 48), .int 0], pv_i 40 (fun _ => 0), pv_o 8 [.ref (n + 50), .int 0], pv_i 40 (fun _ => 0), pv_i 40 (fun _ => 0), pv_z 40 (fun _ => 0), pv_o 0 [.ref (n + 54), .ref (n + 56), .ref (n + 58), .ref (n + 59)], pv_o 8 [.ref (n + 55), .int 0], pv_i 40 (fun _ => 0), pv_o 8 [.ref (n + 57), .int 0], pv_i 40 (fun _ => 0), pv_i 40 (fun _ => 0), pv_z 40 (fun _ => 0), pv_q 5 8 (va_up (va_up (va_up (va_up (va_up (va_up (va_up (va_up (fun _ => none) 0 (some (n + 61))) 1 (some (n + 63))) 2 (some (n + 65))) 3 (some (n + 67))) 4 (some (n + 69))) 5 (some (n + 71))) 6 (some (n + 73))) 7 (some (n + 75))), pv_o 8 [.ref (n + 62), .int 0], pv_i 16 (fun _ => 0), pv_o 8 [.ref (n + 64), .int 0], pv_i 16 (fun _ => 0), pv_o 8 [.ref (n + 66), .int 0], pv_i 16 (fun _ => 0), pv_o 8 [.ref (n + 68), .int 0], pv_i 16 (fun _ => 0), pv_o 8 [.ref (n + 70), .int 0], pv_i 16 (fun _ => 0), pv_o 8 [.ref (n + 72), .int 0], pv_i 16 (fun _ => 0), pv_o 8 [.ref (n + 74), .int 0], pv_i 16 (fun _ => 0), pv_o 8 [.ref (n + 76), .int 0], pv_i 16 (fun _ => 0), pv_o 6 [.ref (n + 78), .ref (n + 79), .int 0, .ref (n + 80), .ref (n + 81), .ref (n + 82), .ref (n + 83), .int 0, .ref (n + 84), .ref (n + 85), .int 0, .int 0], pv_i 160 (fun _ => 0), pv_i 160 (fun _ => 0), pv_i 12 (fun _ => 0), pv_i 12 (fun _ => 0), pv_i 12 (fun _ => 0), pv_i 12 (fun _ => 0), pv_i 10 (fun _ => 0), pv_i 32 (fun _ => 0), pv_o 7 [.ref (n + 87), .ref (n + 88), .int 0, .int 0, .int 0], pv_i 160 (fun _ => 0), pv_o 6 [.ref (n + 89), .ref (n + 90), .int 0, .ref (n + 91), .ref (n + 92), .ref (n + 93), .ref (n + 94), .int 0, .ref (n + 95), .ref (n + 96), .int 0, .int 0], pv_i 160 (fun _ => 0), pv_i 160 (fun _ => 0), pv_i 12 (fun _ => 0), pv_i 12 (fun _ => 0), pv_i 12 (fun _ => 0), pv_i 12 (fun _ => 0), pv_i 10 (fun _ => 0), pv_i 32 (fun _ => 0), pv_o 1 [.ref (n + 98), .ref (n + 99), .ref (n + 100), .ref (n + 101), .ref (n + 102), .ref (n + 103), .int 0], pv_i 60 (fun _ => 0), pv_i 60 (fun _ => 0), pv_i 60 (fun _ => 0), pv_i 60 (fun _ => 0), pv_i 60 (fun _ => 0), pv_i 540 (fun _ => 0), pv_o 4 [.ref (n + 105), .ref (n + 106)], pv_i 41 (fun _ => 0), pv_l 41 (fun _ => 0), pv_o 2 [.ref (n + 108), .ref (n + 109), .ref (n + 110), .ref (n + 111)], pv_z 40 (fun _ => 0), pv_i 40 (fun _ => 0), pv_i 16 (fun _ => 0), pv_i 697 (fun _ => 0), pv_o 5 [.ref (n + 113), .int 0, .ref (n + 115)], pv_o 8 [.ref (n + 114), .int 0], pv_i 16 (fun _ => 0), pv_i 4913 (fun _ => 0), pv_o 9 [.ref (n + 117), .int 0, .int 0, .ref (n + 118), .ref (n + 119)], pv_i 8 (fun _ => 0), pv_i 64 (fun _ => 0), pv_i 2304 (fun _ => 0), pv_i 8 (fun _ => 0), pv_i 8 (fun _ => 0), pv_i 8 (fun _ => 0)]) (n := n + 123) (pv_f3 hn rfl))) rfl rfl (Nat.le_of_ble_eq_true rfl) (by decide) rfl rfl 15 rfl (pv_k0 ?_)
  refine pv_f4 (s3 := [pv_o 11 [.ref (n + 1), .ref (n + 3), .int 0, .ref (n + 60), .ref (n + 77), .ref (n + 86), .ref (n + 97), .int 0, .int 1, .ref (n + 104), .ref (n + 107), .ref (n + 112), .null, .ref (n + 116), .ref (n + 120), .ref (n + 121), .ref (n + 122)], pv_o 10 [.ref (n + 2), .int 0], pv_i 200 (fun _ => 0), pv_q 4 8 (va_up (va_up (va_up (va_up (va_up (va_up (va_up (va_up (fun _ => none) 0 (some (n + 4))) 1 (some (n + 11))) 2 (some (n + 18))) 3 (some (n + 25))) 4 (some (n + 32))) 5 (some (n + 39))) 6 (some (n + 46))) 7 (some (n + 53))), pv_o 0 [.ref (n + 5), .ref (n + 7), .ref (n + 9), .ref (n + 10)], pv_o 8 [.ref (n + 6), .int 0], pv_i 40 (fun _ => 0), pv_o 8 [.ref (n + 8), .int 0], pv_i 40 (fun _ => 0), pv_i 40 (fun _ => 0), pv_z 40 (fun _ => 0), pv_o 0 [.ref (n + 12), .ref (n + 14), .ref (n + 16), .ref (n + 17)], pv_o 8 [.ref (n + 13), .int 0], pv_i 40 (fun _ => 0), pv_o 8 [.ref (n + 15), .int 0], pv_i 40 (fun _ => 0), pv_i 40 (fun _ => 0), pv_z 40 (fun _ => 0), pv_o 0 [.ref (n + 19), .ref (n + 21), .ref (n + 23), .ref (n + 24)], pv_o 8 [.ref (n + 20), .int 0], pv_i 40 (fun _ => 0), pv_o 8 [.ref (n + 22), .int 0], pv_i 40 (fun _ => 0), pv_i 40 (fun _ => 0), pv_z 40 (fun _ => 0), pv_o 0 [.ref (n + 26), .ref (n + 28), .ref (n + 30), .ref (n + 31)], pv_o 8 [.ref (n + 27), .int 0], pv_i 40 (fun _ => 0), pv_o 8 [.ref (n + 29), .int 0], pv_i 40 (fun _ => 0), pv_i 40 (fun _ => 0), pv_z 40 (fun _ => 0), pv_o 0 [.ref (n + 33), .ref (n + 35), .ref (n + 37), .ref (n + 38)], pv_o 8 [.ref (n + 34), .int 0], pv_i 40 (fun _ => 0), pv_o 8 [.ref (n + 36), .int 0], pv_i 40 (fun _ => 0), pv_i 40 (fun _ => 0), pv_z 40 (fun _ => 0), pv_o 0 [.ref (n + 40), .ref (n + 42), .ref (n + 44), .ref (n + 45)], pv_o 8 [.ref (n + 41), .int 0], pv_i 40 (fun _ => 0), pv_o 8 [.ref (n + 43), .int 0], pv_i 40 (fun _ => 0), pv_i 40 (fun _ => 0), pv_z 40 (fun _ => 0), pv_o 0 [.ref (n + 47), .ref (n + 49), .ref (n + 51), .ref (n + 52)], pv_o 8 [.ref (n + 48), .int 0], pv_i 40 (fun _ => 0), pv_o 8 [.ref (n + 50), .int 0], pv_i 40 (fun _ => 0), pv_i 40 (fun _ => 0), pv_z 40 (fun _ => 0), pv_o 0 [.ref (n + 54), .ref (n + 56), .ref (n + 58), .ref (n + 59)], pv_o 8 [.ref (n + 55), .int 0], pv_i 40 (fun _ => 0), pv_o 8 [.ref (n + 57), .int 0], pv_i 40 (fun _ => 0), pv_i 40 (fun _ => 0), pv_z 40 (fun _ => 0), pv_q 5 8 (va_up (va_up (va_up (va_up (va_up (va_up (va_up (va_up (fun _ => none) 0 (some (n + 61))) 1 (some (n + 63))) 2 (some (n + 65))) 3 (some (n + 67))) 4 (some (n + 69))) 5 (some (n + 71))) 6 (some (n + 73))) 7 (some (n + 75))), pv_o 8 [.ref (n + 62), .int 0], pv_i 16 (fun _ => 0), pv_o 8 [.ref (n + 64), .int 0], pv_i 16 (fun _ => 0), pv_o 8 [.ref (n + 66), .int 0], pv_i 16 (fun _ => 0), pv_o 8 [.ref (n + 68), .int 0], pv_i 16 (fun _ => 0), pv_o 8 [.ref (n + 70), .int 0], pv_i 16 (fun _ => 0), pv_o 8 [.ref (n + 72), .int 0], pv_i 16 (fun _ => 0), pv_o 8 [.ref (n + 74), .int 0], pv_i 16 (fun _ => 0), pv_o 8 [.ref (n + 76), .int 0], pv_i 16 (fun _ => 0), pv_o 6 [.ref (n + 78), .ref (n + 79), .int 0, .ref (n + 80), .ref (n + 81), .ref (n + 82), .ref (n + 83), .int 0, .ref (n + 84), .ref (n + 85), .int 0, .int 0], pv_i 160 (fun _ => 0), pv_i 160 (fun _ => 0), pv_i 12 (fun _ => 0), pv_i 12 (fun _ => 0), pv_i 12 (fun _ => 0), pv_i 12 (fun _ => 0), pv_i 10 (fun _ => 0), pv_i 32 (fun _ => 0), pv_o 7 [.ref (n + 87), .ref (n + 88), .int 0, .int 0, .int 0], pv_i 160 (fun _ => 0), pv_o 6 [.ref (n + 89), .ref (n + 90), .int 0, .ref (n + 91), .ref (n + 92), .ref (n + 93), .ref (n + 94), .int 0, .ref (n + 95), .ref (n + 96), .int 0, .int 0], pv_i 160 (fun _ => 0), pv_i 160 (fun _ => 0), pv_i 12 (fun _ => 0), pv_i 12 (fun _ => 0), pv_i 12 (fun _ => 0), pv_i 12 (fun _ => 0), pv_i 10 (fun _ => 0), pv_i 32 (fun _ => 0), pv_o 1 [.ref (n + 98), .ref (n + 99), .ref (n + 100), .ref (n + 101), .ref (n + 102), .ref (n + 103), .int 0], pv_i 60 (fun _ => 0), pv_i 60 (fun _ => 0), pv_i 60 (fun _ => 0), pv_i 60 (fun _ => 0), pv_i 60 (fun _ => 0), pv_i 540 (fun _ => 0), pv_o 4 [.ref (n + 105), .ref (n + 106)], pv_i 41 (fun _ => 0), pv_l 41 (fun _ => 0), pv_o 2 [.ref (n + 108), .ref (n + 109), .ref (n + 110), .ref (n + 111)], pv_z 40 (fun _ => 0), pv_i 40 (fun _ => 0), pv_i 16 (fun _ => 0), pv_i 697 (fun _ => 0), pv_o 5 [.ref (n + 113), .int 0, .ref (n + 115)], pv_o 8 [.ref (n + 114), .int 0], pv_i 16 (fun _ => 0), pv_i 4913 (fun _ => 0), pv_o 9 [.ref (n + 117), .int 0, .int 0, .ref (n + 118), .ref (n + 119)], pv_i 8 (fun _ => 0), pv_i 64 (fun _ => 0), pv_i 2304 (fun _ => 0), pv_i 8 (fun _ => 0), pv_i 8 (fun _ => 0), pv_i 8 (fun _ => 0), pv_o 12 [.int 0, .int 0, .int 1, .int 0, .int 0, .ref (n + 124), .ref (n + 125), .ref (n + 126), .ref (n + 127), .ref (n + 128), .ref (n + 129), .int 0, .int 0, .int 0, .int 0, .int 0, .int 0, .int 0, .int 0, .int 0, .int 0, .ref (n + 130), .ref (n + 131), .ref (n + 132), .ref (n + 133), .ref (n + 134), .ref (n + 135), .ref (n + 136), .ref (n + 137), .ref (n + 138), .ref (n + 139), .ref (n + 140), .ref (n + 141), .ref (n + 142), .ref (n + 143), .ref (n + 144), .ref (n + 145), .ref (n + 146), .ref (n + 147), .ref (n + 148), .int 0, .int 0, .ref (n + 149), .ref (n + 150), .ref (n + 151), .ref (n + 152), .ref (n + 153), .ref (n + 154), .ref (n + 155), .ref (n + 156), .int 0, .ref (n + 157), .ref (n + 158), .ref (n + 159), .ref (n + 160), .ref (n + 161), .ref (n + 162), .ref (n + 163), .ref (n + 164), .ref (n + 165), .ref (n + 166), .int 0, .ref (n + 167), .ref (n + 168)], pv_i 8 (fun _ => 0), pv_i 320 (fun _ => 0), pv_i 8 (fun _ => 0), pv_i 128 (fun _ => 0), pv_z 320 (fun _ => 0), pv_b 200 (fun _ => 0), pv_i 180 (fun _ => 0), pv_i 180 (fun _ => 0), pv_i 12 (fun _ => 0), pv_i 12 (fun _ => 0), pv_i 12 (fun _ => 0), pv_i 12 (fun _ => 0), pv_i 180 (fun _ => 0), pv_i 12 (fun _ => 0), pv_i 12 (fun _ => 0), pv_i 12 (fun _ => 0), pv_i 12 (fun _ => 0), pv_i 180 (fun _ => 0), pv_i 10 (fun _ => 0), pv_i 60 (fun _ => 0), pv_i 60 (fun _ => 0), pv_i 60 (fun _ => 0), pv_i 60 (fun _ => 0), pv_i 60 (fun _ => 0), pv_i 540 (fun _ => 0), pv_i 40 (fun _ => 0), pv_i 16 (fun _ => 0), pv_l 17 (fun _ => 0), pv_i 40 (fun _ => 0), pv_i 697 (fun _ => 0), pv_i 16 (fun _ => 0), pv_i 697 (fun _ => 0), pv_l 697 (fun _ => 0), pv_i 4 (fun _ => 0), pv_i 4 (fun _ => 0), pv_i 4 (fun _ => 0), pv_i 4 (fun _ => 0), pv_i 4913 (fun _ => 0), pv_i 16 (fun _ => 0), pv_i 28561 (fun _ => 0), pv_l 28561 (fun _ => 0), pv_z 64 (fun _ => 0), pv_i 2304 (fun _ => 0), pv_z 72 (fun _ => 0), pv_i 2304 (fun _ => 0)]) rfl ?_
  refine pv_astore_n (M := mL_law) 2 (lo2 := [.retAddr (b + 1), .ref (n + 0), .ref (n + 123), pv_U]) dL_law_15 16 rfl rfl (by decide) rfl rfl ?_
  refine pv_iconst (M := mL_law) (v := 0) dL_law_16 17 rfl (by decide) ?_
  refine pv_istore_n (M := mL_law) 3 (lo2 := [.retAddr (b + 1), .ref (n + 0), .ref (n + 123), .int 0]) dL_law_17 18 rfl rfl (by decide) rfl rfl ?_
  exact k
/-! the first state -/
def m0s : Nat → Nat → Int32 := fun a i => if (a = 0 ∧ i = 8) ∨ (a = 123 ∧ i = 2) then 1 else 0
def n0s : Nat → Nat → Int64 := fun _ _ => 0
def r0s : Nat → Value := fun j => if 3000 ≤ j ∧ j < 3008 then .ref (4 + 7 * (j - 3000)) else if 60000 ≤ j ∧ j < 60008 then .ref (61 + 2 * (j - 60000)) else if j = 1 then .ref 77 else if j = 3 then .ref 88 else .null
theorem q_3 : mv_q r0s 3 = (va_up (va_up (va_up (va_up (va_up (va_up (va_up (va_up (fun _ => none) 0 (some (0 + 4))) 1 (some (0 + 11))) 2 (some (0 + 18))) 3 (some (0 + 25))) 4 (some (0 + 32))) 5 (some (0 + 39))) 6 (some (0 + 46))) 7 (some (0 + 53))) := by
  funext i
  by_cases h : i < 8
  · have : i = 0 ∨ i = 1 ∨ i = 2 ∨ i = 3 ∨ i = 4 ∨ i = 5 ∨ i = 6 ∨ i = 7 := by omega
    rcases this with rfl | rfl | rfl | rfl | rfl | rfl | rfl | rfl <;> rfl
  · have e : r0s (1000 * 3 + i) = .null ∨ ¬ i < 1000 := by
      by_cases h2 : i < 1000
      · left; unfold r0s; rw [if_neg (by omega), if_neg (by omega), if_neg (by omega), if_neg (by omega)]
      · exact Or.inr h2
    have e2 : mv_q r0s 3 i = none := by
      unfold mv_q
      rcases e with e | e
      · split
        · rw [e]
        · rfl
      · rw [if_neg e]
    rw [e2]
    simp only [va_up]
    repeat rw [if_neg (by omega)]
theorem q_60 : mv_q r0s 60 = (va_up (va_up (va_up (va_up (va_up (va_up (va_up (va_up (fun _ => none) 0 (some (0 + 61))) 1 (some (0 + 63))) 2 (some (0 + 65))) 3 (some (0 + 67))) 4 (some (0 + 69))) 5 (some (0 + 71))) 6 (some (0 + 73))) 7 (some (0 + 75))) := by
  funext i
  by_cases h : i < 8
  · have : i = 0 ∨ i = 1 ∨ i = 2 ∨ i = 3 ∨ i = 4 ∨ i = 5 ∨ i = 6 ∨ i = 7 := by omega
    rcases this with rfl | rfl | rfl | rfl | rfl | rfl | rfl | rfl <;> rfl
  · have e : r0s (1000 * 60 + i) = .null ∨ ¬ i < 1000 := by
      by_cases h2 : i < 1000
      · left; unfold r0s; rw [if_neg (by omega), if_neg (by omega), if_neg (by omega), if_neg (by omega)]
      · exact Or.inr h2
    have e2 : mv_q r0s 60 i = none := by
      unfold mv_q
      rcases e with e | e
      · split
        · rw [e]
        · rfl
      · rw [if_neg e]
    rw [e2]
    simp only [va_up]
    repeat rw [if_neg (by omega)]
theorem hTL0 : TX TL := fun _ _ q => q
set_option maxRecDepth 20000 in
theorem st_0 : ((pv_o 11 [.ref (0 + 1), .ref (0 + 3), .int 0, .ref (0 + 60), .ref (0 + 77), .ref (0 + 86), .ref (0 + 97), .int 0, .int 1, .ref (0 + 104), .ref (0 + 107), .ref (0 + 112), .null, .ref (0 + 116), .ref (0 + 120), .ref (0 + 121), .ref (0 + 122)]) : pv_C) = mv_c m0s n0s r0s 0 (.inr (11, ds0)) := rfl
set_option maxRecDepth 20000 in
theorem st_1 : ((pv_o 10 [.ref (0 + 2), .int 0]) : pv_C) = mv_c m0s n0s r0s 1 (.inr (10, ds1)) := rfl
set_option maxRecDepth 20000 in
theorem st_2 : ((pv_i 200 (fun _ => 0)) : pv_C) = mv_c m0s n0s r0s 2 (.inl (0, 200)) := rfl
set_option maxRecDepth 20000 in
theorem st_3 : ((pv_q 4 8 (va_up (va_up (va_up (va_up (va_up (va_up (va_up (va_up (fun _ => none) 0 (some (0 + 4))) 1 (some (0 + 11))) 2 (some (0 + 18))) 3 (some (0 + 25))) 4 (some (0 + 32))) 5 (some (0 + 39))) 6 (some (0 + 46))) 7 (some (0 + 53)))) : pv_C) = mv_c m0s n0s r0s 3 (.inl (4, 8)) := by show pv_q _ _ _ = pv_q _ _ _; rw [q_3]
set_option maxRecDepth 20000 in
theorem st_4 : ((pv_o 0 [.ref (0 + 5), .ref (0 + 7), .ref (0 + 9), .ref (0 + 10)]) : pv_C) = mv_c m0s n0s r0s 4 (.inr (0, ds4)) := rfl
set_option maxRecDepth 20000 in
theorem st_5 : ((pv_o 8 [.ref (0 + 6), .int 0]) : pv_C) = mv_c m0s n0s r0s 5 (.inr (8, ds5)) := rfl
set_option maxRecDepth 20000 in
theorem st_6 : ((pv_i 40 (fun _ => 0)) : pv_C) = mv_c m0s n0s r0s 6 (.inl (0, 40)) := rfl
set_option maxRecDepth 20000 in
theorem st_7 : ((pv_o 8 [.ref (0 + 8), .int 0]) : pv_C) = mv_c m0s n0s r0s 7 (.inr (8, ds7)) := rfl
set_option maxRecDepth 20000 in
theorem st_8 : ((pv_i 40 (fun _ => 0)) : pv_C) = mv_c m0s n0s r0s 8 (.inl (0, 40)) := rfl
set_option maxRecDepth 20000 in
theorem st_9 : ((pv_i 40 (fun _ => 0)) : pv_C) = mv_c m0s n0s r0s 9 (.inl (0, 40)) := rfl
set_option maxRecDepth 20000 in
theorem st_10 : ((pv_z 40 (fun _ => 0)) : pv_C) = mv_c m0s n0s r0s 10 (.inl (1, 40)) := rfl
set_option maxRecDepth 20000 in
theorem st_11 : ((pv_o 0 [.ref (0 + 12), .ref (0 + 14), .ref (0 + 16), .ref (0 + 17)]) : pv_C) = mv_c m0s n0s r0s 11 (.inr (0, ds11)) := rfl
set_option maxRecDepth 20000 in
theorem st_12 : ((pv_o 8 [.ref (0 + 13), .int 0]) : pv_C) = mv_c m0s n0s r0s 12 (.inr (8, ds12)) := rfl
set_option maxRecDepth 20000 in
theorem st_13 : ((pv_i 40 (fun _ => 0)) : pv_C) = mv_c m0s n0s r0s 13 (.inl (0, 40)) := rfl
set_option maxRecDepth 20000 in
theorem st_14 : ((pv_o 8 [.ref (0 + 15), .int 0]) : pv_C) = mv_c m0s n0s r0s 14 (.inr (8, ds14)) := rfl
set_option maxRecDepth 20000 in
theorem st_15 : ((pv_i 40 (fun _ => 0)) : pv_C) = mv_c m0s n0s r0s 15 (.inl (0, 40)) := rfl
set_option maxRecDepth 20000 in
theorem st_16 : ((pv_i 40 (fun _ => 0)) : pv_C) = mv_c m0s n0s r0s 16 (.inl (0, 40)) := rfl
set_option maxRecDepth 20000 in
theorem st_17 : ((pv_z 40 (fun _ => 0)) : pv_C) = mv_c m0s n0s r0s 17 (.inl (1, 40)) := rfl
set_option maxRecDepth 20000 in
theorem st_18 : ((pv_o 0 [.ref (0 + 19), .ref (0 + 21), .ref (0 + 23), .ref (0 + 24)]) : pv_C) = mv_c m0s n0s r0s 18 (.inr (0, ds18)) := rfl
set_option maxRecDepth 20000 in
theorem st_19 : ((pv_o 8 [.ref (0 + 20), .int 0]) : pv_C) = mv_c m0s n0s r0s 19 (.inr (8, ds19)) := rfl
set_option maxRecDepth 20000 in
theorem st_20 : ((pv_i 40 (fun _ => 0)) : pv_C) = mv_c m0s n0s r0s 20 (.inl (0, 40)) := rfl
set_option maxRecDepth 20000 in
theorem st_21 : ((pv_o 8 [.ref (0 + 22), .int 0]) : pv_C) = mv_c m0s n0s r0s 21 (.inr (8, ds21)) := rfl
set_option maxRecDepth 20000 in
theorem st_22 : ((pv_i 40 (fun _ => 0)) : pv_C) = mv_c m0s n0s r0s 22 (.inl (0, 40)) := rfl
set_option maxRecDepth 20000 in
theorem st_23 : ((pv_i 40 (fun _ => 0)) : pv_C) = mv_c m0s n0s r0s 23 (.inl (0, 40)) := rfl
set_option maxRecDepth 20000 in
theorem st_24 : ((pv_z 40 (fun _ => 0)) : pv_C) = mv_c m0s n0s r0s 24 (.inl (1, 40)) := rfl
set_option maxRecDepth 20000 in
theorem st_25 : ((pv_o 0 [.ref (0 + 26), .ref (0 + 28), .ref (0 + 30), .ref (0 + 31)]) : pv_C) = mv_c m0s n0s r0s 25 (.inr (0, ds25)) := rfl
set_option maxRecDepth 20000 in
theorem st_26 : ((pv_o 8 [.ref (0 + 27), .int 0]) : pv_C) = mv_c m0s n0s r0s 26 (.inr (8, ds26)) := rfl
set_option maxRecDepth 20000 in
theorem st_27 : ((pv_i 40 (fun _ => 0)) : pv_C) = mv_c m0s n0s r0s 27 (.inl (0, 40)) := rfl
set_option maxRecDepth 20000 in
theorem st_28 : ((pv_o 8 [.ref (0 + 29), .int 0]) : pv_C) = mv_c m0s n0s r0s 28 (.inr (8, ds28)) := rfl
set_option maxRecDepth 20000 in
theorem st_29 : ((pv_i 40 (fun _ => 0)) : pv_C) = mv_c m0s n0s r0s 29 (.inl (0, 40)) := rfl
set_option maxRecDepth 20000 in
theorem st_30 : ((pv_i 40 (fun _ => 0)) : pv_C) = mv_c m0s n0s r0s 30 (.inl (0, 40)) := rfl
set_option maxRecDepth 20000 in
theorem st_31 : ((pv_z 40 (fun _ => 0)) : pv_C) = mv_c m0s n0s r0s 31 (.inl (1, 40)) := rfl
set_option maxRecDepth 20000 in
theorem st_32 : ((pv_o 0 [.ref (0 + 33), .ref (0 + 35), .ref (0 + 37), .ref (0 + 38)]) : pv_C) = mv_c m0s n0s r0s 32 (.inr (0, ds32)) := rfl
set_option maxRecDepth 20000 in
theorem st_33 : ((pv_o 8 [.ref (0 + 34), .int 0]) : pv_C) = mv_c m0s n0s r0s 33 (.inr (8, ds33)) := rfl
set_option maxRecDepth 20000 in
theorem st_34 : ((pv_i 40 (fun _ => 0)) : pv_C) = mv_c m0s n0s r0s 34 (.inl (0, 40)) := rfl
set_option maxRecDepth 20000 in
theorem st_35 : ((pv_o 8 [.ref (0 + 36), .int 0]) : pv_C) = mv_c m0s n0s r0s 35 (.inr (8, ds35)) := rfl
set_option maxRecDepth 20000 in
theorem st_36 : ((pv_i 40 (fun _ => 0)) : pv_C) = mv_c m0s n0s r0s 36 (.inl (0, 40)) := rfl
set_option maxRecDepth 20000 in
theorem st_37 : ((pv_i 40 (fun _ => 0)) : pv_C) = mv_c m0s n0s r0s 37 (.inl (0, 40)) := rfl
set_option maxRecDepth 20000 in
theorem st_38 : ((pv_z 40 (fun _ => 0)) : pv_C) = mv_c m0s n0s r0s 38 (.inl (1, 40)) := rfl
set_option maxRecDepth 20000 in
theorem st_39 : ((pv_o 0 [.ref (0 + 40), .ref (0 + 42), .ref (0 + 44), .ref (0 + 45)]) : pv_C) = mv_c m0s n0s r0s 39 (.inr (0, ds39)) := rfl
set_option maxRecDepth 20000 in
theorem st_40 : ((pv_o 8 [.ref (0 + 41), .int 0]) : pv_C) = mv_c m0s n0s r0s 40 (.inr (8, ds40)) := rfl
set_option maxRecDepth 20000 in
theorem st_41 : ((pv_i 40 (fun _ => 0)) : pv_C) = mv_c m0s n0s r0s 41 (.inl (0, 40)) := rfl
set_option maxRecDepth 20000 in
theorem st_42 : ((pv_o 8 [.ref (0 + 43), .int 0]) : pv_C) = mv_c m0s n0s r0s 42 (.inr (8, ds42)) := rfl
set_option maxRecDepth 20000 in
theorem st_43 : ((pv_i 40 (fun _ => 0)) : pv_C) = mv_c m0s n0s r0s 43 (.inl (0, 40)) := rfl
set_option maxRecDepth 20000 in
theorem st_44 : ((pv_i 40 (fun _ => 0)) : pv_C) = mv_c m0s n0s r0s 44 (.inl (0, 40)) := rfl
set_option maxRecDepth 20000 in
theorem st_45 : ((pv_z 40 (fun _ => 0)) : pv_C) = mv_c m0s n0s r0s 45 (.inl (1, 40)) := rfl
set_option maxRecDepth 20000 in
theorem st_46 : ((pv_o 0 [.ref (0 + 47), .ref (0 + 49), .ref (0 + 51), .ref (0 + 52)]) : pv_C) = mv_c m0s n0s r0s 46 (.inr (0, ds46)) := rfl
set_option maxRecDepth 20000 in
theorem st_47 : ((pv_o 8 [.ref (0 + 48), .int 0]) : pv_C) = mv_c m0s n0s r0s 47 (.inr (8, ds47)) := rfl
set_option maxRecDepth 20000 in
theorem st_48 : ((pv_i 40 (fun _ => 0)) : pv_C) = mv_c m0s n0s r0s 48 (.inl (0, 40)) := rfl
set_option maxRecDepth 20000 in
theorem st_49 : ((pv_o 8 [.ref (0 + 50), .int 0]) : pv_C) = mv_c m0s n0s r0s 49 (.inr (8, ds49)) := rfl
set_option maxRecDepth 20000 in
theorem st_50 : ((pv_i 40 (fun _ => 0)) : pv_C) = mv_c m0s n0s r0s 50 (.inl (0, 40)) := rfl
set_option maxRecDepth 20000 in
theorem st_51 : ((pv_i 40 (fun _ => 0)) : pv_C) = mv_c m0s n0s r0s 51 (.inl (0, 40)) := rfl
set_option maxRecDepth 20000 in
theorem st_52 : ((pv_z 40 (fun _ => 0)) : pv_C) = mv_c m0s n0s r0s 52 (.inl (1, 40)) := rfl
set_option maxRecDepth 20000 in
theorem st_53 : ((pv_o 0 [.ref (0 + 54), .ref (0 + 56), .ref (0 + 58), .ref (0 + 59)]) : pv_C) = mv_c m0s n0s r0s 53 (.inr (0, ds53)) := rfl
set_option maxRecDepth 20000 in
theorem st_54 : ((pv_o 8 [.ref (0 + 55), .int 0]) : pv_C) = mv_c m0s n0s r0s 54 (.inr (8, ds54)) := rfl
set_option maxRecDepth 20000 in
theorem st_55 : ((pv_i 40 (fun _ => 0)) : pv_C) = mv_c m0s n0s r0s 55 (.inl (0, 40)) := rfl
set_option maxRecDepth 20000 in
theorem st_56 : ((pv_o 8 [.ref (0 + 57), .int 0]) : pv_C) = mv_c m0s n0s r0s 56 (.inr (8, ds56)) := rfl
set_option maxRecDepth 20000 in
theorem st_57 : ((pv_i 40 (fun _ => 0)) : pv_C) = mv_c m0s n0s r0s 57 (.inl (0, 40)) := rfl
set_option maxRecDepth 20000 in
theorem st_58 : ((pv_i 40 (fun _ => 0)) : pv_C) = mv_c m0s n0s r0s 58 (.inl (0, 40)) := rfl
set_option maxRecDepth 20000 in
theorem st_59 : ((pv_z 40 (fun _ => 0)) : pv_C) = mv_c m0s n0s r0s 59 (.inl (1, 40)) := rfl
set_option maxRecDepth 20000 in
theorem st_60 : ((pv_q 5 8 (va_up (va_up (va_up (va_up (va_up (va_up (va_up (va_up (fun _ => none) 0 (some (0 + 61))) 1 (some (0 + 63))) 2 (some (0 + 65))) 3 (some (0 + 67))) 4 (some (0 + 69))) 5 (some (0 + 71))) 6 (some (0 + 73))) 7 (some (0 + 75)))) : pv_C) = mv_c m0s n0s r0s 60 (.inl (5, 8)) := by show pv_q _ _ _ = pv_q _ _ _; rw [q_60]
set_option maxRecDepth 20000 in
theorem st_61 : ((pv_o 8 [.ref (0 + 62), .int 0]) : pv_C) = mv_c m0s n0s r0s 61 (.inr (8, ds61)) := rfl
set_option maxRecDepth 20000 in
theorem st_62 : ((pv_i 16 (fun _ => 0)) : pv_C) = mv_c m0s n0s r0s 62 (.inl (0, 16)) := rfl
set_option maxRecDepth 20000 in
theorem st_63 : ((pv_o 8 [.ref (0 + 64), .int 0]) : pv_C) = mv_c m0s n0s r0s 63 (.inr (8, ds63)) := rfl
set_option maxRecDepth 20000 in
theorem st_64 : ((pv_i 16 (fun _ => 0)) : pv_C) = mv_c m0s n0s r0s 64 (.inl (0, 16)) := rfl
set_option maxRecDepth 20000 in
theorem st_65 : ((pv_o 8 [.ref (0 + 66), .int 0]) : pv_C) = mv_c m0s n0s r0s 65 (.inr (8, ds65)) := rfl
set_option maxRecDepth 20000 in
theorem st_66 : ((pv_i 16 (fun _ => 0)) : pv_C) = mv_c m0s n0s r0s 66 (.inl (0, 16)) := rfl
set_option maxRecDepth 20000 in
theorem st_67 : ((pv_o 8 [.ref (0 + 68), .int 0]) : pv_C) = mv_c m0s n0s r0s 67 (.inr (8, ds67)) := rfl
set_option maxRecDepth 20000 in
theorem st_68 : ((pv_i 16 (fun _ => 0)) : pv_C) = mv_c m0s n0s r0s 68 (.inl (0, 16)) := rfl
set_option maxRecDepth 20000 in
theorem st_69 : ((pv_o 8 [.ref (0 + 70), .int 0]) : pv_C) = mv_c m0s n0s r0s 69 (.inr (8, ds69)) := rfl
set_option maxRecDepth 20000 in
theorem st_70 : ((pv_i 16 (fun _ => 0)) : pv_C) = mv_c m0s n0s r0s 70 (.inl (0, 16)) := rfl
set_option maxRecDepth 20000 in
theorem st_71 : ((pv_o 8 [.ref (0 + 72), .int 0]) : pv_C) = mv_c m0s n0s r0s 71 (.inr (8, ds71)) := rfl
set_option maxRecDepth 20000 in
theorem st_72 : ((pv_i 16 (fun _ => 0)) : pv_C) = mv_c m0s n0s r0s 72 (.inl (0, 16)) := rfl
set_option maxRecDepth 20000 in
theorem st_73 : ((pv_o 8 [.ref (0 + 74), .int 0]) : pv_C) = mv_c m0s n0s r0s 73 (.inr (8, ds73)) := rfl
set_option maxRecDepth 20000 in
theorem st_74 : ((pv_i 16 (fun _ => 0)) : pv_C) = mv_c m0s n0s r0s 74 (.inl (0, 16)) := rfl
set_option maxRecDepth 20000 in
theorem st_75 : ((pv_o 8 [.ref (0 + 76), .int 0]) : pv_C) = mv_c m0s n0s r0s 75 (.inr (8, ds75)) := rfl
set_option maxRecDepth 20000 in
theorem st_76 : ((pv_i 16 (fun _ => 0)) : pv_C) = mv_c m0s n0s r0s 76 (.inl (0, 16)) := rfl
set_option maxRecDepth 20000 in
theorem st_77 : ((pv_o 6 [.ref (0 + 78), .ref (0 + 79), .int 0, .ref (0 + 80), .ref (0 + 81), .ref (0 + 82), .ref (0 + 83), .int 0, .ref (0 + 84), .ref (0 + 85), .int 0, .int 0]) : pv_C) = mv_c m0s n0s r0s 77 (.inr (6, ds77)) := rfl
set_option maxRecDepth 20000 in
theorem st_78 : ((pv_i 160 (fun _ => 0)) : pv_C) = mv_c m0s n0s r0s 78 (.inl (0, 160)) := rfl
set_option maxRecDepth 20000 in
theorem st_79 : ((pv_i 160 (fun _ => 0)) : pv_C) = mv_c m0s n0s r0s 79 (.inl (0, 160)) := rfl
set_option maxRecDepth 20000 in
theorem st_80 : ((pv_i 12 (fun _ => 0)) : pv_C) = mv_c m0s n0s r0s 80 (.inl (0, 12)) := rfl
set_option maxRecDepth 20000 in
theorem st_81 : ((pv_i 12 (fun _ => 0)) : pv_C) = mv_c m0s n0s r0s 81 (.inl (0, 12)) := rfl
set_option maxRecDepth 20000 in
theorem st_82 : ((pv_i 12 (fun _ => 0)) : pv_C) = mv_c m0s n0s r0s 82 (.inl (0, 12)) := rfl
set_option maxRecDepth 20000 in
theorem st_83 : ((pv_i 12 (fun _ => 0)) : pv_C) = mv_c m0s n0s r0s 83 (.inl (0, 12)) := rfl
set_option maxRecDepth 20000 in
theorem st_84 : ((pv_i 10 (fun _ => 0)) : pv_C) = mv_c m0s n0s r0s 84 (.inl (0, 10)) := rfl
set_option maxRecDepth 20000 in
theorem st_85 : ((pv_i 32 (fun _ => 0)) : pv_C) = mv_c m0s n0s r0s 85 (.inl (0, 32)) := rfl
set_option maxRecDepth 20000 in
theorem st_86 : ((pv_o 7 [.ref (0 + 87), .ref (0 + 88), .int 0, .int 0, .int 0]) : pv_C) = mv_c m0s n0s r0s 86 (.inr (7, ds86)) := rfl
set_option maxRecDepth 20000 in
theorem st_87 : ((pv_i 160 (fun _ => 0)) : pv_C) = mv_c m0s n0s r0s 87 (.inl (0, 160)) := rfl
set_option maxRecDepth 20000 in
theorem st_88 : ((pv_o 6 [.ref (0 + 89), .ref (0 + 90), .int 0, .ref (0 + 91), .ref (0 + 92), .ref (0 + 93), .ref (0 + 94), .int 0, .ref (0 + 95), .ref (0 + 96), .int 0, .int 0]) : pv_C) = mv_c m0s n0s r0s 88 (.inr (6, ds88)) := rfl
set_option maxRecDepth 20000 in
theorem st_89 : ((pv_i 160 (fun _ => 0)) : pv_C) = mv_c m0s n0s r0s 89 (.inl (0, 160)) := rfl
set_option maxRecDepth 20000 in
theorem st_90 : ((pv_i 160 (fun _ => 0)) : pv_C) = mv_c m0s n0s r0s 90 (.inl (0, 160)) := rfl
set_option maxRecDepth 20000 in
theorem st_91 : ((pv_i 12 (fun _ => 0)) : pv_C) = mv_c m0s n0s r0s 91 (.inl (0, 12)) := rfl
set_option maxRecDepth 20000 in
theorem st_92 : ((pv_i 12 (fun _ => 0)) : pv_C) = mv_c m0s n0s r0s 92 (.inl (0, 12)) := rfl
set_option maxRecDepth 20000 in
theorem st_93 : ((pv_i 12 (fun _ => 0)) : pv_C) = mv_c m0s n0s r0s 93 (.inl (0, 12)) := rfl
set_option maxRecDepth 20000 in
theorem st_94 : ((pv_i 12 (fun _ => 0)) : pv_C) = mv_c m0s n0s r0s 94 (.inl (0, 12)) := rfl
set_option maxRecDepth 20000 in
theorem st_95 : ((pv_i 10 (fun _ => 0)) : pv_C) = mv_c m0s n0s r0s 95 (.inl (0, 10)) := rfl
set_option maxRecDepth 20000 in
theorem st_96 : ((pv_i 32 (fun _ => 0)) : pv_C) = mv_c m0s n0s r0s 96 (.inl (0, 32)) := rfl
set_option maxRecDepth 20000 in
theorem st_97 : ((pv_o 1 [.ref (0 + 98), .ref (0 + 99), .ref (0 + 100), .ref (0 + 101), .ref (0 + 102), .ref (0 + 103), .int 0]) : pv_C) = mv_c m0s n0s r0s 97 (.inr (1, ds97)) := rfl
set_option maxRecDepth 20000 in
theorem st_98 : ((pv_i 60 (fun _ => 0)) : pv_C) = mv_c m0s n0s r0s 98 (.inl (0, 60)) := rfl
set_option maxRecDepth 20000 in
theorem st_99 : ((pv_i 60 (fun _ => 0)) : pv_C) = mv_c m0s n0s r0s 99 (.inl (0, 60)) := rfl
set_option maxRecDepth 20000 in
theorem st_100 : ((pv_i 60 (fun _ => 0)) : pv_C) = mv_c m0s n0s r0s 100 (.inl (0, 60)) := rfl
set_option maxRecDepth 20000 in
theorem st_101 : ((pv_i 60 (fun _ => 0)) : pv_C) = mv_c m0s n0s r0s 101 (.inl (0, 60)) := rfl
set_option maxRecDepth 20000 in
theorem st_102 : ((pv_i 60 (fun _ => 0)) : pv_C) = mv_c m0s n0s r0s 102 (.inl (0, 60)) := rfl
set_option maxRecDepth 20000 in
theorem st_103 : ((pv_i 540 (fun _ => 0)) : pv_C) = mv_c m0s n0s r0s 103 (.inl (0, 540)) := rfl
set_option maxRecDepth 20000 in
theorem st_104 : ((pv_o 4 [.ref (0 + 105), .ref (0 + 106)]) : pv_C) = mv_c m0s n0s r0s 104 (.inr (4, ds104)) := rfl
set_option maxRecDepth 20000 in
theorem st_105 : ((pv_i 41 (fun _ => 0)) : pv_C) = mv_c m0s n0s r0s 105 (.inl (0, 41)) := rfl
set_option maxRecDepth 20000 in
theorem st_106 : ((pv_l 41 (fun _ => 0)) : pv_C) = mv_c m0s n0s r0s 106 (.inl (2, 41)) := rfl
set_option maxRecDepth 20000 in
theorem st_107 : ((pv_o 2 [.ref (0 + 108), .ref (0 + 109), .ref (0 + 110), .ref (0 + 111)]) : pv_C) = mv_c m0s n0s r0s 107 (.inr (2, ds107)) := rfl
set_option maxRecDepth 20000 in
theorem st_108 : ((pv_z 40 (fun _ => 0)) : pv_C) = mv_c m0s n0s r0s 108 (.inl (1, 40)) := rfl
set_option maxRecDepth 20000 in
theorem st_109 : ((pv_i 40 (fun _ => 0)) : pv_C) = mv_c m0s n0s r0s 109 (.inl (0, 40)) := rfl
set_option maxRecDepth 20000 in
theorem st_110 : ((pv_i 16 (fun _ => 0)) : pv_C) = mv_c m0s n0s r0s 110 (.inl (0, 16)) := rfl
set_option maxRecDepth 20000 in
theorem st_111 : ((pv_i 697 (fun _ => 0)) : pv_C) = mv_c m0s n0s r0s 111 (.inl (0, 697)) := rfl
set_option maxRecDepth 20000 in
theorem st_112 : ((pv_o 5 [.ref (0 + 113), .int 0, .ref (0 + 115)]) : pv_C) = mv_c m0s n0s r0s 112 (.inr (5, ds112)) := rfl
set_option maxRecDepth 20000 in
theorem st_113 : ((pv_o 8 [.ref (0 + 114), .int 0]) : pv_C) = mv_c m0s n0s r0s 113 (.inr (8, ds113)) := rfl
set_option maxRecDepth 20000 in
theorem st_114 : ((pv_i 16 (fun _ => 0)) : pv_C) = mv_c m0s n0s r0s 114 (.inl (0, 16)) := rfl
set_option maxRecDepth 20000 in
theorem st_115 : ((pv_i 4913 (fun _ => 0)) : pv_C) = mv_c m0s n0s r0s 115 (.inl (0, 4913)) := rfl
set_option maxRecDepth 20000 in
theorem st_116 : ((pv_o 9 [.ref (0 + 117), .int 0, .int 0, .ref (0 + 118), .ref (0 + 119)]) : pv_C) = mv_c m0s n0s r0s 116 (.inr (9, ds116)) := rfl
set_option maxRecDepth 20000 in
theorem st_117 : ((pv_i 8 (fun _ => 0)) : pv_C) = mv_c m0s n0s r0s 117 (.inl (0, 8)) := rfl
set_option maxRecDepth 20000 in
theorem st_118 : ((pv_i 64 (fun _ => 0)) : pv_C) = mv_c m0s n0s r0s 118 (.inl (0, 64)) := rfl
set_option maxRecDepth 20000 in
theorem st_119 : ((pv_i 2304 (fun _ => 0)) : pv_C) = mv_c m0s n0s r0s 119 (.inl (0, 2304)) := rfl
set_option maxRecDepth 20000 in
theorem st_120 : ((pv_i 8 (fun _ => 0)) : pv_C) = mv_c m0s n0s r0s 120 (.inl (0, 8)) := rfl
set_option maxRecDepth 20000 in
theorem st_121 : ((pv_i 8 (fun _ => 0)) : pv_C) = mv_c m0s n0s r0s 121 (.inl (0, 8)) := rfl
set_option maxRecDepth 20000 in
theorem st_122 : ((pv_i 8 (fun _ => 0)) : pv_C) = mv_c m0s n0s r0s 122 (.inl (0, 8)) := rfl
set_option maxRecDepth 20000 in
theorem st_123 : ((pv_o 12 [.int 0, .int 0, .int 1, .int 0, .int 0, .ref (0 + 124), .ref (0 + 125), .ref (0 + 126), .ref (0 + 127), .ref (0 + 128), .ref (0 + 129), .int 0, .int 0, .int 0, .int 0, .int 0, .int 0, .int 0, .int 0, .int 0, .int 0, .ref (0 + 130), .ref (0 + 131), .ref (0 + 132), .ref (0 + 133), .ref (0 + 134), .ref (0 + 135), .ref (0 + 136), .ref (0 + 137), .ref (0 + 138), .ref (0 + 139), .ref (0 + 140), .ref (0 + 141), .ref (0 + 142), .ref (0 + 143), .ref (0 + 144), .ref (0 + 145), .ref (0 + 146), .ref (0 + 147), .ref (0 + 148), .int 0, .int 0, .ref (0 + 149), .ref (0 + 150), .ref (0 + 151), .ref (0 + 152), .ref (0 + 153), .ref (0 + 154), .ref (0 + 155), .ref (0 + 156), .int 0, .ref (0 + 157), .ref (0 + 158), .ref (0 + 159), .ref (0 + 160), .ref (0 + 161), .ref (0 + 162), .ref (0 + 163), .ref (0 + 164), .ref (0 + 165), .ref (0 + 166), .int 0, .ref (0 + 167), .ref (0 + 168)]) : pv_C) = mv_c m0s n0s r0s 123 (.inr (12, ds123)) := rfl
set_option maxRecDepth 20000 in
theorem st_124 : ((pv_i 8 (fun _ => 0)) : pv_C) = mv_c m0s n0s r0s 124 (.inl (0, 8)) := rfl
set_option maxRecDepth 20000 in
theorem st_125 : ((pv_i 320 (fun _ => 0)) : pv_C) = mv_c m0s n0s r0s 125 (.inl (0, 320)) := rfl
set_option maxRecDepth 20000 in
theorem st_126 : ((pv_i 8 (fun _ => 0)) : pv_C) = mv_c m0s n0s r0s 126 (.inl (0, 8)) := rfl
set_option maxRecDepth 20000 in
theorem st_127 : ((pv_i 128 (fun _ => 0)) : pv_C) = mv_c m0s n0s r0s 127 (.inl (0, 128)) := rfl
set_option maxRecDepth 20000 in
theorem st_128 : ((pv_z 320 (fun _ => 0)) : pv_C) = mv_c m0s n0s r0s 128 (.inl (1, 320)) := rfl
set_option maxRecDepth 20000 in
theorem st_129 : ((pv_b 200 (fun _ => 0)) : pv_C) = mv_c m0s n0s r0s 129 (.inl (3, 200)) := rfl
set_option maxRecDepth 20000 in
theorem st_130 : ((pv_i 180 (fun _ => 0)) : pv_C) = mv_c m0s n0s r0s 130 (.inl (0, 180)) := rfl
set_option maxRecDepth 20000 in
theorem st_131 : ((pv_i 180 (fun _ => 0)) : pv_C) = mv_c m0s n0s r0s 131 (.inl (0, 180)) := rfl
set_option maxRecDepth 20000 in
theorem st_132 : ((pv_i 12 (fun _ => 0)) : pv_C) = mv_c m0s n0s r0s 132 (.inl (0, 12)) := rfl
set_option maxRecDepth 20000 in
theorem st_133 : ((pv_i 12 (fun _ => 0)) : pv_C) = mv_c m0s n0s r0s 133 (.inl (0, 12)) := rfl
set_option maxRecDepth 20000 in
theorem st_134 : ((pv_i 12 (fun _ => 0)) : pv_C) = mv_c m0s n0s r0s 134 (.inl (0, 12)) := rfl
set_option maxRecDepth 20000 in
theorem st_135 : ((pv_i 12 (fun _ => 0)) : pv_C) = mv_c m0s n0s r0s 135 (.inl (0, 12)) := rfl
set_option maxRecDepth 20000 in
theorem st_136 : ((pv_i 180 (fun _ => 0)) : pv_C) = mv_c m0s n0s r0s 136 (.inl (0, 180)) := rfl
set_option maxRecDepth 20000 in
theorem st_137 : ((pv_i 12 (fun _ => 0)) : pv_C) = mv_c m0s n0s r0s 137 (.inl (0, 12)) := rfl
set_option maxRecDepth 20000 in
theorem st_138 : ((pv_i 12 (fun _ => 0)) : pv_C) = mv_c m0s n0s r0s 138 (.inl (0, 12)) := rfl
set_option maxRecDepth 20000 in
theorem st_139 : ((pv_i 12 (fun _ => 0)) : pv_C) = mv_c m0s n0s r0s 139 (.inl (0, 12)) := rfl
set_option maxRecDepth 20000 in
theorem st_140 : ((pv_i 12 (fun _ => 0)) : pv_C) = mv_c m0s n0s r0s 140 (.inl (0, 12)) := rfl
set_option maxRecDepth 20000 in
theorem st_141 : ((pv_i 180 (fun _ => 0)) : pv_C) = mv_c m0s n0s r0s 141 (.inl (0, 180)) := rfl
set_option maxRecDepth 20000 in
theorem st_142 : ((pv_i 10 (fun _ => 0)) : pv_C) = mv_c m0s n0s r0s 142 (.inl (0, 10)) := rfl
set_option maxRecDepth 20000 in
theorem st_143 : ((pv_i 60 (fun _ => 0)) : pv_C) = mv_c m0s n0s r0s 143 (.inl (0, 60)) := rfl
set_option maxRecDepth 20000 in
theorem st_144 : ((pv_i 60 (fun _ => 0)) : pv_C) = mv_c m0s n0s r0s 144 (.inl (0, 60)) := rfl
set_option maxRecDepth 20000 in
theorem st_145 : ((pv_i 60 (fun _ => 0)) : pv_C) = mv_c m0s n0s r0s 145 (.inl (0, 60)) := rfl
set_option maxRecDepth 20000 in
theorem st_146 : ((pv_i 60 (fun _ => 0)) : pv_C) = mv_c m0s n0s r0s 146 (.inl (0, 60)) := rfl
set_option maxRecDepth 20000 in
theorem st_147 : ((pv_i 60 (fun _ => 0)) : pv_C) = mv_c m0s n0s r0s 147 (.inl (0, 60)) := rfl
set_option maxRecDepth 20000 in
theorem st_148 : ((pv_i 540 (fun _ => 0)) : pv_C) = mv_c m0s n0s r0s 148 (.inl (0, 540)) := rfl
set_option maxRecDepth 20000 in
theorem st_149 : ((pv_i 40 (fun _ => 0)) : pv_C) = mv_c m0s n0s r0s 149 (.inl (0, 40)) := rfl
set_option maxRecDepth 20000 in
theorem st_150 : ((pv_i 16 (fun _ => 0)) : pv_C) = mv_c m0s n0s r0s 150 (.inl (0, 16)) := rfl
set_option maxRecDepth 20000 in
theorem st_151 : ((pv_l 17 (fun _ => 0)) : pv_C) = mv_c m0s n0s r0s 151 (.inl (2, 17)) := rfl
set_option maxRecDepth 20000 in
theorem st_152 : ((pv_i 40 (fun _ => 0)) : pv_C) = mv_c m0s n0s r0s 152 (.inl (0, 40)) := rfl
set_option maxRecDepth 20000 in
theorem st_153 : ((pv_i 697 (fun _ => 0)) : pv_C) = mv_c m0s n0s r0s 153 (.inl (0, 697)) := rfl
set_option maxRecDepth 20000 in
theorem st_154 : ((pv_i 16 (fun _ => 0)) : pv_C) = mv_c m0s n0s r0s 154 (.inl (0, 16)) := rfl
set_option maxRecDepth 20000 in
theorem st_155 : ((pv_i 697 (fun _ => 0)) : pv_C) = mv_c m0s n0s r0s 155 (.inl (0, 697)) := rfl
set_option maxRecDepth 20000 in
theorem st_156 : ((pv_l 697 (fun _ => 0)) : pv_C) = mv_c m0s n0s r0s 156 (.inl (2, 697)) := rfl
set_option maxRecDepth 20000 in
theorem st_157 : ((pv_i 4 (fun _ => 0)) : pv_C) = mv_c m0s n0s r0s 157 (.inl (0, 4)) := rfl
set_option maxRecDepth 20000 in
theorem st_158 : ((pv_i 4 (fun _ => 0)) : pv_C) = mv_c m0s n0s r0s 158 (.inl (0, 4)) := rfl
set_option maxRecDepth 20000 in
theorem st_159 : ((pv_i 4 (fun _ => 0)) : pv_C) = mv_c m0s n0s r0s 159 (.inl (0, 4)) := rfl
set_option maxRecDepth 20000 in
theorem st_160 : ((pv_i 4 (fun _ => 0)) : pv_C) = mv_c m0s n0s r0s 160 (.inl (0, 4)) := rfl
set_option maxRecDepth 20000 in
theorem st_161 : ((pv_i 4913 (fun _ => 0)) : pv_C) = mv_c m0s n0s r0s 161 (.inl (0, 4913)) := rfl
set_option maxRecDepth 20000 in
theorem st_162 : ((pv_i 16 (fun _ => 0)) : pv_C) = mv_c m0s n0s r0s 162 (.inl (0, 16)) := rfl
set_option maxRecDepth 20000 in
theorem st_163 : ((pv_i 28561 (fun _ => 0)) : pv_C) = mv_c m0s n0s r0s 163 (.inl (0, 28561)) := rfl
set_option maxRecDepth 20000 in
theorem st_164 : ((pv_l 28561 (fun _ => 0)) : pv_C) = mv_c m0s n0s r0s 164 (.inl (2, 28561)) := rfl
set_option maxRecDepth 20000 in
theorem st_165 : ((pv_z 64 (fun _ => 0)) : pv_C) = mv_c m0s n0s r0s 165 (.inl (1, 64)) := rfl
set_option maxRecDepth 20000 in
theorem st_166 : ((pv_i 2304 (fun _ => 0)) : pv_C) = mv_c m0s n0s r0s 166 (.inl (0, 2304)) := rfl
set_option maxRecDepth 20000 in
theorem st_167 : ((pv_z 72 (fun _ => 0)) : pv_C) = mv_c m0s n0s r0s 167 (.inl (1, 72)) := rfl
set_option maxRecDepth 20000 in
theorem st_168 : ((pv_i 2304 (fun _ => 0)) : pv_C) = mv_c m0s n0s r0s 168 (.inl (0, 2304)) := rfl
set_option maxHeartbeats 4000000 in
set_option maxRecDepth 20000 in
def H0s : List pv_C := [] ++ [pv_o 11 [.ref (0 + 1), .ref (0 + 3), .int 0, .ref (0 + 60), .ref (0 + 77), .ref (0 + 86), .ref (0 + 97), .int 0, .int 1, .ref (0 + 104), .ref (0 + 107), .ref (0 + 112), .null, .ref (0 + 116), .ref (0 + 120), .ref (0 + 121), .ref (0 + 122)], pv_o 10 [.ref (0 + 2), .int 0], pv_i 200 (fun _ => 0), pv_q 4 8 (va_up (va_up (va_up (va_up (va_up (va_up (va_up (va_up (fun _ => none) 0 (some (0 + 4))) 1 (some (0 + 11))) 2 (some (0 + 18))) 3 (some (0 + 25))) 4 (some (0 + 32))) 5 (some (0 + 39))) 6 (some (0 + 46))) 7 (some (0 + 53))), pv_o 0 [.ref (0 + 5), .ref (0 + 7), .ref (0 + 9), .ref (0 + 10)], pv_o 8 [.ref (0 + 6), .int 0], pv_i 40 (fun _ => 0), pv_o 8 [.ref (0 + 8), .int 0], pv_i 40 (fun _ => 0), pv_i 40 (fun _ => 0), pv_z 40 (fun _ => 0), pv_o 0 [.ref (0 + 12), .ref (0 + 14), .ref (0 + 16), .ref (0 + 17)], pv_o 8 [.ref (0 + 13), .int 0], pv_i 40 (fun _ => 0), pv_o 8 [.ref (0 + 15), .int 0], pv_i 40 (fun _ => 0), pv_i 40 (fun _ => 0), pv_z 40 (fun _ => 0), pv_o 0 [.ref (0 + 19), .ref (0 + 21), .ref (0 + 23), .ref (0 + 24)], pv_o 8 [.ref (0 + 20), .int 0], pv_i 40 (fun _ => 0), pv_o 8 [.ref (0 + 22), .int 0], pv_i 40 (fun _ => 0), pv_i 40 (fun _ => 0), pv_z 40 (fun _ => 0), pv_o 0 [.ref (0 + 26), .ref (0 + 28), .ref (0 + 30), .ref (0 + 31)], pv_o 8 [.ref (0 + 27), .int 0], pv_i 40 (fun _ => 0), pv_o 8 [.ref (0 + 29), .int 0], pv_i 40 (fun _ => 0), pv_i 40 (fun _ => 0), pv_z 40 (fun _ => 0), pv_o 0 [.ref (0 + 33), .ref (0 + 35), .ref (0 + 37), .ref (0 + 38)], pv_o 8 [.ref (0 + 34), .int 0], pv_i 40 (fun _ => 0), pv_o 8 [.ref (0 + 36), .int 0], pv_i 40 (fun _ => 0), pv_i 40 (fun _ => 0), pv_z 40 (fun _ => 0), pv_o 0 [.ref (0 + 40), .ref (0 + 42), .ref (0 + 44), .ref (0 + 45)], pv_o 8 [.ref (0 + 41), .int 0], pv_i 40 (fun _ => 0), pv_o 8 [.ref (0 + 43), .int 0], pv_i 40 (fun _ => 0), pv_i 40 (fun _ => 0), pv_z 40 (fun _ => 0), pv_o 0 [.ref (0 + 47), .ref (0 + 49), .ref (0 + 51), .ref (0 + 52)], pv_o 8 [.ref (0 + 48), .int 0], pv_i 40 (fun _ => 0), pv_o 8 [.ref (0 + 50), .int 0], pv_i 40 (fun _ => 0), pv_i 40 (fun _ => 0), pv_z 40 (fun _ => 0), pv_o 0 [.ref (0 + 54), .ref (0 + 56), .ref (0 + 58), .ref (0 + 59)], pv_o 8 [.ref (0 + 55), .int 0], pv_i 40 (fun _ => 0), pv_o 8 [.ref (0 + 57), .int 0], pv_i 40 (fun _ => 0), pv_i 40 (fun _ => 0), pv_z 40 (fun _ => 0), pv_q 5 8 (va_up (va_up (va_up (va_up (va_up (va_up (va_up (va_up (fun _ => none) 0 (some (0 + 61))) 1 (some (0 + 63))) 2 (some (0 + 65))) 3 (some (0 + 67))) 4 (some (0 + 69))) 5 (some (0 + 71))) 6 (some (0 + 73))) 7 (some (0 + 75))), pv_o 8 [.ref (0 + 62), .int 0], pv_i 16 (fun _ => 0), pv_o 8 [.ref (0 + 64), .int 0], pv_i 16 (fun _ => 0), pv_o 8 [.ref (0 + 66), .int 0], pv_i 16 (fun _ => 0), pv_o 8 [.ref (0 + 68), .int 0], pv_i 16 (fun _ => 0), pv_o 8 [.ref (0 + 70), .int 0], pv_i 16 (fun _ => 0), pv_o 8 [.ref (0 + 72), .int 0], pv_i 16 (fun _ => 0), pv_o 8 [.ref (0 + 74), .int 0], pv_i 16 (fun _ => 0), pv_o 8 [.ref (0 + 76), .int 0], pv_i 16 (fun _ => 0), pv_o 6 [.ref (0 + 78), .ref (0 + 79), .int 0, .ref (0 + 80), .ref (0 + 81), .ref (0 + 82), .ref (0 + 83), .int 0, .ref (0 + 84), .ref (0 + 85), .int 0, .int 0], pv_i 160 (fun _ => 0), pv_i 160 (fun _ => 0), pv_i 12 (fun _ => 0), pv_i 12 (fun _ => 0), pv_i 12 (fun _ => 0), pv_i 12 (fun _ => 0), pv_i 10 (fun _ => 0), pv_i 32 (fun _ => 0), pv_o 7 [.ref (0 + 87), .ref (0 + 88), .int 0, .int 0, .int 0], pv_i 160 (fun _ => 0), pv_o 6 [.ref (0 + 89), .ref (0 + 90), .int 0, .ref (0 + 91), .ref (0 + 92), .ref (0 + 93), .ref (0 + 94), .int 0, .ref (0 + 95), .ref (0 + 96), .int 0, .int 0], pv_i 160 (fun _ => 0), pv_i 160 (fun _ => 0), pv_i 12 (fun _ => 0), pv_i 12 (fun _ => 0), pv_i 12 (fun _ => 0), pv_i 12 (fun _ => 0), pv_i 10 (fun _ => 0), pv_i 32 (fun _ => 0), pv_o 1 [.ref (0 + 98), .ref (0 + 99), .ref (0 + 100), .ref (0 + 101), .ref (0 + 102), .ref (0 + 103), .int 0], pv_i 60 (fun _ => 0), pv_i 60 (fun _ => 0), pv_i 60 (fun _ => 0), pv_i 60 (fun _ => 0), pv_i 60 (fun _ => 0), pv_i 540 (fun _ => 0), pv_o 4 [.ref (0 + 105), .ref (0 + 106)], pv_i 41 (fun _ => 0), pv_l 41 (fun _ => 0), pv_o 2 [.ref (0 + 108), .ref (0 + 109), .ref (0 + 110), .ref (0 + 111)], pv_z 40 (fun _ => 0), pv_i 40 (fun _ => 0), pv_i 16 (fun _ => 0), pv_i 697 (fun _ => 0), pv_o 5 [.ref (0 + 113), .int 0, .ref (0 + 115)], pv_o 8 [.ref (0 + 114), .int 0], pv_i 16 (fun _ => 0), pv_i 4913 (fun _ => 0), pv_o 9 [.ref (0 + 117), .int 0, .int 0, .ref (0 + 118), .ref (0 + 119)], pv_i 8 (fun _ => 0), pv_i 64 (fun _ => 0), pv_i 2304 (fun _ => 0), pv_i 8 (fun _ => 0), pv_i 8 (fun _ => 0), pv_i 8 (fun _ => 0), pv_o 12 [.int 0, .int 0, .int 1, .int 0, .int 0, .ref (0 + 124), .ref (0 + 125), .ref (0 + 126), .ref (0 + 127), .ref (0 + 128), .ref (0 + 129), .int 0, .int 0, .int 0, .int 0, .int 0, .int 0, .int 0, .int 0, .int 0, .int 0, .ref (0 + 130), .ref (0 + 131), .ref (0 + 132), .ref (0 + 133), .ref (0 + 134), .ref (0 + 135), .ref (0 + 136), .ref (0 + 137), .ref (0 + 138), .ref (0 + 139), .ref (0 + 140), .ref (0 + 141), .ref (0 + 142), .ref (0 + 143), .ref (0 + 144), .ref (0 + 145), .ref (0 + 146), .ref (0 + 147), .ref (0 + 148), .int 0, .int 0, .ref (0 + 149), .ref (0 + 150), .ref (0 + 151), .ref (0 + 152), .ref (0 + 153), .ref (0 + 154), .ref (0 + 155), .ref (0 + 156), .int 0, .ref (0 + 157), .ref (0 + 158), .ref (0 + 159), .ref (0 + 160), .ref (0 + 161), .ref (0 + 162), .ref (0 + 163), .ref (0 + 164), .ref (0 + 165), .ref (0 + 166), .int 0, .ref (0 + 167), .ref (0 + 168)], pv_i 8 (fun _ => 0), pv_i 320 (fun _ => 0), pv_i 8 (fun _ => 0), pv_i 128 (fun _ => 0), pv_z 320 (fun _ => 0), pv_b 200 (fun _ => 0), pv_i 180 (fun _ => 0), pv_i 180 (fun _ => 0), pv_i 12 (fun _ => 0), pv_i 12 (fun _ => 0), pv_i 12 (fun _ => 0), pv_i 12 (fun _ => 0), pv_i 180 (fun _ => 0), pv_i 12 (fun _ => 0), pv_i 12 (fun _ => 0), pv_i 12 (fun _ => 0), pv_i 12 (fun _ => 0), pv_i 180 (fun _ => 0), pv_i 10 (fun _ => 0), pv_i 60 (fun _ => 0), pv_i 60 (fun _ => 0), pv_i 60 (fun _ => 0), pv_i 60 (fun _ => 0), pv_i 60 (fun _ => 0), pv_i 540 (fun _ => 0), pv_i 40 (fun _ => 0), pv_i 16 (fun _ => 0), pv_l 17 (fun _ => 0), pv_i 40 (fun _ => 0), pv_i 697 (fun _ => 0), pv_i 16 (fun _ => 0), pv_i 697 (fun _ => 0), pv_l 697 (fun _ => 0), pv_i 4 (fun _ => 0), pv_i 4 (fun _ => 0), pv_i 4 (fun _ => 0), pv_i 4 (fun _ => 0), pv_i 4913 (fun _ => 0), pv_i 16 (fun _ => 0), pv_i 28561 (fun _ => 0), pv_l 28561 (fun _ => 0), pv_z 64 (fun _ => 0), pv_i 2304 (fun _ => 0), pv_z 72 (fun _ => 0), pv_i 2304 (fun _ => 0)]
set_option maxHeartbeats 4000000 in
set_option maxRecDepth 20000 in
theorem H0s_len : H0s.length = 169 := rfl
set_option maxHeartbeats 4000000 in
set_option maxRecDepth 20000 in
theorem mk_st : ([] ++ [pv_o 11 [.ref (0 + 1), .ref (0 + 3), .int 0, .ref (0 + 60), .ref (0 + 77), .ref (0 + 86), .ref (0 + 97), .int 0, .int 1, .ref (0 + 104), .ref (0 + 107), .ref (0 + 112), .null, .ref (0 + 116), .ref (0 + 120), .ref (0 + 121), .ref (0 + 122)], pv_o 10 [.ref (0 + 2), .int 0], pv_i 200 (fun _ => 0), pv_q 4 8 (va_up (va_up (va_up (va_up (va_up (va_up (va_up (va_up (fun _ => none) 0 (some (0 + 4))) 1 (some (0 + 11))) 2 (some (0 + 18))) 3 (some (0 + 25))) 4 (some (0 + 32))) 5 (some (0 + 39))) 6 (some (0 + 46))) 7 (some (0 + 53))), pv_o 0 [.ref (0 + 5), .ref (0 + 7), .ref (0 + 9), .ref (0 + 10)], pv_o 8 [.ref (0 + 6), .int 0], pv_i 40 (fun _ => 0), pv_o 8 [.ref (0 + 8), .int 0], pv_i 40 (fun _ => 0), pv_i 40 (fun _ => 0), pv_z 40 (fun _ => 0), pv_o 0 [.ref (0 + 12), .ref (0 + 14), .ref (0 + 16), .ref (0 + 17)], pv_o 8 [.ref (0 + 13), .int 0], pv_i 40 (fun _ => 0), pv_o 8 [.ref (0 + 15), .int 0], pv_i 40 (fun _ => 0), pv_i 40 (fun _ => 0), pv_z 40 (fun _ => 0), pv_o 0 [.ref (0 + 19), .ref (0 + 21), .ref (0 + 23), .ref (0 + 24)], pv_o 8 [.ref (0 + 20), .int 0], pv_i 40 (fun _ => 0), pv_o 8 [.ref (0 + 22), .int 0], pv_i 40 (fun _ => 0), pv_i 40 (fun _ => 0), pv_z 40 (fun _ => 0), pv_o 0 [.ref (0 + 26), .ref (0 + 28), .ref (0 + 30), .ref (0 + 31)], pv_o 8 [.ref (0 + 27), .int 0], pv_i 40 (fun _ => 0), pv_o 8 [.ref (0 + 29), .int 0], pv_i 40 (fun _ => 0), pv_i 40 (fun _ => 0), pv_z 40 (fun _ => 0), pv_o 0 [.ref (0 + 33), .ref (0 + 35), .ref (0 + 37), .ref (0 + 38)], pv_o 8 [.ref (0 + 34), .int 0], pv_i 40 (fun _ => 0), pv_o 8 [.ref (0 + 36), .int 0], pv_i 40 (fun _ => 0), pv_i 40 (fun _ => 0), pv_z 40 (fun _ => 0), pv_o 0 [.ref (0 + 40), .ref (0 + 42), .ref (0 + 44), .ref (0 + 45)], pv_o 8 [.ref (0 + 41), .int 0], pv_i 40 (fun _ => 0), pv_o 8 [.ref (0 + 43), .int 0], pv_i 40 (fun _ => 0), pv_i 40 (fun _ => 0), pv_z 40 (fun _ => 0), pv_o 0 [.ref (0 + 47), .ref (0 + 49), .ref (0 + 51), .ref (0 + 52)], pv_o 8 [.ref (0 + 48), .int 0], pv_i 40 (fun _ => 0), pv_o 8 [.ref (0 + 50), .int 0], pv_i 40 (fun _ => 0), pv_i 40 (fun _ => 0), pv_z 40 (fun _ => 0), pv_o 0 [.ref (0 + 54), .ref (0 + 56), .ref (0 + 58), .ref (0 + 59)], pv_o 8 [.ref (0 + 55), .int 0], pv_i 40 (fun _ => 0), pv_o 8 [.ref (0 + 57), .int 0], pv_i 40 (fun _ => 0), pv_i 40 (fun _ => 0), pv_z 40 (fun _ => 0), pv_q 5 8 (va_up (va_up (va_up (va_up (va_up (va_up (va_up (va_up (fun _ => none) 0 (some (0 + 61))) 1 (some (0 + 63))) 2 (some (0 + 65))) 3 (some (0 + 67))) 4 (some (0 + 69))) 5 (some (0 + 71))) 6 (some (0 + 73))) 7 (some (0 + 75))), pv_o 8 [.ref (0 + 62), .int 0], pv_i 16 (fun _ => 0), pv_o 8 [.ref (0 + 64), .int 0], pv_i 16 (fun _ => 0), pv_o 8 [.ref (0 + 66), .int 0], pv_i 16 (fun _ => 0), pv_o 8 [.ref (0 + 68), .int 0], pv_i 16 (fun _ => 0), pv_o 8 [.ref (0 + 70), .int 0], pv_i 16 (fun _ => 0), pv_o 8 [.ref (0 + 72), .int 0], pv_i 16 (fun _ => 0), pv_o 8 [.ref (0 + 74), .int 0], pv_i 16 (fun _ => 0), pv_o 8 [.ref (0 + 76), .int 0], pv_i 16 (fun _ => 0), pv_o 6 [.ref (0 + 78), .ref (0 + 79), .int 0, .ref (0 + 80), .ref (0 + 81), .ref (0 + 82), .ref (0 + 83), .int 0, .ref (0 + 84), .ref (0 + 85), .int 0, .int 0], pv_i 160 (fun _ => 0), pv_i 160 (fun _ => 0), pv_i 12 (fun _ => 0), pv_i 12 (fun _ => 0), pv_i 12 (fun _ => 0), pv_i 12 (fun _ => 0), pv_i 10 (fun _ => 0), pv_i 32 (fun _ => 0), pv_o 7 [.ref (0 + 87), .ref (0 + 88), .int 0, .int 0, .int 0], pv_i 160 (fun _ => 0), pv_o 6 [.ref (0 + 89), .ref (0 + 90), .int 0, .ref (0 + 91), .ref (0 + 92), .ref (0 + 93), .ref (0 + 94), .int 0, .ref (0 + 95), .ref (0 + 96), .int 0, .int 0], pv_i 160 (fun _ => 0), pv_i 160 (fun _ => 0), pv_i 12 (fun _ => 0), pv_i 12 (fun _ => 0), pv_i 12 (fun _ => 0), pv_i 12 (fun _ => 0), pv_i 10 (fun _ => 0), pv_i 32 (fun _ => 0), pv_o 1 [.ref (0 + 98), .ref (0 + 99), .ref (0 + 100), .ref (0 + 101), .ref (0 + 102), .ref (0 + 103), .int 0], pv_i 60 (fun _ => 0), pv_i 60 (fun _ => 0), pv_i 60 (fun _ => 0), pv_i 60 (fun _ => 0), pv_i 60 (fun _ => 0), pv_i 540 (fun _ => 0), pv_o 4 [.ref (0 + 105), .ref (0 + 106)], pv_i 41 (fun _ => 0), pv_l 41 (fun _ => 0), pv_o 2 [.ref (0 + 108), .ref (0 + 109), .ref (0 + 110), .ref (0 + 111)], pv_z 40 (fun _ => 0), pv_i 40 (fun _ => 0), pv_i 16 (fun _ => 0), pv_i 697 (fun _ => 0), pv_o 5 [.ref (0 + 113), .int 0, .ref (0 + 115)], pv_o 8 [.ref (0 + 114), .int 0], pv_i 16 (fun _ => 0), pv_i 4913 (fun _ => 0), pv_o 9 [.ref (0 + 117), .int 0, .int 0, .ref (0 + 118), .ref (0 + 119)], pv_i 8 (fun _ => 0), pv_i 64 (fun _ => 0), pv_i 2304 (fun _ => 0), pv_i 8 (fun _ => 0), pv_i 8 (fun _ => 0), pv_i 8 (fun _ => 0), pv_o 12 [.int 0, .int 0, .int 1, .int 0, .int 0, .ref (0 + 124), .ref (0 + 125), .ref (0 + 126), .ref (0 + 127), .ref (0 + 128), .ref (0 + 129), .int 0, .int 0, .int 0, .int 0, .int 0, .int 0, .int 0, .int 0, .int 0, .int 0, .ref (0 + 130), .ref (0 + 131), .ref (0 + 132), .ref (0 + 133), .ref (0 + 134), .ref (0 + 135), .ref (0 + 136), .ref (0 + 137), .ref (0 + 138), .ref (0 + 139), .ref (0 + 140), .ref (0 + 141), .ref (0 + 142), .ref (0 + 143), .ref (0 + 144), .ref (0 + 145), .ref (0 + 146), .ref (0 + 147), .ref (0 + 148), .int 0, .int 0, .ref (0 + 149), .ref (0 + 150), .ref (0 + 151), .ref (0 + 152), .ref (0 + 153), .ref (0 + 154), .ref (0 + 155), .ref (0 + 156), .int 0, .ref (0 + 157), .ref (0 + 158), .ref (0 + 159), .ref (0 + 160), .ref (0 + 161), .ref (0 + 162), .ref (0 + 163), .ref (0 + 164), .ref (0 + 165), .ref (0 + 166), .int 0, .ref (0 + 167), .ref (0 + 168)], pv_i 8 (fun _ => 0), pv_i 320 (fun _ => 0), pv_i 8 (fun _ => 0), pv_i 128 (fun _ => 0), pv_z 320 (fun _ => 0), pv_b 200 (fun _ => 0), pv_i 180 (fun _ => 0), pv_i 180 (fun _ => 0), pv_i 12 (fun _ => 0), pv_i 12 (fun _ => 0), pv_i 12 (fun _ => 0), pv_i 12 (fun _ => 0), pv_i 180 (fun _ => 0), pv_i 12 (fun _ => 0), pv_i 12 (fun _ => 0), pv_i 12 (fun _ => 0), pv_i 12 (fun _ => 0), pv_i 180 (fun _ => 0), pv_i 10 (fun _ => 0), pv_i 60 (fun _ => 0), pv_i 60 (fun _ => 0), pv_i 60 (fun _ => 0), pv_i 60 (fun _ => 0), pv_i 60 (fun _ => 0), pv_i 540 (fun _ => 0), pv_i 40 (fun _ => 0), pv_i 16 (fun _ => 0), pv_l 17 (fun _ => 0), pv_i 40 (fun _ => 0), pv_i 697 (fun _ => 0), pv_i 16 (fun _ => 0), pv_i 697 (fun _ => 0), pv_l 697 (fun _ => 0), pv_i 4 (fun _ => 0), pv_i 4 (fun _ => 0), pv_i 4 (fun _ => 0), pv_i 4 (fun _ => 0), pv_i 4913 (fun _ => 0), pv_i 16 (fun _ => 0), pv_i 28561 (fun _ => 0), pv_l 28561 (fun _ => 0), pv_z 64 (fun _ => 0), pv_i 2304 (fun _ => 0), pv_z 72 (fun _ => 0), pv_i 2304 (fun _ => 0)] : List pv_C) = mk TL m0s n0s r0s := by
  apply List.ext_getElem?
  intro a
  match a with
  | 0 => exact (congrArg some st_0).trans (mk_get (tl0 hTL0)).symm
  | 1 => exact (congrArg some st_1).trans (mk_get (tl1 hTL0)).symm
  | 2 => exact (congrArg some st_2).trans (mk_get (tl2 hTL0)).symm
  | 3 => exact (congrArg some st_3).trans (mk_get (tl3 hTL0)).symm
  | 4 => exact (congrArg some st_4).trans (mk_get (tl4 hTL0)).symm
  | 5 => exact (congrArg some st_5).trans (mk_get (tl5 hTL0)).symm
  | 6 => exact (congrArg some st_6).trans (mk_get (tl6 hTL0)).symm
  | 7 => exact (congrArg some st_7).trans (mk_get (tl7 hTL0)).symm
  | 8 => exact (congrArg some st_8).trans (mk_get (tl8 hTL0)).symm
  | 9 => exact (congrArg some st_9).trans (mk_get (tl9 hTL0)).symm
  | 10 => exact (congrArg some st_10).trans (mk_get (tl10 hTL0)).symm
  | 11 => exact (congrArg some st_11).trans (mk_get (tl11 hTL0)).symm
  | 12 => exact (congrArg some st_12).trans (mk_get (tl12 hTL0)).symm
  | 13 => exact (congrArg some st_13).trans (mk_get (tl13 hTL0)).symm
  | 14 => exact (congrArg some st_14).trans (mk_get (tl14 hTL0)).symm
  | 15 => exact (congrArg some st_15).trans (mk_get (tl15 hTL0)).symm
  | 16 => exact (congrArg some st_16).trans (mk_get (tl16 hTL0)).symm
  | 17 => exact (congrArg some st_17).trans (mk_get (tl17 hTL0)).symm
  | 18 => exact (congrArg some st_18).trans (mk_get (tl18 hTL0)).symm
  | 19 => exact (congrArg some st_19).trans (mk_get (tl19 hTL0)).symm
  | 20 => exact (congrArg some st_20).trans (mk_get (tl20 hTL0)).symm
  | 21 => exact (congrArg some st_21).trans (mk_get (tl21 hTL0)).symm
  | 22 => exact (congrArg some st_22).trans (mk_get (tl22 hTL0)).symm
  | 23 => exact (congrArg some st_23).trans (mk_get (tl23 hTL0)).symm
  | 24 => exact (congrArg some st_24).trans (mk_get (tl24 hTL0)).symm
  | 25 => exact (congrArg some st_25).trans (mk_get (tl25 hTL0)).symm
  | 26 => exact (congrArg some st_26).trans (mk_get (tl26 hTL0)).symm
  | 27 => exact (congrArg some st_27).trans (mk_get (tl27 hTL0)).symm
  | 28 => exact (congrArg some st_28).trans (mk_get (tl28 hTL0)).symm
  | 29 => exact (congrArg some st_29).trans (mk_get (tl29 hTL0)).symm
  | 30 => exact (congrArg some st_30).trans (mk_get (tl30 hTL0)).symm
  | 31 => exact (congrArg some st_31).trans (mk_get (tl31 hTL0)).symm
  | 32 => exact (congrArg some st_32).trans (mk_get (tl32 hTL0)).symm
  | 33 => exact (congrArg some st_33).trans (mk_get (tl33 hTL0)).symm
  | 34 => exact (congrArg some st_34).trans (mk_get (tl34 hTL0)).symm
  | 35 => exact (congrArg some st_35).trans (mk_get (tl35 hTL0)).symm
  | 36 => exact (congrArg some st_36).trans (mk_get (tl36 hTL0)).symm
  | 37 => exact (congrArg some st_37).trans (mk_get (tl37 hTL0)).symm
  | 38 => exact (congrArg some st_38).trans (mk_get (tl38 hTL0)).symm
  | 39 => exact (congrArg some st_39).trans (mk_get (tl39 hTL0)).symm
  | 40 => exact (congrArg some st_40).trans (mk_get (tl40 hTL0)).symm
  | 41 => exact (congrArg some st_41).trans (mk_get (tl41 hTL0)).symm
  | 42 => exact (congrArg some st_42).trans (mk_get (tl42 hTL0)).symm
  | 43 => exact (congrArg some st_43).trans (mk_get (tl43 hTL0)).symm
  | 44 => exact (congrArg some st_44).trans (mk_get (tl44 hTL0)).symm
  | 45 => exact (congrArg some st_45).trans (mk_get (tl45 hTL0)).symm
  | 46 => exact (congrArg some st_46).trans (mk_get (tl46 hTL0)).symm
  | 47 => exact (congrArg some st_47).trans (mk_get (tl47 hTL0)).symm
  | 48 => exact (congrArg some st_48).trans (mk_get (tl48 hTL0)).symm
  | 49 => exact (congrArg some st_49).trans (mk_get (tl49 hTL0)).symm
  | 50 => exact (congrArg some st_50).trans (mk_get (tl50 hTL0)).symm
  | 51 => exact (congrArg some st_51).trans (mk_get (tl51 hTL0)).symm
  | 52 => exact (congrArg some st_52).trans (mk_get (tl52 hTL0)).symm
  | 53 => exact (congrArg some st_53).trans (mk_get (tl53 hTL0)).symm
  | 54 => exact (congrArg some st_54).trans (mk_get (tl54 hTL0)).symm
  | 55 => exact (congrArg some st_55).trans (mk_get (tl55 hTL0)).symm
  | 56 => exact (congrArg some st_56).trans (mk_get (tl56 hTL0)).symm
  | 57 => exact (congrArg some st_57).trans (mk_get (tl57 hTL0)).symm
  | 58 => exact (congrArg some st_58).trans (mk_get (tl58 hTL0)).symm
  | 59 => exact (congrArg some st_59).trans (mk_get (tl59 hTL0)).symm
  | 60 => exact (congrArg some st_60).trans (mk_get (tl60 hTL0)).symm
  | 61 => exact (congrArg some st_61).trans (mk_get (tl61 hTL0)).symm
  | 62 => exact (congrArg some st_62).trans (mk_get (tl62 hTL0)).symm
  | 63 => exact (congrArg some st_63).trans (mk_get (tl63 hTL0)).symm
  | 64 => exact (congrArg some st_64).trans (mk_get (tl64 hTL0)).symm
  | 65 => exact (congrArg some st_65).trans (mk_get (tl65 hTL0)).symm
  | 66 => exact (congrArg some st_66).trans (mk_get (tl66 hTL0)).symm
  | 67 => exact (congrArg some st_67).trans (mk_get (tl67 hTL0)).symm
  | 68 => exact (congrArg some st_68).trans (mk_get (tl68 hTL0)).symm
  | 69 => exact (congrArg some st_69).trans (mk_get (tl69 hTL0)).symm
  | 70 => exact (congrArg some st_70).trans (mk_get (tl70 hTL0)).symm
  | 71 => exact (congrArg some st_71).trans (mk_get (tl71 hTL0)).symm
  | 72 => exact (congrArg some st_72).trans (mk_get (tl72 hTL0)).symm
  | 73 => exact (congrArg some st_73).trans (mk_get (tl73 hTL0)).symm
  | 74 => exact (congrArg some st_74).trans (mk_get (tl74 hTL0)).symm
  | 75 => exact (congrArg some st_75).trans (mk_get (tl75 hTL0)).symm
  | 76 => exact (congrArg some st_76).trans (mk_get (tl76 hTL0)).symm
  | 77 => exact (congrArg some st_77).trans (mk_get (tl77 hTL0)).symm
  | 78 => exact (congrArg some st_78).trans (mk_get (tl78 hTL0)).symm
  | 79 => exact (congrArg some st_79).trans (mk_get (tl79 hTL0)).symm
  | 80 => exact (congrArg some st_80).trans (mk_get (tl80 hTL0)).symm
  | 81 => exact (congrArg some st_81).trans (mk_get (tl81 hTL0)).symm
  | 82 => exact (congrArg some st_82).trans (mk_get (tl82 hTL0)).symm
  | 83 => exact (congrArg some st_83).trans (mk_get (tl83 hTL0)).symm
  | 84 => exact (congrArg some st_84).trans (mk_get (tl84 hTL0)).symm
  | 85 => exact (congrArg some st_85).trans (mk_get (tl85 hTL0)).symm
  | 86 => exact (congrArg some st_86).trans (mk_get (tl86 hTL0)).symm
  | 87 => exact (congrArg some st_87).trans (mk_get (tl87 hTL0)).symm
  | 88 => exact (congrArg some st_88).trans (mk_get (tl88 hTL0)).symm
  | 89 => exact (congrArg some st_89).trans (mk_get (tl89 hTL0)).symm
  | 90 => exact (congrArg some st_90).trans (mk_get (tl90 hTL0)).symm
  | 91 => exact (congrArg some st_91).trans (mk_get (tl91 hTL0)).symm
  | 92 => exact (congrArg some st_92).trans (mk_get (tl92 hTL0)).symm
  | 93 => exact (congrArg some st_93).trans (mk_get (tl93 hTL0)).symm
  | 94 => exact (congrArg some st_94).trans (mk_get (tl94 hTL0)).symm
  | 95 => exact (congrArg some st_95).trans (mk_get (tl95 hTL0)).symm
  | 96 => exact (congrArg some st_96).trans (mk_get (tl96 hTL0)).symm
  | 97 => exact (congrArg some st_97).trans (mk_get (tl97 hTL0)).symm
  | 98 => exact (congrArg some st_98).trans (mk_get (tl98 hTL0)).symm
  | 99 => exact (congrArg some st_99).trans (mk_get (tl99 hTL0)).symm
  | 100 => exact (congrArg some st_100).trans (mk_get (tl100 hTL0)).symm
  | 101 => exact (congrArg some st_101).trans (mk_get (tl101 hTL0)).symm
  | 102 => exact (congrArg some st_102).trans (mk_get (tl102 hTL0)).symm
  | 103 => exact (congrArg some st_103).trans (mk_get (tl103 hTL0)).symm
  | 104 => exact (congrArg some st_104).trans (mk_get (tl104 hTL0)).symm
  | 105 => exact (congrArg some st_105).trans (mk_get (tl105 hTL0)).symm
  | 106 => exact (congrArg some st_106).trans (mk_get (tl106 hTL0)).symm
  | 107 => exact (congrArg some st_107).trans (mk_get (tl107 hTL0)).symm
  | 108 => exact (congrArg some st_108).trans (mk_get (tl108 hTL0)).symm
  | 109 => exact (congrArg some st_109).trans (mk_get (tl109 hTL0)).symm
  | 110 => exact (congrArg some st_110).trans (mk_get (tl110 hTL0)).symm
  | 111 => exact (congrArg some st_111).trans (mk_get (tl111 hTL0)).symm
  | 112 => exact (congrArg some st_112).trans (mk_get (tl112 hTL0)).symm
  | 113 => exact (congrArg some st_113).trans (mk_get (tl113 hTL0)).symm
  | 114 => exact (congrArg some st_114).trans (mk_get (tl114 hTL0)).symm
  | 115 => exact (congrArg some st_115).trans (mk_get (tl115 hTL0)).symm
  | 116 => exact (congrArg some st_116).trans (mk_get (tl116 hTL0)).symm
  | 117 => exact (congrArg some st_117).trans (mk_get (tl117 hTL0)).symm
  | 118 => exact (congrArg some st_118).trans (mk_get (tl118 hTL0)).symm
  | 119 => exact (congrArg some st_119).trans (mk_get (tl119 hTL0)).symm
  | 120 => exact (congrArg some st_120).trans (mk_get (tl120 hTL0)).symm
  | 121 => exact (congrArg some st_121).trans (mk_get (tl121 hTL0)).symm
  | 122 => exact (congrArg some st_122).trans (mk_get (tl122 hTL0)).symm
  | 123 => exact (congrArg some st_123).trans (mk_get (tl123 hTL0)).symm
  | 124 => exact (congrArg some st_124).trans (mk_get (tl124 hTL0)).symm
  | 125 => exact (congrArg some st_125).trans (mk_get (tl125 hTL0)).symm
  | 126 => exact (congrArg some st_126).trans (mk_get (tl126 hTL0)).symm
  | 127 => exact (congrArg some st_127).trans (mk_get (tl127 hTL0)).symm
  | 128 => exact (congrArg some st_128).trans (mk_get (tl128 hTL0)).symm
  | 129 => exact (congrArg some st_129).trans (mk_get (tl129 hTL0)).symm
  | 130 => exact (congrArg some st_130).trans (mk_get (tl130 hTL0)).symm
  | 131 => exact (congrArg some st_131).trans (mk_get (tl131 hTL0)).symm
  | 132 => exact (congrArg some st_132).trans (mk_get (tl132 hTL0)).symm
  | 133 => exact (congrArg some st_133).trans (mk_get (tl133 hTL0)).symm
  | 134 => exact (congrArg some st_134).trans (mk_get (tl134 hTL0)).symm
  | 135 => exact (congrArg some st_135).trans (mk_get (tl135 hTL0)).symm
  | 136 => exact (congrArg some st_136).trans (mk_get (tl136 hTL0)).symm
  | 137 => exact (congrArg some st_137).trans (mk_get (tl137 hTL0)).symm
  | 138 => exact (congrArg some st_138).trans (mk_get (tl138 hTL0)).symm
  | 139 => exact (congrArg some st_139).trans (mk_get (tl139 hTL0)).symm
  | 140 => exact (congrArg some st_140).trans (mk_get (tl140 hTL0)).symm
  | 141 => exact (congrArg some st_141).trans (mk_get (tl141 hTL0)).symm
  | 142 => exact (congrArg some st_142).trans (mk_get (tl142 hTL0)).symm
  | 143 => exact (congrArg some st_143).trans (mk_get (tl143 hTL0)).symm
  | 144 => exact (congrArg some st_144).trans (mk_get (tl144 hTL0)).symm
  | 145 => exact (congrArg some st_145).trans (mk_get (tl145 hTL0)).symm
  | 146 => exact (congrArg some st_146).trans (mk_get (tl146 hTL0)).symm
  | 147 => exact (congrArg some st_147).trans (mk_get (tl147 hTL0)).symm
  | 148 => exact (congrArg some st_148).trans (mk_get (tl148 hTL0)).symm
  | 149 => exact (congrArg some st_149).trans (mk_get (tl149 hTL0)).symm
  | 150 => exact (congrArg some st_150).trans (mk_get (tl150 hTL0)).symm
  | 151 => exact (congrArg some st_151).trans (mk_get (tl151 hTL0)).symm
  | 152 => exact (congrArg some st_152).trans (mk_get (tl152 hTL0)).symm
  | 153 => exact (congrArg some st_153).trans (mk_get (tl153 hTL0)).symm
  | 154 => exact (congrArg some st_154).trans (mk_get (tl154 hTL0)).symm
  | 155 => exact (congrArg some st_155).trans (mk_get (tl155 hTL0)).symm
  | 156 => exact (congrArg some st_156).trans (mk_get (tl156 hTL0)).symm
  | 157 => exact (congrArg some st_157).trans (mk_get (tl157 hTL0)).symm
  | 158 => exact (congrArg some st_158).trans (mk_get (tl158 hTL0)).symm
  | 159 => exact (congrArg some st_159).trans (mk_get (tl159 hTL0)).symm
  | 160 => exact (congrArg some st_160).trans (mk_get (tl160 hTL0)).symm
  | 161 => exact (congrArg some st_161).trans (mk_get (tl161 hTL0)).symm
  | 162 => exact (congrArg some st_162).trans (mk_get (tl162 hTL0)).symm
  | 163 => exact (congrArg some st_163).trans (mk_get (tl163 hTL0)).symm
  | 164 => exact (congrArg some st_164).trans (mk_get (tl164 hTL0)).symm
  | 165 => exact (congrArg some st_165).trans (mk_get (tl165 hTL0)).symm
  | 166 => exact (congrArg some st_166).trans (mk_get (tl166 hTL0)).symm
  | 167 => exact (congrArg some st_167).trans (mk_get (tl167 hTL0)).symm
  | 168 => exact (congrArg some st_168).trans (mk_get (tl168 hTL0)).symm
  | a + 169 =>
    have e1 : H0s[a + 169]? = none := List.getElem?_eq_none (by rw [H0s_len]; omega)
    exact e1.trans (List.getElem?_eq_none (by rw [mk_len]; omega)).symm
theorem IV_st : IV BB m0s := by
  intro a i
  unfold m0s
  split
  · rename_i h
    rcases h with ⟨rfl, rfl⟩ | ⟨rfl, rfl⟩ <;> exact ⟨by decide, by decide⟩
  · exact ⟨by rw [Int32.toInt_zero]; exact (BB_0 a i).1, by rw [Int32.toInt_zero]; exact (BB_0 a i).2⟩
theorem RX_st : RX TL r0s 77 88 := by
  refine ⟨fun b hb => ?_, fun i hi => ?_, rfl, rfl, law77 hTL0, law88 hTL0⟩
  · unfold r0s; rw [if_pos (by omega), show 3000 + b - 3000 = b by omega]
  · unfold r0s; rw [if_neg (by omega), if_pos (by omega), show 60000 + i - 60000 = i by omega]
theorem LX_st : LX m0s := by
  intro q hq
  have : (m0s 123 20).toInt = 0 := by decide
  omega
theorem EQ_w : EQW m0s := by
  refine ⟨⟨by decide, by decide, by decide, fun j hj => ?_⟩, fun i hi => ?_, fun b hb => ?_⟩
  · have : (m0s 1 1).toInt = 0 := by decide
    omega
  · have e : ∀ a j, a ≠ 0 → a ≠ 123 → m0s a j = 0 := fun a j h1 h2 => by unfold m0s; rw [if_neg (by omega)]
    have z : m0s 126 i = 0 := e _ _ (by omega) (by omega)
    refine ⟨by rw [z, e _ _ (by omega) (by omega)], fun k hk => by rw [z, Int32.toInt_zero] at hk; omega, ?_⟩
    rw [z, show m0s 123 4 = 0 from by decide, amv_bit _ (by omega)]
    simp
  · have : (m0s 0 2).toInt = 0 := by decide
    omega
theorem EQA_st : EQA 77 88 m0s := by
  have e : ∀ a j, a ≠ 0 → a ≠ 123 → m0s a j = 0 := fun a j h1 h2 => by unfold m0s; rw [if_neg (by omega)]
  have c0 : (m0s 0 2).toInt = 0 := by decide
  have z97 : (m0s 97 6).toInt = 0 := by rw [e _ _ (by omega) (by omega)]; decide
  have z77 : (m0s 77 7).toInt = 0 := by rw [e _ _ (by omega) (by omega)]; decide
  have z20 : (m0s 123 20).toInt = 0 := by decide
  have z3 : (m0s 123 3).toInt = 0 := by decide
  exact ⟨EQ_w, fun b w hb hw => by rw [e _ _ (by omega) (by omega), e _ _ (by omega) (by omega)], fun b hb => by omega, ⟨by omega, fun i hi => by omega⟩, fun i hi => by omega, ⟨fun _ => 0, fun c hc => by omega, fun c hc => by omega, by omega⟩, by decide, by decide⟩
theorem EQ_st : EQ r0s m0s := EQ_of RX_st EQA_st
theorem ST_st : ST TL r0s m0s 11 57200 := ⟨IV_st, ⟨77, 88, RX_st⟩, LX_st, hTL0, Or.inl ⟨rfl, rfl, rfl, rfl⟩, EQ_st⟩
theorem law_all (g : pv_G) {b LL : Nat} {xs : Nat → Int32} (hLL : LL ≤ 3072) : PV (some (b, LL, xs)) g mL_law (fun r _ => r = some (.int 1)) 30 180 140744 0 [.retAddr (b + 1), pv_U, pv_U, pv_U] [] [] := by
  refine law_head g (h0 := []) (n := 0) rfl ?_
  rw [mk_st]
  exact law_loop g hLL 4001 0 TL m0s n0s r0s 11 57200 (by decide) (by decide) (by decide) ST_st
