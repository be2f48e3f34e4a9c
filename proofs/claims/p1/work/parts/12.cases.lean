set_option maxHeartbeats 4000000 in
set_option maxRecDepth 20000 in
theorem law_c0 (g : pv_G) {b : Nat} {xs : Nat → Int32} {h : List pv_C} (e0 : h[0]? = some (pv_o 11 [.ref 1, .ref 3, .int 0, .ref 60, .ref 77, .ref 86, .ref 97, .int 0, .int 1, .ref 104, .ref 107, .ref 112, .null, .ref 116, .ref 120, .ref 121, .ref 122])) (e123 : h[123]? = some (pv_o 12 [.int 0, .int 0, .int 1, .int 0, .int 0, .ref 124, .ref 125, .ref 126, .ref 127, .ref 128, .ref 129, .int 0, .int 0, .int 0, .int 0, .int 0, .int 0, .int 0, .int 0, .int 0, .int 0, .ref 130, .ref 131, .ref 132, .ref 133, .ref 134, .ref 135, .ref 136, .ref 137, .ref 138, .ref 139, .ref 140, .ref 141, .ref 142, .ref 143, .ref 144, .ref 145, .ref 146, .ref 147, .ref 148, .int 0, .int 0, .ref 149, .ref 150, .ref 151, .ref 152, .ref 153, .ref 154, .ref 155, .ref 156, .int 0, .ref 157, .ref 158, .ref 159, .ref 160, .ref 161, .ref 162, .ref 163, .ref 164, .ref 165, .ref 166, .int 0, .ref 167, .ref 168])) : PV (some (b, 6, xs)) g mL_law (fun r _ => r = some (.int 1)) 20 0 0 164 [.retAddr (b + 1), .ref 0, .ref 123, .int 0] [] h := by
  refine pv_aload_n (M := mL_law) 1 dL_law_164 165 rfl rfl rfl ?_
  refine pv_aloadS_n (M := mL_law) 0 dL_law_165 166 rfl rfl rfl ?_
  refine pv_iload_n (M := mL_law) 3 dL_law_166 167 rfl rfl rfl ?_
  refine pv_iconst (M := mL_law) (v := 1) dL_law_167 168 rfl (by decide) ?_
  refine pv_iadd (M := mL_law) (v := 1) dL_law_168 169 rfl (by decide) ?_
  refine pv_sld (M := mL_law) dL_law_169 (pv_in0 (by decide)) (v := xs 1) rfl 170 rfl ?_
  refine pv_callv (M := mL_law) (as := [.int (xs 1)]) (st := []) (kc2 := 0) (ks2 := 0) dL_law_170 wd459 YX11_day ⟨wd460, wd461⟩ e0 rfl rfl (k_X11_day g (xs 1) e0) rfl rfl (Nat.le_of_ble_eq_true rfl) (by decide) rfl rfl 173 rfl (pv_k1 ?_)
  by_cases c1 : (xs 1) < 0
  · refine pv_top (M := mL_law) (if_pos c1) ?_
    refine pv_hp (M := mL_law) (if_pos c1) ?_
    refine pv_aload_n (M := mL_law) 2 dL_law_173 174 rfl rfl rfl ?_
    refine pv_aloadS_n (M := mL_law) 0 dL_law_174 175 rfl rfl rfl ?_
    refine pv_iload_n (M := mL_law) 3 dL_law_175 176 rfl rfl rfl ?_
    refine pv_iconst (M := mL_law) (v := 1) dL_law_176 177 rfl (by decide) ?_
    refine pv_iadd (M := mL_law) (v := 1) dL_law_177 178 rfl (by decide) ?_
    refine pv_sld (M := mL_law) dL_law_178 (pv_in0 (by decide)) (v := xs 1) rfl 179 rfl ?_
    refine pv_callv (M := mL_law) (as := [.int (xs 1)]) (st := [.int 0]) (kc2 := 0) (ks2 := 0) dL_law_179 wd1366 YX12_day ⟨wd1367, wd1368⟩ e123 rfl rfl (k_X12_day g (xs 1) e123) rfl rfl (Nat.le_of_ble_eq_true rfl) (by decide) rfl rfl 182 rfl (pv_k1 ?_)
    by_cases c2 : (xs 1) < 0
    · refine pv_top (M := mL_law) (if_pos c2) ?_
      refine pv_hp (M := mL_law) (if_pos c2) ?_
      refine pv_icmp_eq (M := mL_law) (tgt := 1195) dL_law_182 185 rfl (by decide) (fun _ => ?_) (fun q => absurd (by decide) q)
      refine pv_iinc (M := mL_law) (v := 6) (lo2 := [.retAddr (b + 1), .ref 0, .ref 123, .int 6]) dL_law_1195 1198 rfl rfl (by decide) (by decide) rfl rfl ?_
      refine pv_goto (M := mL_law) (tgt := 18) dL_law_1198 (by decide) ?_
      refine pv_iload_n (M := mL_law) 3 dL_law_18 19 rfl rfl rfl ?_
      refine pv_aloadS_n (M := mL_law) 0 dL_law_19 20 rfl rfl rfl ?_
      refine pv_slen (M := mL_law) dL_law_20 21 rfl ?_
      refine pv_top (M := mL_law) (y := 6) (by decide) ?_
      refine pv_bipush (M := mL_law) (v := 6) dL_law_21 23 rfl (by decide) ?_
      refine pv_isub (M := mL_law) (v := 0) dL_law_23 24 rfl (by decide) ?_
      refine pv_icmp_gt (M := mL_law) (tgt := 1201) dL_law_24 27 rfl (by decide) (fun _ => ?_) (fun q => absurd (by decide) q)
      refine pv_iconst (M := mL_law) (v := 1) dL_law_1201 1202 rfl (by decide) ?_
      exact pv_iret (M := mL_law) dL_law_1202 rfl rfl rfl
    · exact absurd (Int.le_trans (pv_b2 c2) (pv_b1 c1)) (by decide)
  · refine pv_top (M := mL_law) (if_neg c1) ?_
    refine pv_hp (M := mL_law) (if_neg c1) ?_
    by_cases c3 : (xs 1) < 1000
    · refine pv_top (M := mL_law) (if_pos c3) ?_
      refine pv_hp (M := mL_law) (if_pos c3) ?_
      refine pv_aload_n (M := mL_law) 2 dL_law_173 174 rfl rfl rfl ?_
      refine pv_aloadS_n (M := mL_law) 0 dL_law_174 175 rfl rfl rfl ?_
      refine pv_iload_n (M := mL_law) 3 dL_law_175 176 rfl rfl rfl ?_
      refine pv_iconst (M := mL_law) (v := 1) dL_law_176 177 rfl (by decide) ?_
      refine pv_iadd (M := mL_law) (v := 1) dL_law_177 178 rfl (by decide) ?_
      refine pv_sld (M := mL_law) dL_law_178 (pv_in0 (by decide)) (v := xs 1) rfl 179 rfl ?_
      refine pv_callv (M := mL_law) (as := [.int (xs 1)]) (st := [.int 1]) (kc2 := 0) (ks2 := 0) dL_law_179 wd1366 YX12_day ⟨wd1367, wd1368⟩ (pv_sn (by decide) e123) rfl rfl (k_X12_day_2 g (xs 1) (pv_sn (by decide) e123)) rfl rfl (Nat.le_of_ble_eq_true rfl) (by decide) rfl rfl 182 rfl (pv_k1 ?_)
      by_cases c4 : (xs 1) < 0
      · exact absurd (Int.le_trans (pv_b2 c1) (pv_b1 c4)) (by decide)
      · refine pv_top (M := mL_law) (if_neg c4) ?_
        refine pv_hp (M := mL_law) (if_neg c4) ?_
        by_cases c5 : 999 < (xs 1)
        · exact absurd (Int.le_trans (pv_b5 c5) (pv_b1 c3)) (by decide)
        · refine pv_top (M := mL_law) (if_neg c5) ?_
          refine pv_hp (M := mL_law) (if_neg c5) ?_
          refine pv_icmp_eq (M := mL_law) (tgt := 1195) dL_law_182 185 rfl (by decide) (fun _ => ?_) (fun q => absurd (by decide) q)
          refine pv_iinc (M := mL_law) (v := 6) (lo2 := [.retAddr (b + 1), .ref 0, .ref 123, .int 6]) dL_law_1195 1198 rfl rfl (by decide) (by decide) rfl rfl ?_
          refine pv_goto (M := mL_law) (tgt := 18) dL_law_1198 (by decide) ?_
          refine pv_iload_n (M := mL_law) 3 dL_law_18 19 rfl rfl rfl ?_
          refine pv_aloadS_n (M := mL_law) 0 dL_law_19 20 rfl rfl rfl ?_
          refine pv_slen (M := mL_law) dL_law_20 21 rfl ?_
          refine pv_top (M := mL_law) (y := 6) (by decide) ?_
          refine pv_bipush (M := mL_law) (v := 6) dL_law_21 23 rfl (by decide) ?_
          refine pv_isub (M := mL_law) (v := 0) dL_law_23 24 rfl (by decide) ?_
          refine pv_icmp_gt (M := mL_law) (tgt := 1201) dL_law_24 27 rfl (by decide) (fun _ => ?_) (fun q => absurd (by decide) q)
          refine pv_iconst (M := mL_law) (v := 1) dL_law_1201 1202 rfl (by decide) ?_
          exact pv_iret (M := mL_law) dL_law_1202 rfl rfl rfl
    · refine pv_top (M := mL_law) (if_neg c3) ?_
      refine pv_hp (M := mL_law) (if_neg c3) ?_
      refine pv_aload_n (M := mL_law) 2 dL_law_173 174 rfl rfl rfl ?_
      refine pv_aloadS_n (M := mL_law) 0 dL_law_174 175 rfl rfl rfl ?_
      refine pv_iload_n (M := mL_law) 3 dL_law_175 176 rfl rfl rfl ?_
      refine pv_iconst (M := mL_law) (v := 1) dL_law_176 177 rfl (by decide) ?_
      refine pv_iadd (M := mL_law) (v := 1) dL_law_177 178 rfl (by decide) ?_
      refine pv_sld (M := mL_law) dL_law_178 (pv_in0 (by decide)) (v := xs 1) rfl 179 rfl ?_
      refine pv_callv (M := mL_law) (as := [.int (xs 1)]) (st := [.int 0]) (kc2 := 0) (ks2 := 0) dL_law_179 wd1366 YX12_day ⟨wd1367, wd1368⟩ e123 rfl rfl (k_X12_day g (xs 1) e123) rfl rfl (Nat.le_of_ble_eq_true rfl) (by decide) rfl rfl 182 rfl (pv_k1 ?_)
      by_cases c6 : (xs 1) < 0
      · exact absurd (Int.le_trans (pv_b2 c3) (pv_b1 c6)) (by decide)
      · refine pv_top (M := mL_law) (if_neg c6) ?_
        refine pv_hp (M := mL_law) (if_neg c6) ?_
        by_cases c7 : 999 < (xs 1)
        · refine pv_top (M := mL_law) (if_pos c7) ?_
          refine pv_hp (M := mL_law) (if_pos c7) ?_
          refine pv_icmp_eq (M := mL_law) (tgt := 1195) dL_law_182 185 rfl (by decide) (fun _ => ?_) (fun q => absurd (by decide) q)
          refine pv_iinc (M := mL_law) (v := 6) (lo2 := [.retAddr (b + 1), .ref 0, .ref 123, .int 6]) dL_law_1195 1198 rfl rfl (by decide) (by decide) rfl rfl ?_
          refine pv_goto (M := mL_law) (tgt := 18) dL_law_1198 (by decide) ?_
          refine pv_iload_n (M := mL_law) 3 dL_law_18 19 rfl rfl rfl ?_
          refine pv_aloadS_n (M := mL_law) 0 dL_law_19 20 rfl rfl rfl ?_
          refine pv_slen (M := mL_law) dL_law_20 21 rfl ?_
          refine pv_top (M := mL_law) (y := 6) (by decide) ?_
          refine pv_bipush (M := mL_law) (v := 6) dL_law_21 23 rfl (by decide) ?_
          refine pv_isub (M := mL_law) (v := 0) dL_law_23 24 rfl (by decide) ?_
          refine pv_icmp_gt (M := mL_law) (tgt := 1201) dL_law_24 27 rfl (by decide) (fun _ => ?_) (fun q => absurd (by decide) q)
          refine pv_iconst (M := mL_law) (v := 1) dL_law_1201 1202 rfl (by decide) ?_
          exact pv_iret (M := mL_law) dL_law_1202 rfl rfl rfl
        · exact absurd (Int.le_trans (pv_b2 c3) (pv_b6 c7)) (by decide)

set_option maxHeartbeats 4000000 in
set_option maxRecDepth 20000 in
theorem law_c1 (g : pv_G) {b : Nat} {xs : Nat → Int32} {h : List pv_C} (e0 : h[0]? = some (pv_o 11 [.ref 1, .ref 3, .int 0, .ref 60, .ref 77, .ref 86, .ref 97, .int 0, .int 1, .ref 104, .ref 107, .ref 112, .null, .ref 116, .ref 120, .ref 121, .ref 122])) (e1 : h[1]? = some (pv_o 10 [.ref 2, .int 0])) (e2 : h[2]? = some (pv_i 200 (fun _ => 0))) (e123 : h[123]? = some (pv_o 12 [.int 0, .int 0, .int 1, .int 0, .int 0, .ref 124, .ref 125, .ref 126, .ref 127, .ref 128, .ref 129, .int 0, .int 0, .int 0, .int 0, .int 0, .int 0, .int 0, .int 0, .int 0, .int 0, .ref 130, .ref 131, .ref 132, .ref 133, .ref 134, .ref 135, .ref 136, .ref 137, .ref 138, .ref 139, .ref 140, .ref 141, .ref 142, .ref 143, .ref 144, .ref 145, .ref 146, .ref 147, .ref 148, .int 0, .int 0, .ref 149, .ref 150, .ref 151, .ref 152, .ref 153, .ref 154, .ref 155, .ref 156, .int 0, .ref 157, .ref 158, .ref 159, .ref 160, .ref 161, .ref 162, .ref 163, .ref 164, .ref 165, .ref 166, .int 0, .ref 167, .ref 168])) (e129 : h[129]? = some (pv_b 200 (fun _ => 0))) : PV (some (b, 6, xs)) g mL_law (fun r _ => r = some (.int 1)) 20 0 0 187 [.retAddr (b + 1), .ref 0, .ref 123, .int 0] [] h := by
  refine pv_aload_n (M := mL_law) 1 dL_law_187 188 rfl rfl rfl ?_
  refine pv_aloadS_n (M := mL_law) 0 dL_law_188 189 rfl rfl rfl ?_
  refine pv_iload_n (M := mL_law) 3 dL_law_189 190 rfl rfl rfl ?_
  refine pv_iconst (M := mL_law) (v := 1) dL_law_190 191 rfl (by decide) ?_
  refine pv_iadd (M := mL_law) (v := 1) dL_law_191 192 rfl (by decide) ?_
  refine pv_sld (M := mL_law) dL_law_192 (pv_in0 (by decide)) (v := xs 1) rfl 193 rfl ?_
  refine pv_aloadS_n (M := mL_law) 0 dL_law_193 194 rfl rfl rfl ?_
  refine pv_iload_n (M := mL_law) 3 dL_law_194 195 rfl rfl rfl ?_
  refine pv_iconst (M := mL_law) (v := 2) dL_law_195 196 rfl (by decide) ?_
  refine pv_iadd (M := mL_law) (v := 2) dL_law_196 197 rfl (by decide) ?_
  refine pv_sld (M := mL_law) dL_law_197 (pv_in0 (by decide)) (v := xs 2) rfl 198 rfl ?_
  refine pv_aloadS_n (M := mL_law) 0 dL_law_198 199 rfl rfl rfl ?_
  refine pv_iload_n (M := mL_law) 3 dL_law_199 200 rfl rfl rfl ?_
  refine pv_iconst (M := mL_law) (v := 3) dL_law_200 201 rfl (by decide) ?_
  refine pv_iadd (M := mL_law) (v := 3) dL_law_201 202 rfl (by decide) ?_
  refine pv_sld (M := mL_law) dL_law_202 (pv_in0 (by decide)) (v := xs 3) rfl 203 rfl ?_
  refine pv_aloadS_n (M := mL_law) 0 dL_law_203 204 rfl rfl rfl ?_
  refine pv_iload_n (M := mL_law) 3 dL_law_204 205 rfl rfl rfl ?_
  refine pv_iconst (M := mL_law) (v := 4) dL_law_205 206 rfl (by decide) ?_
  refine pv_iadd (M := mL_law) (v := 4) dL_law_206 207 rfl (by decide) ?_
  refine pv_sld (M := mL_law) dL_law_207 (pv_in0 (by decide)) (v := xs 4) rfl 208 rfl ?_
  refine pv_aloadS_n (M := mL_law) 0 dL_law_208 209 rfl rfl rfl ?_
  refine pv_iload_n (M := mL_law) 3 dL_law_209 210 rfl rfl rfl ?_
  refine pv_iconst (M := mL_law) (v := 5) dL_law_210 211 rfl (by decide) ?_
  refine pv_iadd (M := mL_law) (v := 5) dL_law_211 212 rfl (by decide) ?_
  refine pv_sld (M := mL_law) dL_law_212 (pv_in0 (by decide)) (v := xs 5) rfl 213 rfl ?_
  refine pv_callv (M := mL_law) (as := [.int (xs 1), .int (xs 2), .int (xs 3), .int (xs 4), .int (xs 5)]) (st := []) (kc2 := 0) (ks2 := 0) dL_law_213 wd463 YX11_feed ⟨wd464, wd465⟩ e0 rfl rfl (k_X11_feed g (xs 1) (xs 2) (xs 3) (xs 4) (xs 5) e0 e1 e2) rfl rfl (Nat.le_of_ble_eq_true rfl) (by decide) rfl rfl 216 rfl (pv_k1 ?_)
  refine pv_aload_n (M := mL_law) 2 dL_law_216 217 rfl rfl rfl ?_
  refine pv_aloadS_n (M := mL_law) 0 dL_law_217 218 rfl rfl rfl ?_
  refine pv_iload_n (M := mL_law) 3 dL_law_218 219 rfl rfl rfl ?_
  refine pv_iconst (M := mL_law) (v := 1) dL_law_219 220 rfl (by decide) ?_
  refine pv_iadd (M := mL_law) (v := 1) dL_law_220 221 rfl (by decide) ?_
  refine pv_sld (M := mL_law) dL_law_221 (pv_in0 (by decide)) (v := xs 1) rfl 222 rfl ?_
  refine pv_aloadS_n (M := mL_law) 0 dL_law_222 223 rfl rfl rfl ?_
  refine pv_iload_n (M := mL_law) 3 dL_law_223 224 rfl rfl rfl ?_
  refine pv_iconst (M := mL_law) (v := 2) dL_law_224 225 rfl (by decide) ?_
  refine pv_iadd (M := mL_law) (v := 2) dL_law_225 226 rfl (by decide) ?_
  refine pv_sld (M := mL_law) dL_law_226 (pv_in0 (by decide)) (v := xs 2) rfl 227 rfl ?_
  refine pv_aloadS_n (M := mL_law) 0 dL_law_227 228 rfl rfl rfl ?_
  refine pv_iload_n (M := mL_law) 3 dL_law_228 229 rfl rfl rfl ?_
  refine pv_iconst (M := mL_law) (v := 3) dL_law_229 230 rfl (by decide) ?_
  refine pv_iadd (M := mL_law) (v := 3) dL_law_230 231 rfl (by decide) ?_
  refine pv_sld (M := mL_law) dL_law_231 (pv_in0 (by decide)) (v := xs 3) rfl 232 rfl ?_
  refine pv_aloadS_n (M := mL_law) 0 dL_law_232 233 rfl rfl rfl ?_
  refine pv_iload_n (M := mL_law) 3 dL_law_233 234 rfl rfl rfl ?_
  refine pv_iconst (M := mL_law) (v := 4) dL_law_234 235 rfl (by decide) ?_
  refine pv_iadd (M := mL_law) (v := 4) dL_law_235 236 rfl (by decide) ?_
  refine pv_sld (M := mL_law) dL_law_236 (pv_in0 (by decide)) (v := xs 4) rfl 237 rfl ?_
  refine pv_aloadS_n (M := mL_law) 0 dL_law_237 238 rfl rfl rfl ?_
  refine pv_iload_n (M := mL_law) 3 dL_law_238 239 rfl rfl rfl ?_
  refine pv_iconst (M := mL_law) (v := 5) dL_law_239 240 rfl (by decide) ?_
  refine pv_iadd (M := mL_law) (v := 5) dL_law_240 241 rfl (by decide) ?_
  refine pv_sld (M := mL_law) dL_law_241 (pv_in0 (by decide)) (v := xs 5) rfl 242 rfl ?_
  refine pv_callv (M := mL_law) (as := [.int (xs 1), .int (xs 2), .int (xs 3), .int (xs 4), .int (xs 5)]) (st := [.int 20]) (kc2 := 0) (ks2 := 0) dL_law_242 wd1401 YX12_feed ⟨wd1402, wd1403⟩ (pv_sn (by decide) (pv_sn (by decide) (pv_sn (by decide) (pv_sn (by decide) (pv_sn (by decide) (pv_sn (by decide) (pv_sn (by decide) (pv_sn (by decide) (pv_sn (by decide) (pv_sn (by decide) (pv_sn (by decide) (pv_sn (by decide) (pv_sn (by decide) (pv_sn (by decide) (pv_sn (by decide) (pv_sn (by decide) (pv_sn (by decide) (pv_sn (by decide) (pv_sn (by decide) (pv_sn (by decide) (pv_sn (by decide) (pv_sn (by decide) (pv_sn (by decide) (pv_sn (by decide) (pv_sn (by decide) (pv_sn (by decide) (pv_sn (by decide) (pv_sn (by decide) (pv_sn (by decide) (pv_sn (by decide) (pv_sn (by decide) (pv_sn (by decide) (pv_sn (by decide) (pv_sn (by decide) (pv_sn (by decide) (pv_sn (by decide) (pv_sn (by decide) (pv_sn (by decide) (pv_sn (by decide) (pv_sn (by decide) e123)))))))))))))))))))))))))))))))))))))))) rfl rfl (k_X12_feed_2 g (xs 1) (xs 2) (xs 3) (xs 4) (xs 5) (pv_sn (by decide) (pv_sn (by decide) (pv_sn (by decide) (pv_sn (by decide) (pv_sn (by decide) (pv_sn (by decide) (pv_sn (by decide) (pv_sn (by decide) (pv_sn (by decide) (pv_sn (by decide) (pv_sn (by decide) (pv_sn (by decide) (pv_sn (by decide) (pv_sn (by decide) (pv_sn (by decide) (pv_sn (by decide) (pv_sn (by decide) (pv_sn (by decide) (pv_sn (by decide) (pv_sn (by decide) (pv_sn (by decide) (pv_sn (by decide) (pv_sn (by decide) (pv_sn (by decide) (pv_sn (by decide) (pv_sn (by decide) (pv_sn (by decide) (pv_sn (by decide) (pv_sn (by decide) (pv_sn (by decide) (pv_sn (by decide) (pv_sn (by decide) (pv_sn (by decide) (pv_sn (by decide) (pv_sn (by decide) (pv_sn (by decide) (pv_sn (by decide) (pv_sn (by decide) (pv_sn (by decide) (pv_sn (by decide) e123)))))))))))))))))))))))))))))))))))))))) (pv_sn (by decide) (pv_sn (by decide) (pv_sn (by decide) (pv_sn (by decide) (pv_sn (by decide) (pv_sn (by decide) (pv_sn (by decide) (pv_sn (by decide) (pv_sn (by decide) (pv_sn (by decide) (pv_sn (by decide) (pv_sn (by decide) (pv_sn (by decide) (pv_sn (by decide) (pv_sn (by decide) (pv_sn (by decide) (pv_sn (by decide) (pv_sn (by decide) (pv_sn (by decide) (pv_sn (by decide) (pv_sn (by decide) (pv_sn (by decide) (pv_sn (by decide) (pv_sn (by decide) (pv_sn (by decide) (pv_sn (by decide) (pv_sn (by decide) (pv_sn (by decide) (pv_sn (by decide) (pv_sn (by decide) (pv_sn (by decide) (pv_sn (by decide) (pv_sn (by decide) (pv_sn (by decide) (pv_sn (by decide) (pv_sn (by decide) (pv_sn (by decide) (pv_sn (by decide) (pv_sn (by decide) (pv_sn (by decide) e129))))))))))))))))))))))))))))))))))))))))) rfl rfl (Nat.le_of_ble_eq_true rfl) (by decide) rfl rfl 245 rfl (pv_k1 ?_)
  refine pv_icmp_eq (M := mL_law) (tgt := 1195) dL_law_245 248 rfl (by decide) (fun _ => ?_) (fun q => absurd (by decide) q)
  refine pv_iinc (M := mL_law) (v := 6) (lo2 := [.retAddr (b + 1), .ref 0, .ref 123, .int 6]) dL_law_1195 1198 rfl rfl (by decide) (by decide) rfl rfl ?_
  refine pv_goto (M := mL_law) (tgt := 18) dL_law_1198 (by decide) ?_
  refine pv_iload_n (M := mL_law) 3 dL_law_18 19 rfl rfl rfl ?_
  refine pv_aloadS_n (M := mL_law) 0 dL_law_19 20 rfl rfl rfl ?_
  refine pv_slen (M := mL_law) dL_law_20 21 rfl ?_
  refine pv_top (M := mL_law) (y := 6) (by decide) ?_
  refine pv_bipush (M := mL_law) (v := 6) dL_law_21 23 rfl (by decide) ?_
  refine pv_isub (M := mL_law) (v := 0) dL_law_23 24 rfl (by decide) ?_
  refine pv_icmp_gt (M := mL_law) (tgt := 1201) dL_law_24 27 rfl (by decide) (fun _ => ?_) (fun q => absurd (by decide) q)
  refine pv_iconst (M := mL_law) (v := 1) dL_law_1201 1202 rfl (by decide) ?_
  exact pv_iret (M := mL_law) dL_law_1202 rfl rfl rfl

set_option maxHeartbeats 4000000 in
set_option maxRecDepth 20000 in
theorem law_c2 (g : pv_G) {b : Nat} {xs : Nat → Int32} {h : List pv_C} (e0 : h[0]? = some (pv_o 11 [.ref 1, .ref 3, .int 0, .ref 60, .ref 77, .ref 86, .ref 97, .int 0, .int 1, .ref 104, .ref 107, .ref 112, .null, .ref 116, .ref 120, .ref 121, .ref 122])) (e1 : h[1]? = some (pv_o 10 [.ref 2, .int 0])) (e123 : h[123]? = some (pv_o 12 [.int 0, .int 0, .int 1, .int 0, .int 0, .ref 124, .ref 125, .ref 126, .ref 127, .ref 128, .ref 129, .int 0, .int 0, .int 0, .int 0, .int 0, .int 0, .int 0, .int 0, .int 0, .int 0, .ref 130, .ref 131, .ref 132, .ref 133, .ref 134, .ref 135, .ref 136, .ref 137, .ref 138, .ref 139, .ref 140, .ref 141, .ref 142, .ref 143, .ref 144, .ref 145, .ref 146, .ref 147, .ref 148, .int 0, .int 0, .ref 149, .ref 150, .ref 151, .ref 152, .ref 153, .ref 154, .ref 155, .ref 156, .int 0, .ref 157, .ref 158, .ref 159, .ref 160, .ref 161, .ref 162, .ref 163, .ref 164, .ref 165, .ref 166, .int 0, .ref 167, .ref 168])) : PV (some (b, 6, xs)) g mL_law (fun r _ => r = some (.int 1)) 20 0 0 250 [.retAddr (b + 1), .ref 0, .ref 123, .int 0] [] h := by
  refine pv_aload_n (M := mL_law) 1 dL_law_250 251 rfl rfl rfl ?_
  refine pv_aloadS_n (M := mL_law) 0 dL_law_251 252 rfl rfl rfl ?_
  refine pv_iload_n (M := mL_law) 3 dL_law_252 253 rfl rfl rfl ?_
  refine pv_iconst (M := mL_law) (v := 1) dL_law_253 254 rfl (by decide) ?_
  refine pv_iadd (M := mL_law) (v := 1) dL_law_254 255 rfl (by decide) ?_
  refine pv_sld (M := mL_law) dL_law_255 (pv_in0 (by decide)) (v := xs 1) rfl 256 rfl ?_
  refine pv_callv (M := mL_law) (as := [.int (xs 1)]) (st := []) (kc2 := 0) (ks2 := 0) dL_law_256 wd475 YX11_blank ⟨wd476, wd477⟩ e0 rfl rfl (k_X11_blank g (xs 1) e0 e1) rfl rfl (Nat.le_of_ble_eq_true rfl) (by decide) rfl rfl 259 rfl (pv_k1 ?_)
  refine pv_aload_n (M := mL_law) 2 dL_law_259 260 rfl rfl rfl ?_
  refine pv_aloadS_n (M := mL_law) 0 dL_law_260 261 rfl rfl rfl ?_
  refine pv_iload_n (M := mL_law) 3 dL_law_261 262 rfl rfl rfl ?_
  refine pv_iconst (M := mL_law) (v := 1) dL_law_262 263 rfl (by decide) ?_
  refine pv_iadd (M := mL_law) (v := 1) dL_law_263 264 rfl (by decide) ?_
  refine pv_sld (M := mL_law) dL_law_264 (pv_in0 (by decide)) (v := xs 1) rfl 265 rfl ?_
  refine pv_callv (M := mL_law) (as := [.int (xs 1)]) (st := [.int (-1)]) (kc2 := 0) (ks2 := 0) dL_law_265 wd1373 YX12_blank ⟨wd1374, wd1375⟩ e123 rfl rfl (k_X12_blank g (xs 1) e123) rfl rfl (Nat.le_of_ble_eq_true rfl) (by decide) rfl rfl 268 rfl (pv_k1 ?_)
  refine pv_icmp_eq (M := mL_law) (tgt := 1195) dL_law_268 271 rfl (by decide) (fun _ => ?_) (fun q => absurd (by decide) q)
  refine pv_iinc (M := mL_law) (v := 6) (lo2 := [.retAddr (b + 1), .ref 0, .ref 123, .int 6]) dL_law_1195 1198 rfl rfl (by decide) (by decide) rfl rfl ?_
  refine pv_goto (M := mL_law) (tgt := 18) dL_law_1198 (by decide) ?_
  refine pv_iload_n (M := mL_law) 3 dL_law_18 19 rfl rfl rfl ?_
  refine pv_aloadS_n (M := mL_law) 0 dL_law_19 20 rfl rfl rfl ?_
  refine pv_slen (M := mL_law) dL_law_20 21 rfl ?_
  refine pv_top (M := mL_law) (y := 6) (by decide) ?_
  refine pv_bipush (M := mL_law) (v := 6) dL_law_21 23 rfl (by decide) ?_
  refine pv_isub (M := mL_law) (v := 0) dL_law_23 24 rfl (by decide) ?_
  refine pv_icmp_gt (M := mL_law) (tgt := 1201) dL_law_24 27 rfl (by decide) (fun _ => ?_) (fun q => absurd (by decide) q)
  refine pv_iconst (M := mL_law) (v := 1) dL_law_1201 1202 rfl (by decide) ?_
  exact pv_iret (M := mL_law) dL_law_1202 rfl rfl rfl

set_option maxHeartbeats 4000000 in
set_option maxRecDepth 20000 in
theorem law_c3 (g : pv_G) {b : Nat} {xs : Nat → Int32} {h : List pv_C} (e0 : h[0]? = some (pv_o 11 [.ref 1, .ref 3, .int 0, .ref 60, .ref 77, .ref 86, .ref 97, .int 0, .int 1, .ref 104, .ref 107, .ref 112, .null, .ref 116, .ref 120, .ref 121, .ref 122])) (e1 : h[1]? = some (pv_o 10 [.ref 2, .int 0])) (e123 : h[123]? = some (pv_o 12 [.int 0, .int 0, .int 1, .int 0, .int 0, .ref 124, .ref 125, .ref 126, .ref 127, .ref 128, .ref 129, .int 0, .int 0, .int 0, .int 0, .int 0, .int 0, .int 0, .int 0, .int 0, .int 0, .ref 130, .ref 131, .ref 132, .ref 133, .ref 134, .ref 135, .ref 136, .ref 137, .ref 138, .ref 139, .ref 140, .ref 141, .ref 142, .ref 143, .ref 144, .ref 145, .ref 146, .ref 147, .ref 148, .int 0, .int 0, .ref 149, .ref 150, .ref 151, .ref 152, .ref 153, .ref 154, .ref 155, .ref 156, .int 0, .ref 157, .ref 158, .ref 159, .ref 160, .ref 161, .ref 162, .ref 163, .ref 164, .ref 165, .ref 166, .int 0, .ref 167, .ref 168])) : PV (some (b, 6, xs)) g mL_law (fun r _ => r = some (.int 1)) 20 0 0 273 [.retAddr (b + 1), .ref 0, .ref 123, .int 0] [] h := by
  refine pv_aload_n (M := mL_law) 1 dL_law_273 274 rfl rfl rfl ?_
  refine pv_aloadS_n (M := mL_law) 0 dL_law_274 275 rfl rfl rfl ?_
  refine pv_iload_n (M := mL_law) 3 dL_law_275 276 rfl rfl rfl ?_
  refine pv_iconst (M := mL_law) (v := 1) dL_law_276 277 rfl (by decide) ?_
  refine pv_iadd (M := mL_law) (v := 1) dL_law_277 278 rfl (by decide) ?_
  refine pv_sld (M := mL_law) dL_law_278 (pv_in0 (by decide)) (v := xs 1) rfl 279 rfl ?_
  refine pv_aloadS_n (M := mL_law) 0 dL_law_279 280 rfl rfl rfl ?_
  refine pv_iload_n (M := mL_law) 3 dL_law_280 281 rfl rfl rfl ?_
  refine pv_iconst (M := mL_law) (v := 2) dL_law_281 282 rfl (by decide) ?_
  refine pv_iadd (M := mL_law) (v := 2) dL_law_282 283 rfl (by decide) ?_
  refine pv_sld (M := mL_law) dL_law_283 (pv_in0 (by decide)) (v := xs 2) rfl 284 rfl ?_
  refine pv_callv (M := mL_law) (as := [.int (xs 1), .int (xs 2)]) (st := []) (kc2 := 0) (ks2 := 0) dL_law_284 wd496 YX11_deed ⟨wd497, wd498⟩ e0 rfl rfl (k_X11_deed g (xs 1) (xs 2) e0 e1) rfl rfl (Nat.le_of_ble_eq_true rfl) (by decide) rfl rfl 287 rfl (pv_k1 ?_)
  refine pv_aload_n (M := mL_law) 2 dL_law_287 288 rfl rfl rfl ?_
  refine pv_aloadS_n (M := mL_law) 0 dL_law_288 289 rfl rfl rfl ?_
  refine pv_iload_n (M := mL_law) 3 dL_law_289 290 rfl rfl rfl ?_
  refine pv_iconst (M := mL_law) (v := 1) dL_law_290 291 rfl (by decide) ?_
  refine pv_iadd (M := mL_law) (v := 1) dL_law_291 292 rfl (by decide) ?_
  refine pv_sld (M := mL_law) dL_law_292 (pv_in0 (by decide)) (v := xs 1) rfl 293 rfl ?_
  refine pv_aloadS_n (M := mL_law) 0 dL_law_293 294 rfl rfl rfl ?_
  refine pv_iload_n (M := mL_law) 3 dL_law_294 295 rfl rfl rfl ?_
  refine pv_iconst (M := mL_law) (v := 2) dL_law_295 296 rfl (by decide) ?_
  refine pv_iadd (M := mL_law) (v := 2) dL_law_296 297 rfl (by decide) ?_
  refine pv_sld (M := mL_law) dL_law_297 (pv_in0 (by decide)) (v := xs 2) rfl 298 rfl ?_
  refine pv_callv (M := mL_law) (as := [.int (xs 1), .int (xs 2)]) (st := [.int (-1)]) (kc2 := 0) (ks2 := 0) dL_law_298 wd1381 YX12_deed ⟨wd1382, wd1383⟩ e123 rfl rfl (k_X12_deed g (xs 1) (xs 2) e123) rfl rfl (Nat.le_of_ble_eq_true rfl) (by decide) rfl rfl 301 rfl (pv_k1 ?_)
  refine pv_icmp_eq (M := mL_law) (tgt := 1195) dL_law_301 304 rfl (by decide) (fun _ => ?_) (fun q => absurd (by decide) q)
  refine pv_iinc (M := mL_law) (v := 6) (lo2 := [.retAddr (b + 1), .ref 0, .ref 123, .int 6]) dL_law_1195 1198 rfl rfl (by decide) (by decide) rfl rfl ?_
  refine pv_goto (M := mL_law) (tgt := 18) dL_law_1198 (by decide) ?_
  refine pv_iload_n (M := mL_law) 3 dL_law_18 19 rfl rfl rfl ?_
  refine pv_aloadS_n (M := mL_law) 0 dL_law_19 20 rfl rfl rfl ?_
  refine pv_slen (M := mL_law) dL_law_20 21 rfl ?_
  refine pv_top (M := mL_law) (y := 6) (by decide) ?_
  refine pv_bipush (M := mL_law) (v := 6) dL_law_21 23 rfl (by decide) ?_
  refine pv_isub (M := mL_law) (v := 0) dL_law_23 24 rfl (by decide) ?_
  refine pv_icmp_gt (M := mL_law) (tgt := 1201) dL_law_24 27 rfl (by decide) (fun _ => ?_) (fun q => absurd (by decide) q)
  refine pv_iconst (M := mL_law) (v := 1) dL_law_1201 1202 rfl (by decide) ?_
  exact pv_iret (M := mL_law) dL_law_1202 rfl rfl rfl

set_option maxHeartbeats 4000000 in
set_option maxRecDepth 20000 in
theorem law_c4 (g : pv_G) {b : Nat} {xs : Nat → Int32} {h : List pv_C} (e0 : h[0]? = some (pv_o 11 [.ref 1, .ref 3, .int 0, .ref 60, .ref 77, .ref 86, .ref 97, .int 0, .int 1, .ref 104, .ref 107, .ref 112, .null, .ref 116, .ref 120, .ref 121, .ref 122])) (e1 : h[1]? = some (pv_o 10 [.ref 2, .int 0])) (e123 : h[123]? = some (pv_o 12 [.int 0, .int 0, .int 1, .int 0, .int 0, .ref 124, .ref 125, .ref 126, .ref 127, .ref 128, .ref 129, .int 0, .int 0, .int 0, .int 0, .int 0, .int 0, .int 0, .int 0, .int 0, .int 0, .ref 130, .ref 131, .ref 132, .ref 133, .ref 134, .ref 135, .ref 136, .ref 137, .ref 138, .ref 139, .ref 140, .ref 141, .ref 142, .ref 143, .ref 144, .ref 145, .ref 146, .ref 147, .ref 148, .int 0, .int 0, .ref 149, .ref 150, .ref 151, .ref 152, .ref 153, .ref 154, .ref 155, .ref 156, .int 0, .ref 157, .ref 158, .ref 159, .ref 160, .ref 161, .ref 162, .ref 163, .ref 164, .ref 165, .ref 166, .int 0, .ref 167, .ref 168])) : PV (some (b, 6, xs)) g mL_law (fun r _ => r = some (.int 1)) 20 0 0 306 [.retAddr (b + 1), .ref 0, .ref 123, .int 0] [] h := by
  refine pv_aload_n (M := mL_law) 1 dL_law_306 307 rfl rfl rfl ?_
  refine pv_aloadS_n (M := mL_law) 0 dL_law_307 308 rfl rfl rfl ?_
  refine pv_iload_n (M := mL_law) 3 dL_law_308 309 rfl rfl rfl ?_
  refine pv_iconst (M := mL_law) (v := 1) dL_law_309 310 rfl (by decide) ?_
  refine pv_iadd (M := mL_law) (v := 1) dL_law_310 311 rfl (by decide) ?_
  refine pv_sld (M := mL_law) dL_law_311 (pv_in0 (by decide)) (v := xs 1) rfl 312 rfl ?_
  refine pv_callv (M := mL_law) (as := [.int (xs 1)]) (st := []) (kc2 := 0) (ks2 := 0) dL_law_312 wd504 YX11_law ⟨wd505, wd506⟩ e0 rfl rfl (k_X11_law g (xs 1) e0 e1) rfl rfl (Nat.le_of_ble_eq_true rfl) (by decide) rfl rfl 315 rfl (pv_k1 ?_)
  refine pv_aload_n (M := mL_law) 2 dL_law_315 316 rfl rfl rfl ?_
  refine pv_aloadS_n (M := mL_law) 0 dL_law_316 317 rfl rfl rfl ?_
  refine pv_iload_n (M := mL_law) 3 dL_law_317 318 rfl rfl rfl ?_
  refine pv_iconst (M := mL_law) (v := 1) dL_law_318 319 rfl (by decide) ?_
  refine pv_iadd (M := mL_law) (v := 1) dL_law_319 320 rfl (by decide) ?_
  refine pv_sld (M := mL_law) dL_law_320 (pv_in0 (by decide)) (v := xs 1) rfl 321 rfl ?_
  refine pv_callv (M := mL_law) (as := [.int (xs 1)]) (st := [.int (-1)]) (kc2 := 0) (ks2 := 0) dL_law_321 wd1409 YX12_law ⟨wd1410, wd1411⟩ e123 rfl rfl (k_X12_law g (xs 1) e123) rfl rfl (Nat.le_of_ble_eq_true rfl) (by decide) rfl rfl 324 rfl (pv_k1 ?_)
  refine pv_icmp_eq (M := mL_law) (tgt := 1195) dL_law_324 327 rfl (by decide) (fun _ => ?_) (fun q => absurd (by decide) q)
  refine pv_iinc (M := mL_law) (v := 6) (lo2 := [.retAddr (b + 1), .ref 0, .ref 123, .int 6]) dL_law_1195 1198 rfl rfl (by decide) (by decide) rfl rfl ?_
  refine pv_goto (M := mL_law) (tgt := 18) dL_law_1198 (by decide) ?_
  refine pv_iload_n (M := mL_law) 3 dL_law_18 19 rfl rfl rfl ?_
  refine pv_aloadS_n (M := mL_law) 0 dL_law_19 20 rfl rfl rfl ?_
  refine pv_slen (M := mL_law) dL_law_20 21 rfl ?_
  refine pv_top (M := mL_law) (y := 6) (by decide) ?_
  refine pv_bipush (M := mL_law) (v := 6) dL_law_21 23 rfl (by decide) ?_
  refine pv_isub (M := mL_law) (v := 0) dL_law_23 24 rfl (by decide) ?_
  refine pv_icmp_gt (M := mL_law) (tgt := 1201) dL_law_24 27 rfl (by decide) (fun _ => ?_) (fun q => absurd (by decide) q)
  refine pv_iconst (M := mL_law) (v := 1) dL_law_1201 1202 rfl (by decide) ?_
  exact pv_iret (M := mL_law) dL_law_1202 rfl rfl rfl

set_option maxHeartbeats 4000000 in
set_option maxRecDepth 20000 in
theorem law_c5 (g : pv_G) {b : Nat} {xs : Nat → Int32} {h : List pv_C} (e0 : h[0]? = some (pv_o 11 [.ref 1, .ref 3, .int 0, .ref 60, .ref 77, .ref 86, .ref 97, .int 0, .int 1, .ref 104, .ref 107, .ref 112, .null, .ref 116, .ref 120, .ref 121, .ref 122])) (e123 : h[123]? = some (pv_o 12 [.int 0, .int 0, .int 1, .int 0, .int 0, .ref 124, .ref 125, .ref 126, .ref 127, .ref 128, .ref 129, .int 0, .int 0, .int 0, .int 0, .int 0, .int 0, .int 0, .int 0, .int 0, .int 0, .ref 130, .ref 131, .ref 132, .ref 133, .ref 134, .ref 135, .ref 136, .ref 137, .ref 138, .ref 139, .ref 140, .ref 141, .ref 142, .ref 143, .ref 144, .ref 145, .ref 146, .ref 147, .ref 148, .int 0, .int 0, .ref 149, .ref 150, .ref 151, .ref 152, .ref 153, .ref 154, .ref 155, .ref 156, .int 0, .ref 157, .ref 158, .ref 159, .ref 160, .ref 161, .ref 162, .ref 163, .ref 164, .ref 165, .ref 166, .int 0, .ref 167, .ref 168])) : PV (some (b, 6, xs)) g mL_law (fun r _ => r = some (.int 1)) 20 0 0 329 [.retAddr (b + 1), .ref 0, .ref 123, .int 0] [] h := by
  refine pv_aload_n (M := mL_law) 1 dL_law_329 330 rfl rfl rfl ?_
  refine pv_aloadS_n (M := mL_law) 0 dL_law_330 331 rfl rfl rfl ?_
  refine pv_iload_n (M := mL_law) 3 dL_law_331 332 rfl rfl rfl ?_
  refine pv_iconst (M := mL_law) (v := 1) dL_law_332 333 rfl (by decide) ?_
  refine pv_iadd (M := mL_law) (v := 1) dL_law_333 334 rfl (by decide) ?_
  refine pv_sld (M := mL_law) dL_law_334 (pv_in0 (by decide)) (v := xs 1) rfl 335 rfl ?_
  refine pv_aloadS_n (M := mL_law) 0 dL_law_335 336 rfl rfl rfl ?_
  refine pv_iload_n (M := mL_law) 3 dL_law_336 337 rfl rfl rfl ?_
  refine pv_iconst (M := mL_law) (v := 2) dL_law_337 338 rfl (by decide) ?_
  refine pv_iadd (M := mL_law) (v := 2) dL_law_338 339 rfl (by decide) ?_
  refine pv_sld (M := mL_law) dL_law_339 (pv_in0 (by decide)) (v := xs 2) rfl 340 rfl ?_
  refine pv_aloadS_n (M := mL_law) 0 dL_law_340 341 rfl rfl rfl ?_
  refine pv_iload_n (M := mL_law) 3 dL_law_341 342 rfl rfl rfl ?_
  refine pv_iconst (M := mL_law) (v := 3) dL_law_342 343 rfl (by decide) ?_
  refine pv_iadd (M := mL_law) (v := 3) dL_law_343 344 rfl (by decide) ?_
  refine pv_sld (M := mL_law) dL_law_344 (pv_in0 (by decide)) (v := xs 3) rfl 345 rfl ?_
  refine pv_callv (M := mL_law) (as := [.int (xs 1), .int (xs 2), .int (xs 3)]) (st := []) (kc2 := 0) (ks2 := 0) dL_law_345 wd692 YX11_left ⟨wd693, wd694⟩ e0 rfl rfl (k_X11_left g (xs 1) (xs 2) (xs 3) e0) rfl rfl (Nat.le_of_ble_eq_true rfl) (by decide) rfl rfl 348 rfl (pv_k1 ?_)
  refine pv_aload_n (M := mL_law) 2 dL_law_348 349 rfl rfl rfl ?_
  refine pv_aloadS_n (M := mL_law) 0 dL_law_349 350 rfl rfl rfl ?_
  refine pv_iload_n (M := mL_law) 3 dL_law_350 351 rfl rfl rfl ?_
  refine pv_iconst (M := mL_law) (v := 1) dL_law_351 352 rfl (by decide) ?_
  refine pv_iadd (M := mL_law) (v := 1) dL_law_352 353 rfl (by decide) ?_
  refine pv_sld (M := mL_law) dL_law_353 (pv_in0 (by decide)) (v := xs 1) rfl 354 rfl ?_
  refine pv_aloadS_n (M := mL_law) 0 dL_law_354 355 rfl rfl rfl ?_
  refine pv_iload_n (M := mL_law) 3 dL_law_355 356 rfl rfl rfl ?_
  refine pv_iconst (M := mL_law) (v := 2) dL_law_356 357 rfl (by decide) ?_
  refine pv_iadd (M := mL_law) (v := 2) dL_law_357 358 rfl (by decide) ?_
  refine pv_sld (M := mL_law) dL_law_358 (pv_in0 (by decide)) (v := xs 2) rfl 359 rfl ?_
  refine pv_aloadS_n (M := mL_law) 0 dL_law_359 360 rfl rfl rfl ?_
  refine pv_iload_n (M := mL_law) 3 dL_law_360 361 rfl rfl rfl ?_
  refine pv_iconst (M := mL_law) (v := 3) dL_law_361 362 rfl (by decide) ?_
  refine pv_iadd (M := mL_law) (v := 3) dL_law_362 363 rfl (by decide) ?_
  refine pv_sld (M := mL_law) dL_law_363 (pv_in0 (by decide)) (v := xs 3) rfl 364 rfl ?_
  refine pv_callv (M := mL_law) (as := [.int (xs 1), .int (xs 2), .int (xs 3)]) (st := [.int (-1)]) (kc2 := 0) (ks2 := 0) dL_law_364 wd1385 YX12_left ⟨wd1386, wd1387⟩ e123 rfl rfl (k_X12_left g (xs 1) (xs 2) (xs 3) e123) rfl rfl (Nat.le_of_ble_eq_true rfl) (by decide) rfl rfl 367 rfl (pv_k1 ?_)
  refine pv_icmp_eq (M := mL_law) (tgt := 1195) dL_law_367 370 rfl (by decide) (fun _ => ?_) (fun q => absurd (by decide) q)
  refine pv_iinc (M := mL_law) (v := 6) (lo2 := [.retAddr (b + 1), .ref 0, .ref 123, .int 6]) dL_law_1195 1198 rfl rfl (by decide) (by decide) rfl rfl ?_
  refine pv_goto (M := mL_law) (tgt := 18) dL_law_1198 (by decide) ?_
  refine pv_iload_n (M := mL_law) 3 dL_law_18 19 rfl rfl rfl ?_
  refine pv_aloadS_n (M := mL_law) 0 dL_law_19 20 rfl rfl rfl ?_
  refine pv_slen (M := mL_law) dL_law_20 21 rfl ?_
  refine pv_top (M := mL_law) (y := 6) (by decide) ?_
  refine pv_bipush (M := mL_law) (v := 6) dL_law_21 23 rfl (by decide) ?_
  refine pv_isub (M := mL_law) (v := 0) dL_law_23 24 rfl (by decide) ?_
  refine pv_icmp_gt (M := mL_law) (tgt := 1201) dL_law_24 27 rfl (by decide) (fun _ => ?_) (fun q => absurd (by decide) q)
  refine pv_iconst (M := mL_law) (v := 1) dL_law_1201 1202 rfl (by decide) ?_
  exact pv_iret (M := mL_law) dL_law_1202 rfl rfl rfl

set_option maxHeartbeats 4000000 in
set_option maxRecDepth 20000 in
theorem law_c6 (g : pv_G) {b : Nat} {xs : Nat → Int32} {h : List pv_C} (e0 : h[0]? = some (pv_o 11 [.ref 1, .ref 3, .int 0, .ref 60, .ref 77, .ref 86, .ref 97, .int 0, .int 1, .ref 104, .ref 107, .ref 112, .null, .ref 116, .ref 120, .ref 121, .ref 122])) (e123 : h[123]? = some (pv_o 12 [.int 0, .int 0, .int 1, .int 0, .int 0, .ref 124, .ref 125, .ref 126, .ref 127, .ref 128, .ref 129, .int 0, .int 0, .int 0, .int 0, .int 0, .int 0, .int 0, .int 0, .int 0, .int 0, .ref 130, .ref 131, .ref 132, .ref 133, .ref 134, .ref 135, .ref 136, .ref 137, .ref 138, .ref 139, .ref 140, .ref 141, .ref 142, .ref 143, .ref 144, .ref 145, .ref 146, .ref 147, .ref 148, .int 0, .int 0, .ref 149, .ref 150, .ref 151, .ref 152, .ref 153, .ref 154, .ref 155, .ref 156, .int 0, .ref 157, .ref 158, .ref 159, .ref 160, .ref 161, .ref 162, .ref 163, .ref 164, .ref 165, .ref 166, .int 0, .ref 167, .ref 168])) : PV (some (b, 6, xs)) g mL_law (fun r _ => r = some (.int 1)) 20 0 0 372 [.retAddr (b + 1), .ref 0, .ref 123, .int 0] [] h := by
  refine pv_aload_n (M := mL_law) 1 dL_law_372 373 rfl rfl rfl ?_
  refine pv_aloadS_n (M := mL_law) 0 dL_law_373 374 rfl rfl rfl ?_
  refine pv_iload_n (M := mL_law) 3 dL_law_374 375 rfl rfl rfl ?_
  refine pv_iconst (M := mL_law) (v := 1) dL_law_375 376 rfl (by decide) ?_
  refine pv_iadd (M := mL_law) (v := 1) dL_law_376 377 rfl (by decide) ?_
  refine pv_sld (M := mL_law) dL_law_377 (pv_in0 (by decide)) (v := xs 1) rfl 378 rfl ?_
  refine pv_aloadS_n (M := mL_law) 0 dL_law_378 379 rfl rfl rfl ?_
  refine pv_iload_n (M := mL_law) 3 dL_law_379 380 rfl rfl rfl ?_
  refine pv_iconst (M := mL_law) (v := 2) dL_law_380 381 rfl (by decide) ?_
  refine pv_iadd (M := mL_law) (v := 2) dL_law_381 382 rfl (by decide) ?_
  refine pv_sld (M := mL_law) dL_law_382 (pv_in0 (by decide)) (v := xs 2) rfl 383 rfl ?_
  refine pv_aloadS_n (M := mL_law) 0 dL_law_383 384 rfl rfl rfl ?_
  refine pv_iload_n (M := mL_law) 3 dL_law_384 385 rfl rfl rfl ?_
  refine pv_iconst (M := mL_law) (v := 3) dL_law_385 386 rfl (by decide) ?_
  refine pv_iadd (M := mL_law) (v := 3) dL_law_386 387 rfl (by decide) ?_
  refine pv_sld (M := mL_law) dL_law_387 (pv_in0 (by decide)) (v := xs 3) rfl 388 rfl ?_
  refine pv_aloadS_n (M := mL_law) 0 dL_law_388 389 rfl rfl rfl ?_
  refine pv_iload_n (M := mL_law) 3 dL_law_389 390 rfl rfl rfl ?_
  refine pv_iconst (M := mL_law) (v := 4) dL_law_390 391 rfl (by decide) ?_
  refine pv_iadd (M := mL_law) (v := 4) dL_law_391 392 rfl (by decide) ?_
  refine pv_sld (M := mL_law) dL_law_392 (pv_in0 (by decide)) (v := xs 4) rfl 393 rfl ?_
  refine pv_callv (M := mL_law) (as := [.int (xs 1), .int (xs 2), .int (xs 3), .int (xs 4)]) (st := []) (kc2 := 0) (ks2 := 0) dL_law_393 wd712 YX11_may ⟨wd713, wd714⟩ e0 rfl rfl (k_X11_may g (xs 1) (xs 2) (xs 3) (xs 4) e0) rfl rfl (Nat.le_of_ble_eq_true rfl) (by decide) rfl rfl 396 rfl (pv_k1 ?_)
  refine pv_aload_n (M := mL_law) 2 dL_law_396 397 rfl rfl rfl ?_
  refine pv_aloadS_n (M := mL_law) 0 dL_law_397 398 rfl rfl rfl ?_
  refine pv_iload_n (M := mL_law) 3 dL_law_398 399 rfl rfl rfl ?_
  refine pv_iconst (M := mL_law) (v := 1) dL_law_399 400 rfl (by decide) ?_
  refine pv_iadd (M := mL_law) (v := 1) dL_law_400 401 rfl (by decide) ?_
  refine pv_sld (M := mL_law) dL_law_401 (pv_in0 (by decide)) (v := xs 1) rfl 402 rfl ?_
  refine pv_aloadS_n (M := mL_law) 0 dL_law_402 403 rfl rfl rfl ?_
  refine pv_iload_n (M := mL_law) 3 dL_law_403 404 rfl rfl rfl ?_
  refine pv_iconst (M := mL_law) (v := 2) dL_law_404 405 rfl (by decide) ?_
  refine pv_iadd (M := mL_law) (v := 2) dL_law_405 406 rfl (by decide) ?_
  refine pv_sld (M := mL_law) dL_law_406 (pv_in0 (by decide)) (v := xs 2) rfl 407 rfl ?_
  refine pv_aloadS_n (M := mL_law) 0 dL_law_407 408 rfl rfl rfl ?_
  refine pv_iload_n (M := mL_law) 3 dL_law_408 409 rfl rfl rfl ?_
  refine pv_iconst (M := mL_law) (v := 3) dL_law_409 410 rfl (by decide) ?_
  refine pv_iadd (M := mL_law) (v := 3) dL_law_410 411 rfl (by decide) ?_
  refine pv_sld (M := mL_law) dL_law_411 (pv_in0 (by decide)) (v := xs 3) rfl 412 rfl ?_
  refine pv_aloadS_n (M := mL_law) 0 dL_law_412 413 rfl rfl rfl ?_
  refine pv_iload_n (M := mL_law) 3 dL_law_413 414 rfl rfl rfl ?_
  refine pv_iconst (M := mL_law) (v := 4) dL_law_414 415 rfl (by decide) ?_
  refine pv_iadd (M := mL_law) (v := 4) dL_law_415 416 rfl (by decide) ?_
  refine pv_sld (M := mL_law) dL_law_416 (pv_in0 (by decide)) (v := xs 4) rfl 417 rfl ?_
  refine pv_callv (M := mL_law) (as := [.int (xs 1), .int (xs 2), .int (xs 3), .int (xs 4)]) (st := [.int (-1)]) (kc2 := 0) (ks2 := 0) dL_law_417 wd1492 YX12_may ⟨wd1493, wd1494⟩ e123 rfl rfl (k_X12_may g (xs 1) (xs 2) (xs 3) (xs 4) e123) rfl rfl (Nat.le_of_ble_eq_true rfl) (by decide) rfl rfl 420 rfl (pv_k1 ?_)
  refine pv_icmp_eq (M := mL_law) (tgt := 1195) dL_law_420 423 rfl (by decide) (fun _ => ?_) (fun q => absurd (by decide) q)
  refine pv_iinc (M := mL_law) (v := 6) (lo2 := [.retAddr (b + 1), .ref 0, .ref 123, .int 6]) dL_law_1195 1198 rfl rfl (by decide) (by decide) rfl rfl ?_
  refine pv_goto (M := mL_law) (tgt := 18) dL_law_1198 (by decide) ?_
  refine pv_iload_n (M := mL_law) 3 dL_law_18 19 rfl rfl rfl ?_
  refine pv_aloadS_n (M := mL_law) 0 dL_law_19 20 rfl rfl rfl ?_
  refine pv_slen (M := mL_law) dL_law_20 21 rfl ?_
  refine pv_top (M := mL_law) (y := 6) (by decide) ?_
  refine pv_bipush (M := mL_law) (v := 6) dL_law_21 23 rfl (by decide) ?_
  refine pv_isub (M := mL_law) (v := 0) dL_law_23 24 rfl (by decide) ?_
  refine pv_icmp_gt (M := mL_law) (tgt := 1201) dL_law_24 27 rfl (by decide) (fun _ => ?_) (fun q => absurd (by decide) q)
  refine pv_iconst (M := mL_law) (v := 1) dL_law_1201 1202 rfl (by decide) ?_
  exact pv_iret (M := mL_law) dL_law_1202 rfl rfl rfl

set_option maxHeartbeats 4000000 in
set_option maxRecDepth 20000 in
theorem law_c7 (g : pv_G) {b : Nat} {xs : Nat → Int32} {h : List pv_C} (e0 : h[0]? = some (pv_o 11 [.ref 1, .ref 3, .int 0, .ref 60, .ref 77, .ref 86, .ref 97, .int 0, .int 1, .ref 104, .ref 107, .ref 112, .null, .ref 116, .ref 120, .ref 121, .ref 122])) (e123 : h[123]? = some (pv_o 12 [.int 0, .int 0, .int 1, .int 0, .int 0, .ref 124, .ref 125, .ref 126, .ref 127, .ref 128, .ref 129, .int 0, .int 0, .int 0, .int 0, .int 0, .int 0, .int 0, .int 0, .int 0, .int 0, .ref 130, .ref 131, .ref 132, .ref 133, .ref 134, .ref 135, .ref 136, .ref 137, .ref 138, .ref 139, .ref 140, .ref 141, .ref 142, .ref 143, .ref 144, .ref 145, .ref 146, .ref 147, .ref 148, .int 0, .int 0, .ref 149, .ref 150, .ref 151, .ref 152, .ref 153, .ref 154, .ref 155, .ref 156, .int 0, .ref 157, .ref 158, .ref 159, .ref 160, .ref 161, .ref 162, .ref 163, .ref 164, .ref 165, .ref 166, .int 0, .ref 167, .ref 168])) : PV (some (b, 6, xs)) g mL_law (fun r _ => r = some (.int 1)) 20 0 0 425 [.retAddr (b + 1), .ref 0, .ref 123, .int 0] [] h := by
  refine pv_aload_n (M := mL_law) 1 dL_law_425 426 rfl rfl rfl ?_
  refine pv_aloadS_n (M := mL_law) 0 dL_law_426 427 rfl rfl rfl ?_
  refine pv_iload_n (M := mL_law) 3 dL_law_427 428 rfl rfl rfl ?_
  refine pv_iconst (M := mL_law) (v := 1) dL_law_428 429 rfl (by decide) ?_
  refine pv_iadd (M := mL_law) (v := 1) dL_law_429 430 rfl (by decide) ?_
  refine pv_sld (M := mL_law) dL_law_430 (pv_in0 (by decide)) (v := xs 1) rfl 431 rfl ?_
  refine pv_aloadS_n (M := mL_law) 0 dL_law_431 432 rfl rfl rfl ?_
  refine pv_iload_n (M := mL_law) 3 dL_law_432 433 rfl rfl rfl ?_
  refine pv_iconst (M := mL_law) (v := 2) dL_law_433 434 rfl (by decide) ?_
  refine pv_iadd (M := mL_law) (v := 2) dL_law_434 435 rfl (by decide) ?_
  refine pv_sld (M := mL_law) dL_law_435 (pv_in0 (by decide)) (v := xs 2) rfl 436 rfl ?_
  refine pv_aloadS_n (M := mL_law) 0 dL_law_436 437 rfl rfl rfl ?_
  refine pv_iload_n (M := mL_law) 3 dL_law_437 438 rfl rfl rfl ?_
  refine pv_iconst (M := mL_law) (v := 3) dL_law_438 439 rfl (by decide) ?_
  refine pv_iadd (M := mL_law) (v := 3) dL_law_439 440 rfl (by decide) ?_
  refine pv_sld (M := mL_law) dL_law_440 (pv_in0 (by decide)) (v := xs 3) rfl 441 rfl ?_
  refine pv_aloadS_n (M := mL_law) 0 dL_law_441 442 rfl rfl rfl ?_
  refine pv_iload_n (M := mL_law) 3 dL_law_442 443 rfl rfl rfl ?_
  refine pv_iconst (M := mL_law) (v := 4) dL_law_443 444 rfl (by decide) ?_
  refine pv_iadd (M := mL_law) (v := 4) dL_law_444 445 rfl (by decide) ?_
  refine pv_sld (M := mL_law) dL_law_445 (pv_in0 (by decide)) (v := xs 4) rfl 446 rfl ?_
  refine pv_callv (M := mL_law) (as := [.int (xs 1), .int (xs 2), .int (xs 3), .int (xs 4)]) (st := []) (kc2 := 0) (ks2 := 0) dL_law_446 wd769 YX11_strike ⟨wd770, wd771⟩ e0 rfl rfl (k_X11_strike g (xs 1) (xs 2) (xs 3) (xs 4) e0) rfl rfl (Nat.le_of_ble_eq_true rfl) (by decide) rfl rfl 449 rfl (pv_k1 ?_)
  refine pv_aload_n (M := mL_law) 2 dL_law_449 450 rfl rfl rfl ?_
  refine pv_aloadS_n (M := mL_law) 0 dL_law_450 451 rfl rfl rfl ?_
  refine pv_iload_n (M := mL_law) 3 dL_law_451 452 rfl rfl rfl ?_
  refine pv_iconst (M := mL_law) (v := 1) dL_law_452 453 rfl (by decide) ?_
  refine pv_iadd (M := mL_law) (v := 1) dL_law_453 454 rfl (by decide) ?_
  refine pv_sld (M := mL_law) dL_law_454 (pv_in0 (by decide)) (v := xs 1) rfl 455 rfl ?_
  refine pv_aloadS_n (M := mL_law) 0 dL_law_455 456 rfl rfl rfl ?_
  refine pv_iload_n (M := mL_law) 3 dL_law_456 457 rfl rfl rfl ?_
  refine pv_iconst (M := mL_law) (v := 2) dL_law_457 458 rfl (by decide) ?_
  refine pv_iadd (M := mL_law) (v := 2) dL_law_458 459 rfl (by decide) ?_
  refine pv_sld (M := mL_law) dL_law_459 (pv_in0 (by decide)) (v := xs 2) rfl 460 rfl ?_
  refine pv_aloadS_n (M := mL_law) 0 dL_law_460 461 rfl rfl rfl ?_
  refine pv_iload_n (M := mL_law) 3 dL_law_461 462 rfl rfl rfl ?_
  refine pv_iconst (M := mL_law) (v := 3) dL_law_462 463 rfl (by decide) ?_
  refine pv_iadd (M := mL_law) (v := 3) dL_law_463 464 rfl (by decide) ?_
  refine pv_sld (M := mL_law) dL_law_464 (pv_in0 (by decide)) (v := xs 3) rfl 465 rfl ?_
  refine pv_aloadS_n (M := mL_law) 0 dL_law_465 466 rfl rfl rfl ?_
  refine pv_iload_n (M := mL_law) 3 dL_law_466 467 rfl rfl rfl ?_
  refine pv_iconst (M := mL_law) (v := 4) dL_law_467 468 rfl (by decide) ?_
  refine pv_iadd (M := mL_law) (v := 4) dL_law_468 469 rfl (by decide) ?_
  refine pv_sld (M := mL_law) dL_law_469 (pv_in0 (by decide)) (v := xs 4) rfl 470 rfl ?_
  refine pv_callv (M := mL_law) (as := [.int (xs 1), .int (xs 2), .int (xs 3), .int (xs 4)]) (st := [.int (-1)]) (kc2 := 0) (ks2 := 0) dL_law_470 wd1526 YX12_strike ⟨wd1527, wd1528⟩ e123 rfl rfl (k_X12_strike g (xs 1) (xs 2) (xs 3) (xs 4) e123) rfl rfl (Nat.le_of_ble_eq_true rfl) (by decide) rfl rfl 473 rfl (pv_k1 ?_)
  refine pv_icmp_eq (M := mL_law) (tgt := 1195) dL_law_473 476 rfl (by decide) (fun _ => ?_) (fun q => absurd (by decide) q)
  refine pv_iinc (M := mL_law) (v := 6) (lo2 := [.retAddr (b + 1), .ref 0, .ref 123, .int 6]) dL_law_1195 1198 rfl rfl (by decide) (by decide) rfl rfl ?_
  refine pv_goto (M := mL_law) (tgt := 18) dL_law_1198 (by decide) ?_
  refine pv_iload_n (M := mL_law) 3 dL_law_18 19 rfl rfl rfl ?_
  refine pv_aloadS_n (M := mL_law) 0 dL_law_19 20 rfl rfl rfl ?_
  refine pv_slen (M := mL_law) dL_law_20 21 rfl ?_
  refine pv_top (M := mL_law) (y := 6) (by decide) ?_
  refine pv_bipush (M := mL_law) (v := 6) dL_law_21 23 rfl (by decide) ?_
  refine pv_isub (M := mL_law) (v := 0) dL_law_23 24 rfl (by decide) ?_
  refine pv_icmp_gt (M := mL_law) (tgt := 1201) dL_law_24 27 rfl (by decide) (fun _ => ?_) (fun q => absurd (by decide) q)
  refine pv_iconst (M := mL_law) (v := 1) dL_law_1201 1202 rfl (by decide) ?_
  exact pv_iret (M := mL_law) dL_law_1202 rfl rfl rfl

set_option maxHeartbeats 4000000 in
set_option maxRecDepth 20000 in
theorem law_c8 (g : pv_G) {b : Nat} {xs : Nat → Int32} {h : List pv_C} (e0 : h[0]? = some (pv_o 11 [.ref 1, .ref 3, .int 0, .ref 60, .ref 77, .ref 86, .ref 97, .int 0, .int 1, .ref 104, .ref 107, .ref 112, .null, .ref 116, .ref 120, .ref 121, .ref 122])) (e97 : h[97]? = some (pv_o 1 [.ref 98, .ref 99, .ref 100, .ref 101, .ref 102, .ref 103, .int 0])) (e123 : h[123]? = some (pv_o 12 [.int 0, .int 0, .int 1, .int 0, .int 0, .ref 124, .ref 125, .ref 126, .ref 127, .ref 128, .ref 129, .int 0, .int 0, .int 0, .int 0, .int 0, .int 0, .int 0, .int 0, .int 0, .int 0, .ref 130, .ref 131, .ref 132, .ref 133, .ref 134, .ref 135, .ref 136, .ref 137, .ref 138, .ref 139, .ref 140, .ref 141, .ref 142, .ref 143, .ref 144, .ref 145, .ref 146, .ref 147, .ref 148, .int 0, .int 0, .ref 149, .ref 150, .ref 151, .ref 152, .ref 153, .ref 154, .ref 155, .ref 156, .int 0, .ref 157, .ref 158, .ref 159, .ref 160, .ref 161, .ref 162, .ref 163, .ref 164, .ref 165, .ref 166, .int 0, .ref 167, .ref 168])) : PV (some (b, 6, xs)) g mL_law (fun r _ => r = some (.int 1)) 20 0 0 478 [.retAddr (b + 1), .ref 0, .ref 123, .int 0] [] h := by
  refine pv_aload_n (M := mL_law) 1 dL_law_478 479 rfl rfl rfl ?_
  refine pv_aloadS_n (M := mL_law) 0 dL_law_479 480 rfl rfl rfl ?_
  refine pv_iload_n (M := mL_law) 3 dL_law_480 481 rfl rfl rfl ?_
  refine pv_iconst (M := mL_law) (v := 1) dL_law_481 482 rfl (by decide) ?_
  refine pv_iadd (M := mL_law) (v := 1) dL_law_482 483 rfl (by decide) ?_
  refine pv_sld (M := mL_law) dL_law_483 (pv_in0 (by decide)) (v := xs 1) rfl 484 rfl ?_
  refine pv_callv (M := mL_law) (as := [.int (xs 1)]) (st := []) (kc2 := 0) (ks2 := 0) dL_law_484 wd794 YX11_back ⟨wd795, wd796⟩ e0 rfl rfl (k_X11_back g (xs 1) e0 e97) rfl rfl (Nat.le_of_ble_eq_true rfl) (by decide) rfl rfl 487 rfl (pv_k1 ?_)
  refine pv_aload_n (M := mL_law) 2 dL_law_487 488 rfl rfl rfl ?_
  refine pv_aloadS_n (M := mL_law) 0 dL_law_488 489 rfl rfl rfl ?_
  refine pv_iload_n (M := mL_law) 3 dL_law_489 490 rfl rfl rfl ?_
  refine pv_iconst (M := mL_law) (v := 1) dL_law_490 491 rfl (by decide) ?_
  refine pv_iadd (M := mL_law) (v := 1) dL_law_491 492 rfl (by decide) ?_
  refine pv_sld (M := mL_law) dL_law_492 (pv_in0 (by decide)) (v := xs 1) rfl 493 rfl ?_
  refine pv_callv (M := mL_law) (as := [.int (xs 1)]) (st := [.int (-1)]) (kc2 := 0) (ks2 := 0) dL_law_493 wd1538 YX12_back ⟨wd1539, wd1540⟩ e123 rfl rfl (k_X12_back g (xs 1) e123) rfl rfl (Nat.le_of_ble_eq_true rfl) (by decide) rfl rfl 496 rfl (pv_k1 ?_)
  refine pv_icmp_eq (M := mL_law) (tgt := 1195) dL_law_496 499 rfl (by decide) (fun _ => ?_) (fun q => absurd (by decide) q)
  refine pv_iinc (M := mL_law) (v := 6) (lo2 := [.retAddr (b + 1), .ref 0, .ref 123, .int 6]) dL_law_1195 1198 rfl rfl (by decide) (by decide) rfl rfl ?_
  refine pv_goto (M := mL_law) (tgt := 18) dL_law_1198 (by decide) ?_
  refine pv_iload_n (M := mL_law) 3 dL_law_18 19 rfl rfl rfl ?_
  refine pv_aloadS_n (M := mL_law) 0 dL_law_19 20 rfl rfl rfl ?_
  refine pv_slen (M := mL_law) dL_law_20 21 rfl ?_
  refine pv_top (M := mL_law) (y := 6) (by decide) ?_
  refine pv_bipush (M := mL_law) (v := 6) dL_law_21 23 rfl (by decide) ?_
  refine pv_isub (M := mL_law) (v := 0) dL_law_23 24 rfl (by decide) ?_
  refine pv_icmp_gt (M := mL_law) (tgt := 1201) dL_law_24 27 rfl (by decide) (fun _ => ?_) (fun q => absurd (by decide) q)
  refine pv_iconst (M := mL_law) (v := 1) dL_law_1201 1202 rfl (by decide) ?_
  exact pv_iret (M := mL_law) dL_law_1202 rfl rfl rfl

set_option maxHeartbeats 4000000 in
set_option maxRecDepth 20000 in
theorem law_c9 (g : pv_G) {b : Nat} {xs : Nat → Int32} {h : List pv_C} (e0 : h[0]? = some (pv_o 11 [.ref 1, .ref 3, .int 0, .ref 60, .ref 77, .ref 86, .ref 97, .int 0, .int 1, .ref 104, .ref 107, .ref 112, .null, .ref 116, .ref 120, .ref 121, .ref 122])) (e97 : h[97]? = some (pv_o 1 [.ref 98, .ref 99, .ref 100, .ref 101, .ref 102, .ref 103, .int 0])) (e123 : h[123]? = some (pv_o 12 [.int 0, .int 0, .int 1, .int 0, .int 0, .ref 124, .ref 125, .ref 126, .ref 127, .ref 128, .ref 129, .int 0, .int 0, .int 0, .int 0, .int 0, .int 0, .int 0, .int 0, .int 0, .int 0, .ref 130, .ref 131, .ref 132, .ref 133, .ref 134, .ref 135, .ref 136, .ref 137, .ref 138, .ref 139, .ref 140, .ref 141, .ref 142, .ref 143, .ref 144, .ref 145, .ref 146, .ref 147, .ref 148, .int 0, .int 0, .ref 149, .ref 150, .ref 151, .ref 152, .ref 153, .ref 154, .ref 155, .ref 156, .int 0, .ref 157, .ref 158, .ref 159, .ref 160, .ref 161, .ref 162, .ref 163, .ref 164, .ref 165, .ref 166, .int 0, .ref 167, .ref 168])) : PV (some (b, 6, xs)) g mL_law (fun r _ => r = some (.int 1)) 20 0 0 501 [.retAddr (b + 1), .ref 0, .ref 123, .int 0] [] h := by
  refine pv_aload_n (M := mL_law) 1 dL_law_501 502 rfl rfl rfl ?_
  refine pv_aloadS_n (M := mL_law) 0 dL_law_502 503 rfl rfl rfl ?_
  refine pv_iload_n (M := mL_law) 3 dL_law_503 504 rfl rfl rfl ?_
  refine pv_iconst (M := mL_law) (v := 1) dL_law_504 505 rfl (by decide) ?_
  refine pv_iadd (M := mL_law) (v := 1) dL_law_505 506 rfl (by decide) ?_
  refine pv_sld (M := mL_law) dL_law_506 (pv_in0 (by decide)) (v := xs 1) rfl 507 rfl ?_
  refine pv_aloadS_n (M := mL_law) 0 dL_law_507 508 rfl rfl rfl ?_
  refine pv_iload_n (M := mL_law) 3 dL_law_508 509 rfl rfl rfl ?_
  refine pv_iconst (M := mL_law) (v := 2) dL_law_509 510 rfl (by decide) ?_
  refine pv_iadd (M := mL_law) (v := 2) dL_law_510 511 rfl (by decide) ?_
  refine pv_sld (M := mL_law) dL_law_511 (pv_in0 (by decide)) (v := xs 2) rfl 512 rfl ?_
  refine pv_callv (M := mL_law) (as := [.int (xs 1), .int (xs 2)]) (st := []) (kc2 := 0) (ks2 := 0) dL_law_512 wd815 YX11_book ⟨wd816, wd817⟩ e0 rfl rfl (k_X11_book g (xs 1) (xs 2) e0 e97) rfl rfl (Nat.le_of_ble_eq_true rfl) (by decide) rfl rfl 515 rfl (pv_k1 ?_)
  refine pv_aload_n (M := mL_law) 2 dL_law_515 516 rfl rfl rfl ?_
  refine pv_aloadS_n (M := mL_law) 0 dL_law_516 517 rfl rfl rfl ?_
  refine pv_iload_n (M := mL_law) 3 dL_law_517 518 rfl rfl rfl ?_
  refine pv_iconst (M := mL_law) (v := 1) dL_law_518 519 rfl (by decide) ?_
  refine pv_iadd (M := mL_law) (v := 1) dL_law_519 520 rfl (by decide) ?_
  refine pv_sld (M := mL_law) dL_law_520 (pv_in0 (by decide)) (v := xs 1) rfl 521 rfl ?_
  refine pv_aloadS_n (M := mL_law) 0 dL_law_521 522 rfl rfl rfl ?_
  refine pv_iload_n (M := mL_law) 3 dL_law_522 523 rfl rfl rfl ?_
  refine pv_iconst (M := mL_law) (v := 2) dL_law_523 524 rfl (by decide) ?_
  refine pv_iadd (M := mL_law) (v := 2) dL_law_524 525 rfl (by decide) ?_
  refine pv_sld (M := mL_law) dL_law_525 (pv_in0 (by decide)) (v := xs 2) rfl 526 rfl ?_
  refine pv_callv (M := mL_law) (as := [.int (xs 1), .int (xs 2)]) (st := [.int (-1000)]) (kc2 := 0) (ks2 := 0) dL_law_526 wd1546 YX12_book ⟨wd1547, wd1548⟩ e123 rfl rfl (k_X12_book g (xs 1) (xs 2) e123) rfl rfl (Nat.le_of_ble_eq_true rfl) (by decide) rfl rfl 529 rfl (pv_k1 ?_)
  refine pv_icmp_eq (M := mL_law) (tgt := 1195) dL_law_529 532 rfl (by decide) (fun _ => ?_) (fun q => absurd (by decide) q)
  refine pv_iinc (M := mL_law) (v := 6) (lo2 := [.retAddr (b + 1), .ref 0, .ref 123, .int 6]) dL_law_1195 1198 rfl rfl (by decide) (by decide) rfl rfl ?_
  refine pv_goto (M := mL_law) (tgt := 18) dL_law_1198 (by decide) ?_
  refine pv_iload_n (M := mL_law) 3 dL_law_18 19 rfl rfl rfl ?_
  refine pv_aloadS_n (M := mL_law) 0 dL_law_19 20 rfl rfl rfl ?_
  refine pv_slen (M := mL_law) dL_law_20 21 rfl ?_
  refine pv_top (M := mL_law) (y := 6) (by decide) ?_
  refine pv_bipush (M := mL_law) (v := 6) dL_law_21 23 rfl (by decide) ?_
  refine pv_isub (M := mL_law) (v := 0) dL_law_23 24 rfl (by decide) ?_
  refine pv_icmp_gt (M := mL_law) (tgt := 1201) dL_law_24 27 rfl (by decide) (fun _ => ?_) (fun q => absurd (by decide) q)
  refine pv_iconst (M := mL_law) (v := 1) dL_law_1201 1202 rfl (by decide) ?_
  exact pv_iret (M := mL_law) dL_law_1202 rfl rfl rfl

set_option maxHeartbeats 4000000 in
set_option maxRecDepth 20000 in
theorem law_c10 (g : pv_G) {b : Nat} {xs : Nat → Int32} {h : List pv_C} (e0 : h[0]? = some (pv_o 11 [.ref 1, .ref 3, .int 0, .ref 60, .ref 77, .ref 86, .ref 97, .int 0, .int 1, .ref 104, .ref 107, .ref 112, .null, .ref 116, .ref 120, .ref 121, .ref 122])) (e123 : h[123]? = some (pv_o 12 [.int 0, .int 0, .int 1, .int 0, .int 0, .ref 124, .ref 125, .ref 126, .ref 127, .ref 128, .ref 129, .int 0, .int 0, .int 0, .int 0, .int 0, .int 0, .int 0, .int 0, .int 0, .int 0, .ref 130, .ref 131, .ref 132, .ref 133, .ref 134, .ref 135, .ref 136, .ref 137, .ref 138, .ref 139, .ref 140, .ref 141, .ref 142, .ref 143, .ref 144, .ref 145, .ref 146, .ref 147, .ref 148, .int 0, .int 0, .ref 149, .ref 150, .ref 151, .ref 152, .ref 153, .ref 154, .ref 155, .ref 156, .int 0, .ref 157, .ref 158, .ref 159, .ref 160, .ref 161, .ref 162, .ref 163, .ref 164, .ref 165, .ref 166, .int 0, .ref 167, .ref 168])) : PV (some (b, 6, xs)) g mL_law (fun r _ => r = some (.int 1)) 20 0 0 534 [.retAddr (b + 1), .ref 0, .ref 123, .int 0] [] h := by
  refine pv_aload_n (M := mL_law) 1 dL_law_534 535 rfl rfl rfl ?_
  refine pv_aloadS_n (M := mL_law) 0 dL_law_535 536 rfl rfl rfl ?_
  refine pv_iload_n (M := mL_law) 3 dL_law_536 537 rfl rfl rfl ?_
  refine pv_iconst (M := mL_law) (v := 1) dL_law_537 538 rfl (by decide) ?_
  refine pv_iadd (M := mL_law) (v := 1) dL_law_538 539 rfl (by decide) ?_
  refine pv_sld (M := mL_law) dL_law_539 (pv_in0 (by decide)) (v := xs 1) rfl 540 rfl ?_
  refine pv_aloadS_n (M := mL_law) 0 dL_law_540 541 rfl rfl rfl ?_
  refine pv_iload_n (M := mL_law) 3 dL_law_541 542 rfl rfl rfl ?_
  refine pv_iconst (M := mL_law) (v := 2) dL_law_542 543 rfl (by decide) ?_
  refine pv_iadd (M := mL_law) (v := 2) dL_law_543 544 rfl (by decide) ?_
  refine pv_sld (M := mL_law) dL_law_544 (pv_in0 (by decide)) (v := xs 2) rfl 545 rfl ?_
  refine pv_callv (M := mL_law) (as := [.int (xs 1), .int (xs 2)]) (st := []) (kc2 := 0) (ks2 := 0) dL_law_545 wd824 YX11_ways ⟨wd825, wd826⟩ e0 rfl rfl (k_X11_ways g (xs 1) (xs 2) e0) rfl rfl (Nat.le_of_ble_eq_true rfl) (by decide) rfl rfl 548 rfl (pv_k1 ?_)
  refine pv_aload_n (M := mL_law) 2 dL_law_548 549 rfl rfl rfl ?_
  refine pv_aloadS_n (M := mL_law) 0 dL_law_549 550 rfl rfl rfl ?_
  refine pv_iload_n (M := mL_law) 3 dL_law_550 551 rfl rfl rfl ?_
  refine pv_iconst (M := mL_law) (v := 1) dL_law_551 552 rfl (by decide) ?_
  refine pv_iadd (M := mL_law) (v := 1) dL_law_552 553 rfl (by decide) ?_
  refine pv_sld (M := mL_law) dL_law_553 (pv_in0 (by decide)) (v := xs 1) rfl 554 rfl ?_
  refine pv_aloadS_n (M := mL_law) 0 dL_law_554 555 rfl rfl rfl ?_
  refine pv_iload_n (M := mL_law) 3 dL_law_555 556 rfl rfl rfl ?_
  refine pv_iconst (M := mL_law) (v := 2) dL_law_556 557 rfl (by decide) ?_
  refine pv_iadd (M := mL_law) (v := 2) dL_law_557 558 rfl (by decide) ?_
  refine pv_sld (M := mL_law) dL_law_558 (pv_in0 (by decide)) (v := xs 2) rfl 559 rfl ?_
  refine pv_callv (M := mL_law) (as := [.int (xs 1), .int (xs 2)]) (st := [.long (-1)]) (kc2 := 0) (ks2 := 0) dL_law_559 wd1550 YX12_ways ⟨wd1551, wd1552⟩ e123 rfl rfl (k_X12_ways g (xs 1) (xs 2) e123) rfl rfl (Nat.le_of_ble_eq_true rfl) (by decide) rfl rfl 562 rfl (pv_k1 ?_)
  refine pv_lcmp (M := mL_law) (v := 0) dL_law_562 563 rfl (by decide) ?_
  refine pv_if_eq (M := mL_law) (tgt := 1195) dL_law_563 566 rfl (by decide) (fun _ => ?_) (fun q => absurd (by decide) q)
  refine pv_iinc (M := mL_law) (v := 6) (lo2 := [.retAddr (b + 1), .ref 0, .ref 123, .int 6]) dL_law_1195 1198 rfl rfl (by decide) (by decide) rfl rfl ?_
  refine pv_goto (M := mL_law) (tgt := 18) dL_law_1198 (by decide) ?_
  refine pv_iload_n (M := mL_law) 3 dL_law_18 19 rfl rfl rfl ?_
  refine pv_aloadS_n (M := mL_law) 0 dL_law_19 20 rfl rfl rfl ?_
  refine pv_slen (M := mL_law) dL_law_20 21 rfl ?_
  refine pv_top (M := mL_law) (y := 6) (by decide) ?_
  refine pv_bipush (M := mL_law) (v := 6) dL_law_21 23 rfl (by decide) ?_
  refine pv_isub (M := mL_law) (v := 0) dL_law_23 24 rfl (by decide) ?_
  refine pv_icmp_gt (M := mL_law) (tgt := 1201) dL_law_24 27 rfl (by decide) (fun _ => ?_) (fun q => absurd (by decide) q)
  refine pv_iconst (M := mL_law) (v := 1) dL_law_1201 1202 rfl (by decide) ?_
  exact pv_iret (M := mL_law) dL_law_1202 rfl rfl rfl

set_option maxHeartbeats 4000000 in
set_option maxRecDepth 20000 in
theorem law_c11 (g : pv_G) {b : Nat} {xs : Nat → Int32} {h : List pv_C} (e0 : h[0]? = some (pv_o 11 [.ref 1, .ref 3, .int 0, .ref 60, .ref 77, .ref 86, .ref 97, .int 0, .int 1, .ref 104, .ref 107, .ref 112, .null, .ref 116, .ref 120, .ref 121, .ref 122])) (e123 : h[123]? = some (pv_o 12 [.int 0, .int 0, .int 1, .int 0, .int 0, .ref 124, .ref 125, .ref 126, .ref 127, .ref 128, .ref 129, .int 0, .int 0, .int 0, .int 0, .int 0, .int 0, .int 0, .int 0, .int 0, .int 0, .ref 130, .ref 131, .ref 132, .ref 133, .ref 134, .ref 135, .ref 136, .ref 137, .ref 138, .ref 139, .ref 140, .ref 141, .ref 142, .ref 143, .ref 144, .ref 145, .ref 146, .ref 147, .ref 148, .int 0, .int 0, .ref 149, .ref 150, .ref 151, .ref 152, .ref 153, .ref 154, .ref 155, .ref 156, .int 0, .ref 157, .ref 158, .ref 159, .ref 160, .ref 161, .ref 162, .ref 163, .ref 164, .ref 165, .ref 166, .int 0, .ref 167, .ref 168])) : PV (some (b, 6, xs)) g mL_law (fun r _ => r = some (.int 1)) 20 0 0 568 [.retAddr (b + 1), .ref 0, .ref 123, .int 0] [] h := by
  refine pv_aload_n (M := mL_law) 1 dL_law_568 569 rfl rfl rfl ?_
  refine pv_aloadS_n (M := mL_law) 0 dL_law_569 570 rfl rfl rfl ?_
  refine pv_iload_n (M := mL_law) 3 dL_law_570 571 rfl rfl rfl ?_
  refine pv_iconst (M := mL_law) (v := 1) dL_law_571 572 rfl (by decide) ?_
  refine pv_iadd (M := mL_law) (v := 1) dL_law_572 573 rfl (by decide) ?_
  refine pv_sld (M := mL_law) dL_law_573 (pv_in0 (by decide)) (v := xs 1) rfl 574 rfl ?_
  refine pv_aloadS_n (M := mL_law) 0 dL_law_574 575 rfl rfl rfl ?_
  refine pv_iload_n (M := mL_law) 3 dL_law_575 576 rfl rfl rfl ?_
  refine pv_iconst (M := mL_law) (v := 2) dL_law_576 577 rfl (by decide) ?_
  refine pv_iadd (M := mL_law) (v := 2) dL_law_577 578 rfl (by decide) ?_
  refine pv_sld (M := mL_law) dL_law_578 (pv_in0 (by decide)) (v := xs 2) rfl 579 rfl ?_
  refine pv_aloadS_n (M := mL_law) 0 dL_law_579 580 rfl rfl rfl ?_
  refine pv_iload_n (M := mL_law) 3 dL_law_580 581 rfl rfl rfl ?_
  refine pv_iconst (M := mL_law) (v := 3) dL_law_581 582 rfl (by decide) ?_
  refine pv_iadd (M := mL_law) (v := 3) dL_law_582 583 rfl (by decide) ?_
  refine pv_sld (M := mL_law) dL_law_583 (pv_in0 (by decide)) (v := xs 3) rfl 584 rfl ?_
  refine pv_aloadS_n (M := mL_law) 0 dL_law_584 585 rfl rfl rfl ?_
  refine pv_iload_n (M := mL_law) 3 dL_law_585 586 rfl rfl rfl ?_
  refine pv_iconst (M := mL_law) (v := 4) dL_law_586 587 rfl (by decide) ?_
  refine pv_iadd (M := mL_law) (v := 4) dL_law_587 588 rfl (by decide) ?_
  refine pv_sld (M := mL_law) dL_law_588 (pv_in0 (by decide)) (v := xs 4) rfl 589 rfl ?_
  refine pv_callv (M := mL_law) (as := [.int (xs 1), .int (xs 2), .int (xs 3), .int (xs 4)]) (st := []) (kc2 := 0) (ks2 := 0) dL_law_589 wd845 YX11_cheapest ⟨wd846, wd847⟩ e0 rfl rfl (k_X11_cheapest g (xs 1) (xs 2) (xs 3) (xs 4) e0) rfl rfl (Nat.le_of_ble_eq_true rfl) (by decide) rfl rfl 592 rfl (pv_k1 ?_)
  refine pv_aload_n (M := mL_law) 2 dL_law_592 593 rfl rfl rfl ?_
  refine pv_aloadS_n (M := mL_law) 0 dL_law_593 594 rfl rfl rfl ?_
  refine pv_iload_n (M := mL_law) 3 dL_law_594 595 rfl rfl rfl ?_
  refine pv_iconst (M := mL_law) (v := 1) dL_law_595 596 rfl (by decide) ?_
  refine pv_iadd (M := mL_law) (v := 1) dL_law_596 597 rfl (by decide) ?_
  refine pv_sld (M := mL_law) dL_law_597 (pv_in0 (by decide)) (v := xs 1) rfl 598 rfl ?_
  refine pv_aloadS_n (M := mL_law) 0 dL_law_598 599 rfl rfl rfl ?_
  refine pv_iload_n (M := mL_law) 3 dL_law_599 600 rfl rfl rfl ?_
  refine pv_iconst (M := mL_law) (v := 2) dL_law_600 601 rfl (by decide) ?_
  refine pv_iadd (M := mL_law) (v := 2) dL_law_601 602 rfl (by decide) ?_
  refine pv_sld (M := mL_law) dL_law_602 (pv_in0 (by decide)) (v := xs 2) rfl 603 rfl ?_
  refine pv_aloadS_n (M := mL_law) 0 dL_law_603 604 rfl rfl rfl ?_
  refine pv_iload_n (M := mL_law) 3 dL_law_604 605 rfl rfl rfl ?_
  refine pv_iconst (M := mL_law) (v := 3) dL_law_605 606 rfl (by decide) ?_
  refine pv_iadd (M := mL_law) (v := 3) dL_law_606 607 rfl (by decide) ?_
  refine pv_sld (M := mL_law) dL_law_607 (pv_in0 (by decide)) (v := xs 3) rfl 608 rfl ?_
  refine pv_aloadS_n (M := mL_law) 0 dL_law_608 609 rfl rfl rfl ?_
  refine pv_iload_n (M := mL_law) 3 dL_law_609 610 rfl rfl rfl ?_
  refine pv_iconst (M := mL_law) (v := 4) dL_law_610 611 rfl (by decide) ?_
  refine pv_iadd (M := mL_law) (v := 4) dL_law_611 612 rfl (by decide) ?_
  refine pv_sld (M := mL_law) dL_law_612 (pv_in0 (by decide)) (v := xs 4) rfl 613 rfl ?_
  refine pv_callv (M := mL_law) (as := [.int (xs 1), .int (xs 2), .int (xs 3), .int (xs 4)]) (st := [.int (-1)]) (kc2 := 0) (ks2 := 0) dL_law_613 wd1571 YX12_cheapest ⟨wd1572, wd1573⟩ e123 rfl rfl (k_X12_cheapest g (xs 1) (xs 2) (xs 3) (xs 4) e123) rfl rfl (Nat.le_of_ble_eq_true rfl) (by decide) rfl rfl 616 rfl (pv_k1 ?_)
  refine pv_icmp_eq (M := mL_law) (tgt := 1195) dL_law_616 619 rfl (by decide) (fun _ => ?_) (fun q => absurd (by decide) q)
  refine pv_iinc (M := mL_law) (v := 6) (lo2 := [.retAddr (b + 1), .ref 0, .ref 123, .int 6]) dL_law_1195 1198 rfl rfl (by decide) (by decide) rfl rfl ?_
  refine pv_goto (M := mL_law) (tgt := 18) dL_law_1198 (by decide) ?_
  refine pv_iload_n (M := mL_law) 3 dL_law_18 19 rfl rfl rfl ?_
  refine pv_aloadS_n (M := mL_law) 0 dL_law_19 20 rfl rfl rfl ?_
  refine pv_slen (M := mL_law) dL_law_20 21 rfl ?_
  refine pv_top (M := mL_law) (y := 6) (by decide) ?_
  refine pv_bipush (M := mL_law) (v := 6) dL_law_21 23 rfl (by decide) ?_
  refine pv_isub (M := mL_law) (v := 0) dL_law_23 24 rfl (by decide) ?_
  refine pv_icmp_gt (M := mL_law) (tgt := 1201) dL_law_24 27 rfl (by decide) (fun _ => ?_) (fun q => absurd (by decide) q)
  refine pv_iconst (M := mL_law) (v := 1) dL_law_1201 1202 rfl (by decide) ?_
  exact pv_iret (M := mL_law) dL_law_1202 rfl rfl rfl

set_option maxHeartbeats 4000000 in
set_option maxRecDepth 20000 in
theorem law_c12 (g : pv_G) {b : Nat} {xs : Nat → Int32} {h : List pv_C} (e0 : h[0]? = some (pv_o 11 [.ref 1, .ref 3, .int 0, .ref 60, .ref 77, .ref 86, .ref 97, .int 0, .int 1, .ref 104, .ref 107, .ref 112, .null, .ref 116, .ref 120, .ref 121, .ref 122])) (e123 : h[123]? = some (pv_o 12 [.int 0, .int 0, .int 1, .int 0, .int 0, .ref 124, .ref 125, .ref 126, .ref 127, .ref 128, .ref 129, .int 0, .int 0, .int 0, .int 0, .int 0, .int 0, .int 0, .int 0, .int 0, .int 0, .ref 130, .ref 131, .ref 132, .ref 133, .ref 134, .ref 135, .ref 136, .ref 137, .ref 138, .ref 139, .ref 140, .ref 141, .ref 142, .ref 143, .ref 144, .ref 145, .ref 146, .ref 147, .ref 148, .int 0, .int 0, .ref 149, .ref 150, .ref 151, .ref 152, .ref 153, .ref 154, .ref 155, .ref 156, .int 0, .ref 157, .ref 158, .ref 159, .ref 160, .ref 161, .ref 162, .ref 163, .ref 164, .ref 165, .ref 166, .int 0, .ref 167, .ref 168])) : PV (some (b, 6, xs)) g mL_law (fun r _ => r = some (.int 1)) 20 0 0 621 [.retAddr (b + 1), .ref 0, .ref 123, .int 0] [] h := by
  refine pv_aload_n (M := mL_law) 1 dL_law_621 622 rfl rfl rfl ?_
  refine pv_aloadS_n (M := mL_law) 0 dL_law_622 623 rfl rfl rfl ?_
  refine pv_iload_n (M := mL_law) 3 dL_law_623 624 rfl rfl rfl ?_
  refine pv_iconst (M := mL_law) (v := 1) dL_law_624 625 rfl (by decide) ?_
  refine pv_iadd (M := mL_law) (v := 1) dL_law_625 626 rfl (by decide) ?_
  refine pv_sld (M := mL_law) dL_law_626 (pv_in0 (by decide)) (v := xs 1) rfl 627 rfl ?_
  refine pv_aloadS_n (M := mL_law) 0 dL_law_627 628 rfl rfl rfl ?_
  refine pv_iload_n (M := mL_law) 3 dL_law_628 629 rfl rfl rfl ?_
  refine pv_iconst (M := mL_law) (v := 2) dL_law_629 630 rfl (by decide) ?_
  refine pv_iadd (M := mL_law) (v := 2) dL_law_630 631 rfl (by decide) ?_
  refine pv_sld (M := mL_law) dL_law_631 (pv_in0 (by decide)) (v := xs 2) rfl 632 rfl ?_
  refine pv_aloadS_n (M := mL_law) 0 dL_law_632 633 rfl rfl rfl ?_
  refine pv_iload_n (M := mL_law) 3 dL_law_633 634 rfl rfl rfl ?_
  refine pv_iconst (M := mL_law) (v := 3) dL_law_634 635 rfl (by decide) ?_
  refine pv_iadd (M := mL_law) (v := 3) dL_law_635 636 rfl (by decide) ?_
  refine pv_sld (M := mL_law) dL_law_636 (pv_in0 (by decide)) (v := xs 3) rfl 637 rfl ?_
  refine pv_callv (M := mL_law) (as := [.int (xs 1), .int (xs 2), .int (xs 3)]) (st := []) (kc2 := 0) (ks2 := 0) dL_law_637 wd867 YX11_done ⟨wd868, wd869⟩ e0 rfl rfl (k_X11_done g (xs 1) (xs 2) (xs 3) e0) rfl rfl (Nat.le_of_ble_eq_true rfl) (by decide) rfl rfl 640 rfl (pv_k1 ?_)
  refine pv_aload_n (M := mL_law) 2 dL_law_640 641 rfl rfl rfl ?_
  refine pv_aloadS_n (M := mL_law) 0 dL_law_641 642 rfl rfl rfl ?_
  refine pv_iload_n (M := mL_law) 3 dL_law_642 643 rfl rfl rfl ?_
  refine pv_iconst (M := mL_law) (v := 1) dL_law_643 644 rfl (by decide) ?_
  refine pv_iadd (M := mL_law) (v := 1) dL_law_644 645 rfl (by decide) ?_
  refine pv_sld (M := mL_law) dL_law_645 (pv_in0 (by decide)) (v := xs 1) rfl 646 rfl ?_
  refine pv_aloadS_n (M := mL_law) 0 dL_law_646 647 rfl rfl rfl ?_
  refine pv_iload_n (M := mL_law) 3 dL_law_647 648 rfl rfl rfl ?_
  refine pv_iconst (M := mL_law) (v := 2) dL_law_648 649 rfl (by decide) ?_
  refine pv_iadd (M := mL_law) (v := 2) dL_law_649 650 rfl (by decide) ?_
  refine pv_sld (M := mL_law) dL_law_650 (pv_in0 (by decide)) (v := xs 2) rfl 651 rfl ?_
  refine pv_aloadS_n (M := mL_law) 0 dL_law_651 652 rfl rfl rfl ?_
  refine pv_iload_n (M := mL_law) 3 dL_law_652 653 rfl rfl rfl ?_
  refine pv_iconst (M := mL_law) (v := 3) dL_law_653 654 rfl (by decide) ?_
  refine pv_iadd (M := mL_law) (v := 3) dL_law_654 655 rfl (by decide) ?_
  refine pv_sld (M := mL_law) dL_law_655 (pv_in0 (by decide)) (v := xs 3) rfl 656 rfl ?_
  refine pv_callv (M := mL_law) (as := [.int (xs 1), .int (xs 2), .int (xs 3)]) (st := [.int (-1)]) (kc2 := 0) (ks2 := 0) dL_law_656 wd1595 YX12_done ⟨wd1596, wd1597⟩ e123 rfl rfl (k_X12_done g (xs 1) (xs 2) (xs 3) e123) rfl rfl (Nat.le_of_ble_eq_true rfl) (by decide) rfl rfl 659 rfl (pv_k1 ?_)
  refine pv_icmp_eq (M := mL_law) (tgt := 1195) dL_law_659 662 rfl (by decide) (fun _ => ?_) (fun q => absurd (by decide) q)
  refine pv_iinc (M := mL_law) (v := 6) (lo2 := [.retAddr (b + 1), .ref 0, .ref 123, .int 6]) dL_law_1195 1198 rfl rfl (by decide) (by decide) rfl rfl ?_
  refine pv_goto (M := mL_law) (tgt := 18) dL_law_1198 (by decide) ?_
  refine pv_iload_n (M := mL_law) 3 dL_law_18 19 rfl rfl rfl ?_
  refine pv_aloadS_n (M := mL_law) 0 dL_law_19 20 rfl rfl rfl ?_
  refine pv_slen (M := mL_law) dL_law_20 21 rfl ?_
  refine pv_top (M := mL_law) (y := 6) (by decide) ?_
  refine pv_bipush (M := mL_law) (v := 6) dL_law_21 23 rfl (by decide) ?_
  refine pv_isub (M := mL_law) (v := 0) dL_law_23 24 rfl (by decide) ?_
  refine pv_icmp_gt (M := mL_law) (tgt := 1201) dL_law_24 27 rfl (by decide) (fun _ => ?_) (fun q => absurd (by decide) q)
  refine pv_iconst (M := mL_law) (v := 1) dL_law_1201 1202 rfl (by decide) ?_
  exact pv_iret (M := mL_law) dL_law_1202 rfl rfl rfl

set_option maxHeartbeats 4000000 in
set_option maxRecDepth 20000 in
theorem law_c13 (g : pv_G) {b : Nat} {xs : Nat → Int32} {h : List pv_C} (e0 : h[0]? = some (pv_o 11 [.ref 1, .ref 3, .int 0, .ref 60, .ref 77, .ref 86, .ref 97, .int 0, .int 1, .ref 104, .ref 107, .ref 112, .null, .ref 116, .ref 120, .ref 121, .ref 122])) (e123 : h[123]? = some (pv_o 12 [.int 0, .int 0, .int 1, .int 0, .int 0, .ref 124, .ref 125, .ref 126, .ref 127, .ref 128, .ref 129, .int 0, .int 0, .int 0, .int 0, .int 0, .int 0, .int 0, .int 0, .int 0, .int 0, .ref 130, .ref 131, .ref 132, .ref 133, .ref 134, .ref 135, .ref 136, .ref 137, .ref 138, .ref 139, .ref 140, .ref 141, .ref 142, .ref 143, .ref 144, .ref 145, .ref 146, .ref 147, .ref 148, .int 0, .int 0, .ref 149, .ref 150, .ref 151, .ref 152, .ref 153, .ref 154, .ref 155, .ref 156, .int 0, .ref 157, .ref 158, .ref 159, .ref 160, .ref 161, .ref 162, .ref 163, .ref 164, .ref 165, .ref 166, .int 0, .ref 167, .ref 168])) : PV (some (b, 6, xs)) g mL_law (fun r _ => r = some (.int 1)) 20 0 0 664 [.retAddr (b + 1), .ref 0, .ref 123, .int 0] [] h := by
  refine pv_aload_n (M := mL_law) 1 dL_law_664 665 rfl rfl rfl ?_
  refine pv_aloadS_n (M := mL_law) 0 dL_law_665 666 rfl rfl rfl ?_
  refine pv_iload_n (M := mL_law) 3 dL_law_666 667 rfl rfl rfl ?_
  refine pv_iconst (M := mL_law) (v := 1) dL_law_667 668 rfl (by decide) ?_
  refine pv_iadd (M := mL_law) (v := 1) dL_law_668 669 rfl (by decide) ?_
  refine pv_sld (M := mL_law) dL_law_669 (pv_in0 (by decide)) (v := xs 1) rfl 670 rfl ?_
  refine pv_aloadS_n (M := mL_law) 0 dL_law_670 671 rfl rfl rfl ?_
  refine pv_iload_n (M := mL_law) 3 dL_law_671 672 rfl rfl rfl ?_
  refine pv_iconst (M := mL_law) (v := 2) dL_law_672 673 rfl (by decide) ?_
  refine pv_iadd (M := mL_law) (v := 2) dL_law_673 674 rfl (by decide) ?_
  refine pv_sld (M := mL_law) dL_law_674 (pv_in0 (by decide)) (v := xs 2) rfl 675 rfl ?_
  refine pv_aloadS_n (M := mL_law) 0 dL_law_675 676 rfl rfl rfl ?_
  refine pv_iload_n (M := mL_law) 3 dL_law_676 677 rfl rfl rfl ?_
  refine pv_iconst (M := mL_law) (v := 3) dL_law_677 678 rfl (by decide) ?_
  refine pv_iadd (M := mL_law) (v := 3) dL_law_678 679 rfl (by decide) ?_
  refine pv_sld (M := mL_law) dL_law_679 (pv_in0 (by decide)) (v := xs 3) rfl 680 rfl ?_
  refine pv_callv (M := mL_law) (as := [.int (xs 1), .int (xs 2), .int (xs 3)]) (st := []) (kc2 := 0) (ks2 := 0) dL_law_680 wd884 YX11_strokes ⟨wd885, wd886⟩ e0 rfl rfl (k_X11_strokes g (xs 1) (xs 2) (xs 3) e0) rfl rfl (Nat.le_of_ble_eq_true rfl) (by decide) rfl rfl 683 rfl (pv_k1 ?_)
  refine pv_aload_n (M := mL_law) 2 dL_law_683 684 rfl rfl rfl ?_
  refine pv_aloadS_n (M := mL_law) 0 dL_law_684 685 rfl rfl rfl ?_
  refine pv_iload_n (M := mL_law) 3 dL_law_685 686 rfl rfl rfl ?_
  refine pv_iconst (M := mL_law) (v := 1) dL_law_686 687 rfl (by decide) ?_
  refine pv_iadd (M := mL_law) (v := 1) dL_law_687 688 rfl (by decide) ?_
  refine pv_sld (M := mL_law) dL_law_688 (pv_in0 (by decide)) (v := xs 1) rfl 689 rfl ?_
  refine pv_aloadS_n (M := mL_law) 0 dL_law_689 690 rfl rfl rfl ?_
  refine pv_iload_n (M := mL_law) 3 dL_law_690 691 rfl rfl rfl ?_
  refine pv_iconst (M := mL_law) (v := 2) dL_law_691 692 rfl (by decide) ?_
  refine pv_iadd (M := mL_law) (v := 2) dL_law_692 693 rfl (by decide) ?_
  refine pv_sld (M := mL_law) dL_law_693 (pv_in0 (by decide)) (v := xs 2) rfl 694 rfl ?_
  refine pv_aloadS_n (M := mL_law) 0 dL_law_694 695 rfl rfl rfl ?_
  refine pv_iload_n (M := mL_law) 3 dL_law_695 696 rfl rfl rfl ?_
  refine pv_iconst (M := mL_law) (v := 3) dL_law_696 697 rfl (by decide) ?_
  refine pv_iadd (M := mL_law) (v := 3) dL_law_697 698 rfl (by decide) ?_
  refine pv_sld (M := mL_law) dL_law_698 (pv_in0 (by decide)) (v := xs 3) rfl 699 rfl ?_
  refine pv_callv (M := mL_law) (as := [.int (xs 1), .int (xs 2), .int (xs 3)]) (st := [.int (-1)]) (kc2 := 0) (ks2 := 0) dL_law_699 wd1603 YX12_strokes ⟨wd1604, wd1605⟩ e123 rfl rfl (k_X12_strokes g (xs 1) (xs 2) (xs 3) e123) rfl rfl (Nat.le_of_ble_eq_true rfl) (by decide) rfl rfl 702 rfl (pv_k1 ?_)
  refine pv_icmp_eq (M := mL_law) (tgt := 1195) dL_law_702 705 rfl (by decide) (fun _ => ?_) (fun q => absurd (by decide) q)
  refine pv_iinc (M := mL_law) (v := 6) (lo2 := [.retAddr (b + 1), .ref 0, .ref 123, .int 6]) dL_law_1195 1198 rfl rfl (by decide) (by decide) rfl rfl ?_
  refine pv_goto (M := mL_law) (tgt := 18) dL_law_1198 (by decide) ?_
  refine pv_iload_n (M := mL_law) 3 dL_law_18 19 rfl rfl rfl ?_
  refine pv_aloadS_n (M := mL_law) 0 dL_law_19 20 rfl rfl rfl ?_
  refine pv_slen (M := mL_law) dL_law_20 21 rfl ?_
  refine pv_top (M := mL_law) (y := 6) (by decide) ?_
  refine pv_bipush (M := mL_law) (v := 6) dL_law_21 23 rfl (by decide) ?_
  refine pv_isub (M := mL_law) (v := 0) dL_law_23 24 rfl (by decide) ?_
  refine pv_icmp_gt (M := mL_law) (tgt := 1201) dL_law_24 27 rfl (by decide) (fun _ => ?_) (fun q => absurd (by decide) q)
  refine pv_iconst (M := mL_law) (v := 1) dL_law_1201 1202 rfl (by decide) ?_
  exact pv_iret (M := mL_law) dL_law_1202 rfl rfl rfl

set_option maxHeartbeats 4000000 in
set_option maxRecDepth 20000 in
theorem law_c14 (g : pv_G) {b : Nat} {xs : Nat → Int32} {h : List pv_C} (e0 : h[0]? = some (pv_o 11 [.ref 1, .ref 3, .int 0, .ref 60, .ref 77, .ref 86, .ref 97, .int 0, .int 1, .ref 104, .ref 107, .ref 112, .null, .ref 116, .ref 120, .ref 121, .ref 122])) (e123 : h[123]? = some (pv_o 12 [.int 0, .int 0, .int 1, .int 0, .int 0, .ref 124, .ref 125, .ref 126, .ref 127, .ref 128, .ref 129, .int 0, .int 0, .int 0, .int 0, .int 0, .int 0, .int 0, .int 0, .int 0, .int 0, .ref 130, .ref 131, .ref 132, .ref 133, .ref 134, .ref 135, .ref 136, .ref 137, .ref 138, .ref 139, .ref 140, .ref 141, .ref 142, .ref 143, .ref 144, .ref 145, .ref 146, .ref 147, .ref 148, .int 0, .int 0, .ref 149, .ref 150, .ref 151, .ref 152, .ref 153, .ref 154, .ref 155, .ref 156, .int 0, .ref 157, .ref 158, .ref 159, .ref 160, .ref 161, .ref 162, .ref 163, .ref 164, .ref 165, .ref 166, .int 0, .ref 167, .ref 168])) : PV (some (b, 6, xs)) g mL_law (fun r _ => r = some (.int 1)) 20 0 0 707 [.retAddr (b + 1), .ref 0, .ref 123, .int 0] [] h := by
  refine pv_aload_n (M := mL_law) 1 dL_law_707 708 rfl rfl rfl ?_
  refine pv_aloadS_n (M := mL_law) 0 dL_law_708 709 rfl rfl rfl ?_
  refine pv_iload_n (M := mL_law) 3 dL_law_709 710 rfl rfl rfl ?_
  refine pv_iconst (M := mL_law) (v := 1) dL_law_710 711 rfl (by decide) ?_
  refine pv_iadd (M := mL_law) (v := 1) dL_law_711 712 rfl (by decide) ?_
  refine pv_sld (M := mL_law) dL_law_712 (pv_in0 (by decide)) (v := xs 1) rfl 713 rfl ?_
  refine pv_aloadS_n (M := mL_law) 0 dL_law_713 714 rfl rfl rfl ?_
  refine pv_iload_n (M := mL_law) 3 dL_law_714 715 rfl rfl rfl ?_
  refine pv_iconst (M := mL_law) (v := 2) dL_law_715 716 rfl (by decide) ?_
  refine pv_iadd (M := mL_law) (v := 2) dL_law_716 717 rfl (by decide) ?_
  refine pv_sld (M := mL_law) dL_law_717 (pv_in0 (by decide)) (v := xs 2) rfl 718 rfl ?_
  refine pv_aloadS_n (M := mL_law) 0 dL_law_718 719 rfl rfl rfl ?_
  refine pv_iload_n (M := mL_law) 3 dL_law_719 720 rfl rfl rfl ?_
  refine pv_iconst (M := mL_law) (v := 3) dL_law_720 721 rfl (by decide) ?_
  refine pv_iadd (M := mL_law) (v := 3) dL_law_721 722 rfl (by decide) ?_
  refine pv_sld (M := mL_law) dL_law_722 (pv_in0 (by decide)) (v := xs 3) rfl 723 rfl ?_
  refine pv_callv (M := mL_law) (as := [.int (xs 1), .int (xs 2), .int (xs 3)]) (st := []) (kc2 := 0) (ks2 := 0) dL_law_723 wd905 YX11_even ⟨wd906, wd907⟩ e0 rfl rfl (k_X11_even g (xs 1) (xs 2) (xs 3) e0) rfl rfl (Nat.le_of_ble_eq_true rfl) (by decide) rfl rfl 726 rfl (pv_k1 ?_)
  refine pv_aload_n (M := mL_law) 2 dL_law_726 727 rfl rfl rfl ?_
  refine pv_aloadS_n (M := mL_law) 0 dL_law_727 728 rfl rfl rfl ?_
  refine pv_iload_n (M := mL_law) 3 dL_law_728 729 rfl rfl rfl ?_
  refine pv_iconst (M := mL_law) (v := 1) dL_law_729 730 rfl (by decide) ?_
  refine pv_iadd (M := mL_law) (v := 1) dL_law_730 731 rfl (by decide) ?_
  refine pv_sld (M := mL_law) dL_law_731 (pv_in0 (by decide)) (v := xs 1) rfl 732 rfl ?_
  refine pv_aloadS_n (M := mL_law) 0 dL_law_732 733 rfl rfl rfl ?_
  refine pv_iload_n (M := mL_law) 3 dL_law_733 734 rfl rfl rfl ?_
  refine pv_iconst (M := mL_law) (v := 2) dL_law_734 735 rfl (by decide) ?_
  refine pv_iadd (M := mL_law) (v := 2) dL_law_735 736 rfl (by decide) ?_
  refine pv_sld (M := mL_law) dL_law_736 (pv_in0 (by decide)) (v := xs 2) rfl 737 rfl ?_
  refine pv_aloadS_n (M := mL_law) 0 dL_law_737 738 rfl rfl rfl ?_
  refine pv_iload_n (M := mL_law) 3 dL_law_738 739 rfl rfl rfl ?_
  refine pv_iconst (M := mL_law) (v := 3) dL_law_739 740 rfl (by decide) ?_
  refine pv_iadd (M := mL_law) (v := 3) dL_law_740 741 rfl (by decide) ?_
  refine pv_sld (M := mL_law) dL_law_741 (pv_in0 (by decide)) (v := xs 3) rfl 742 rfl ?_
  refine pv_callv (M := mL_law) (as := [.int (xs 1), .int (xs 2), .int (xs 3)]) (st := [.long (-1)]) (kc2 := 0) (ks2 := 0) dL_law_742 wd1614 YX12_even ⟨wd1615, wd1616⟩ e123 rfl rfl (k_X12_even g (xs 1) (xs 2) (xs 3) e123) rfl rfl (Nat.le_of_ble_eq_true rfl) (by decide) rfl rfl 745 rfl (pv_k1 ?_)
  refine pv_lcmp (M := mL_law) (v := 0) dL_law_745 746 rfl (by decide) ?_
  refine pv_if_eq (M := mL_law) (tgt := 1195) dL_law_746 749 rfl (by decide) (fun _ => ?_) (fun q => absurd (by decide) q)
  refine pv_iinc (M := mL_law) (v := 6) (lo2 := [.retAddr (b + 1), .ref 0, .ref 123, .int 6]) dL_law_1195 1198 rfl rfl (by decide) (by decide) rfl rfl ?_
  refine pv_goto (M := mL_law) (tgt := 18) dL_law_1198 (by decide) ?_
  refine pv_iload_n (M := mL_law) 3 dL_law_18 19 rfl rfl rfl ?_
  refine pv_aloadS_n (M := mL_law) 0 dL_law_19 20 rfl rfl rfl ?_
  refine pv_slen (M := mL_law) dL_law_20 21 rfl ?_
  refine pv_top (M := mL_law) (y := 6) (by decide) ?_
  refine pv_bipush (M := mL_law) (v := 6) dL_law_21 23 rfl (by decide) ?_
  refine pv_isub (M := mL_law) (v := 0) dL_law_23 24 rfl (by decide) ?_
  refine pv_icmp_gt (M := mL_law) (tgt := 1201) dL_law_24 27 rfl (by decide) (fun _ => ?_) (fun q => absurd (by decide) q)
  refine pv_iconst (M := mL_law) (v := 1) dL_law_1201 1202 rfl (by decide) ?_
  exact pv_iret (M := mL_law) dL_law_1202 rfl rfl rfl

set_option maxHeartbeats 4000000 in
set_option maxRecDepth 20000 in
theorem law_c15 (g : pv_G) {b : Nat} {xs : Nat → Int32} {h : List pv_C} (e0 : h[0]? = some (pv_o 11 [.ref 1, .ref 3, .int 0, .ref 60, .ref 77, .ref 86, .ref 97, .int 0, .int 1, .ref 104, .ref 107, .ref 112, .null, .ref 116, .ref 120, .ref 121, .ref 122])) (e60 : h[60]? = some (pv_q 5 8 (va_up (va_up (va_up (va_up (va_up (va_up (va_up (va_up (fun _ => none) 0 (some (61))) 1 (some (63))) 2 (some (65))) 3 (some (67))) 4 (some (69))) 5 (some (71))) 6 (some (73))) 7 (some (75))))) (e61 : h[61]? = some (pv_o 8 [.ref 62, .int 0])) (e63 : h[63]? = some (pv_o 8 [.ref 64, .int 0])) (e65 : h[65]? = some (pv_o 8 [.ref 66, .int 0])) (e67 : h[67]? = some (pv_o 8 [.ref 68, .int 0])) (e69 : h[69]? = some (pv_o 8 [.ref 70, .int 0])) (e71 : h[71]? = some (pv_o 8 [.ref 72, .int 0])) (e73 : h[73]? = some (pv_o 8 [.ref 74, .int 0])) (e75 : h[75]? = some (pv_o 8 [.ref 76, .int 0])) (e123 : h[123]? = some (pv_o 12 [.int 0, .int 0, .int 1, .int 0, .int 0, .ref 124, .ref 125, .ref 126, .ref 127, .ref 128, .ref 129, .int 0, .int 0, .int 0, .int 0, .int 0, .int 0, .int 0, .int 0, .int 0, .int 0, .ref 130, .ref 131, .ref 132, .ref 133, .ref 134, .ref 135, .ref 136, .ref 137, .ref 138, .ref 139, .ref 140, .ref 141, .ref 142, .ref 143, .ref 144, .ref 145, .ref 146, .ref 147, .ref 148, .int 0, .int 0, .ref 149, .ref 150, .ref 151, .ref 152, .ref 153, .ref 154, .ref 155, .ref 156, .int 0, .ref 157, .ref 158, .ref 159, .ref 160, .ref 161, .ref 162, .ref 163, .ref 164, .ref 165, .ref 166, .int 0, .ref 167, .ref 168])) : PV (some (b, 6, xs)) g mL_law (fun r _ => r = some (.int 1)) 20 0 0 751 [.retAddr (b + 1), .ref 0, .ref 123, .int 0] [] h := by
  refine pv_aload_n (M := mL_law) 1 dL_law_751 752 rfl rfl rfl ?_
  refine pv_aloadS_n (M := mL_law) 0 dL_law_752 753 rfl rfl rfl ?_
  refine pv_iload_n (M := mL_law) 3 dL_law_753 754 rfl rfl rfl ?_
  refine pv_iconst (M := mL_law) (v := 1) dL_law_754 755 rfl (by decide) ?_
  refine pv_iadd (M := mL_law) (v := 1) dL_law_755 756 rfl (by decide) ?_
  refine pv_sld (M := mL_law) dL_law_756 (pv_in0 (by decide)) (v := xs 1) rfl 757 rfl ?_
  refine pv_aloadS_n (M := mL_law) 0 dL_law_757 758 rfl rfl rfl ?_
  refine pv_iload_n (M := mL_law) 3 dL_law_758 759 rfl rfl rfl ?_
  refine pv_iconst (M := mL_law) (v := 2) dL_law_759 760 rfl (by decide) ?_
  refine pv_iadd (M := mL_law) (v := 2) dL_law_760 761 rfl (by decide) ?_
  refine pv_sld (M := mL_law) dL_law_761 (pv_in0 (by decide)) (v := xs 2) rfl 762 rfl ?_
  refine pv_callv (M := mL_law) (as := [.int (xs 1), .int (xs 2)]) (st := []) (kc2 := 0) (ks2 := 0) dL_law_762 wd909 YX11_hidden ⟨wd910, wd911⟩ e0 rfl rfl (k_X11_hidden g (xs 1) (xs 2) e0 e60 e61 e63 e65 e67 e69 e71 e73 e75) rfl rfl (Nat.le_of_ble_eq_true rfl) (by decide) rfl rfl 765 rfl (pv_k1 ?_)
  refine pv_aload_n (M := mL_law) 2 dL_law_765 766 rfl rfl rfl ?_
  refine pv_aloadS_n (M := mL_law) 0 dL_law_766 767 rfl rfl rfl ?_
  refine pv_iload_n (M := mL_law) 3 dL_law_767 768 rfl rfl rfl ?_
  refine pv_iconst (M := mL_law) (v := 1) dL_law_768 769 rfl (by decide) ?_
  refine pv_iadd (M := mL_law) (v := 1) dL_law_769 770 rfl (by decide) ?_
  refine pv_sld (M := mL_law) dL_law_770 (pv_in0 (by decide)) (v := xs 1) rfl 771 rfl ?_
  refine pv_aloadS_n (M := mL_law) 0 dL_law_771 772 rfl rfl rfl ?_
  refine pv_iload_n (M := mL_law) 3 dL_law_772 773 rfl rfl rfl ?_
  refine pv_iconst (M := mL_law) (v := 2) dL_law_773 774 rfl (by decide) ?_
  refine pv_iadd (M := mL_law) (v := 2) dL_law_774 775 rfl (by decide) ?_
  refine pv_sld (M := mL_law) dL_law_775 (pv_in0 (by decide)) (v := xs 2) rfl 776 rfl ?_
  refine pv_callv (M := mL_law) (as := [.int (xs 1), .int (xs 2)]) (st := [.int (-1)]) (kc2 := 0) (ks2 := 0) dL_law_776 wd1618 YX12_hidden ⟨wd1619, wd1620⟩ e123 rfl rfl (k_X12_hidden g (xs 1) (xs 2) e123) rfl rfl (Nat.le_of_ble_eq_true rfl) (by decide) rfl rfl 779 rfl (pv_k1 ?_)
  refine pv_icmp_eq (M := mL_law) (tgt := 1195) dL_law_779 782 rfl (by decide) (fun _ => ?_) (fun q => absurd (by decide) q)
  refine pv_iinc (M := mL_law) (v := 6) (lo2 := [.retAddr (b + 1), .ref 0, .ref 123, .int 6]) dL_law_1195 1198 rfl rfl (by decide) (by decide) rfl rfl ?_
  refine pv_goto (M := mL_law) (tgt := 18) dL_law_1198 (by decide) ?_
  refine pv_iload_n (M := mL_law) 3 dL_law_18 19 rfl rfl rfl ?_
  refine pv_aloadS_n (M := mL_law) 0 dL_law_19 20 rfl rfl rfl ?_
  refine pv_slen (M := mL_law) dL_law_20 21 rfl ?_
  refine pv_top (M := mL_law) (y := 6) (by decide) ?_
  refine pv_bipush (M := mL_law) (v := 6) dL_law_21 23 rfl (by decide) ?_
  refine pv_isub (M := mL_law) (v := 0) dL_law_23 24 rfl (by decide) ?_
  refine pv_icmp_gt (M := mL_law) (tgt := 1201) dL_law_24 27 rfl (by decide) (fun _ => ?_) (fun q => absurd (by decide) q)
  refine pv_iconst (M := mL_law) (v := 1) dL_law_1201 1202 rfl (by decide) ?_
  exact pv_iret (M := mL_law) dL_law_1202 rfl rfl rfl

set_option maxHeartbeats 4000000 in
set_option maxRecDepth 20000 in
theorem law_c16 (g : pv_G) {b : Nat} {xs : Nat → Int32} {h : List pv_C} (e0 : h[0]? = some (pv_o 11 [.ref 1, .ref 3, .int 0, .ref 60, .ref 77, .ref 86, .ref 97, .int 0, .int 1, .ref 104, .ref 107, .ref 112, .null, .ref 116, .ref 120, .ref 121, .ref 122])) (e60 : h[60]? = some (pv_q 5 8 (va_up (va_up (va_up (va_up (va_up (va_up (va_up (va_up (fun _ => none) 0 (some (61))) 1 (some (63))) 2 (some (65))) 3 (some (67))) 4 (some (69))) 5 (some (71))) 6 (some (73))) 7 (some (75))))) (e61 : h[61]? = some (pv_o 8 [.ref 62, .int 0])) (e63 : h[63]? = some (pv_o 8 [.ref 64, .int 0])) (e65 : h[65]? = some (pv_o 8 [.ref 66, .int 0])) (e67 : h[67]? = some (pv_o 8 [.ref 68, .int 0])) (e69 : h[69]? = some (pv_o 8 [.ref 70, .int 0])) (e71 : h[71]? = some (pv_o 8 [.ref 72, .int 0])) (e73 : h[73]? = some (pv_o 8 [.ref 74, .int 0])) (e75 : h[75]? = some (pv_o 8 [.ref 76, .int 0])) (e123 : h[123]? = some (pv_o 12 [.int 0, .int 0, .int 1, .int 0, .int 0, .ref 124, .ref 125, .ref 126, .ref 127, .ref 128, .ref 129, .int 0, .int 0, .int 0, .int 0, .int 0, .int 0, .int 0, .int 0, .int 0, .int 0, .ref 130, .ref 131, .ref 132, .ref 133, .ref 134, .ref 135, .ref 136, .ref 137, .ref 138, .ref 139, .ref 140, .ref 141, .ref 142, .ref 143, .ref 144, .ref 145, .ref 146, .ref 147, .ref 148, .int 0, .int 0, .ref 149, .ref 150, .ref 151, .ref 152, .ref 153, .ref 154, .ref 155, .ref 156, .int 0, .ref 157, .ref 158, .ref 159, .ref 160, .ref 161, .ref 162, .ref 163, .ref 164, .ref 165, .ref 166, .int 0, .ref 167, .ref 168])) : PV (some (b, 6, xs)) g mL_law (fun r _ => r = some (.int 1)) 20 0 0 784 [.retAddr (b + 1), .ref 0, .ref 123, .int 0] [] h := by
  refine pv_aload_n (M := mL_law) 1 dL_law_784 785 rfl rfl rfl ?_
  refine pv_aloadS_n (M := mL_law) 0 dL_law_785 786 rfl rfl rfl ?_
  refine pv_iload_n (M := mL_law) 3 dL_law_786 787 rfl rfl rfl ?_
  refine pv_iconst (M := mL_law) (v := 1) dL_law_787 788 rfl (by decide) ?_
  refine pv_iadd (M := mL_law) (v := 1) dL_law_788 789 rfl (by decide) ?_
  refine pv_sld (M := mL_law) dL_law_789 (pv_in0 (by decide)) (v := xs 1) rfl 790 rfl ?_
  refine pv_aloadS_n (M := mL_law) 0 dL_law_790 791 rfl rfl rfl ?_
  refine pv_iload_n (M := mL_law) 3 dL_law_791 792 rfl rfl rfl ?_
  refine pv_iconst (M := mL_law) (v := 2) dL_law_792 793 rfl (by decide) ?_
  refine pv_iadd (M := mL_law) (v := 2) dL_law_793 794 rfl (by decide) ?_
  refine pv_sld (M := mL_law) dL_law_794 (pv_in0 (by decide)) (v := xs 2) rfl 795 rfl ?_
  refine pv_callv (M := mL_law) (as := [.int (xs 1), .int (xs 2)]) (st := []) (kc2 := 0) (ks2 := 0) dL_law_795 wd955 YX11_shortest ⟨wd956, wd957⟩ e0 rfl rfl (k_X11_shortest g (xs 1) (xs 2) e0 e60 e61 e63 e65 e67 e69 e71 e73 e75) rfl rfl (Nat.le_of_ble_eq_true rfl) (by decide) rfl rfl 798 rfl (pv_k1 ?_)
  refine pv_aload_n (M := mL_law) 2 dL_law_798 799 rfl rfl rfl ?_
  refine pv_aloadS_n (M := mL_law) 0 dL_law_799 800 rfl rfl rfl ?_
  refine pv_iload_n (M := mL_law) 3 dL_law_800 801 rfl rfl rfl ?_
  refine pv_iconst (M := mL_law) (v := 1) dL_law_801 802 rfl (by decide) ?_
  refine pv_iadd (M := mL_law) (v := 1) dL_law_802 803 rfl (by decide) ?_
  refine pv_sld (M := mL_law) dL_law_803 (pv_in0 (by decide)) (v := xs 1) rfl 804 rfl ?_
  refine pv_aloadS_n (M := mL_law) 0 dL_law_804 805 rfl rfl rfl ?_
  refine pv_iload_n (M := mL_law) 3 dL_law_805 806 rfl rfl rfl ?_
  refine pv_iconst (M := mL_law) (v := 2) dL_law_806 807 rfl (by decide) ?_
  refine pv_iadd (M := mL_law) (v := 2) dL_law_807 808 rfl (by decide) ?_
  refine pv_sld (M := mL_law) dL_law_808 (pv_in0 (by decide)) (v := xs 2) rfl 809 rfl ?_
  refine pv_callv (M := mL_law) (as := [.int (xs 1), .int (xs 2)]) (st := [.int (-1)]) (kc2 := 0) (ks2 := 0) dL_law_809 wd1656 YX12_shortest ⟨wd1657, wd1658⟩ e123 rfl rfl (k_X12_shortest g (xs 1) (xs 2) e123) rfl rfl (Nat.le_of_ble_eq_true rfl) (by decide) rfl rfl 812 rfl (pv_k1 ?_)
  refine pv_icmp_eq (M := mL_law) (tgt := 1195) dL_law_812 815 rfl (by decide) (fun _ => ?_) (fun q => absurd (by decide) q)
  refine pv_iinc (M := mL_law) (v := 6) (lo2 := [.retAddr (b + 1), .ref 0, .ref 123, .int 6]) dL_law_1195 1198 rfl rfl (by decide) (by decide) rfl rfl ?_
  refine pv_goto (M := mL_law) (tgt := 18) dL_law_1198 (by decide) ?_
  refine pv_iload_n (M := mL_law) 3 dL_law_18 19 rfl rfl rfl ?_
  refine pv_aloadS_n (M := mL_law) 0 dL_law_19 20 rfl rfl rfl ?_
  refine pv_slen (M := mL_law) dL_law_20 21 rfl ?_
  refine pv_top (M := mL_law) (y := 6) (by decide) ?_
  refine pv_bipush (M := mL_law) (v := 6) dL_law_21 23 rfl (by decide) ?_
  refine pv_isub (M := mL_law) (v := 0) dL_law_23 24 rfl (by decide) ?_
  refine pv_icmp_gt (M := mL_law) (tgt := 1201) dL_law_24 27 rfl (by decide) (fun _ => ?_) (fun q => absurd (by decide) q)
  refine pv_iconst (M := mL_law) (v := 1) dL_law_1201 1202 rfl (by decide) ?_
  exact pv_iret (M := mL_law) dL_law_1202 rfl rfl rfl

set_option maxHeartbeats 4000000 in
set_option maxRecDepth 20000 in
theorem law_c17 (g : pv_G) {b : Nat} {xs : Nat → Int32} {h : List pv_C} (e0 : h[0]? = some (pv_o 11 [.ref 1, .ref 3, .int 0, .ref 60, .ref 77, .ref 86, .ref 97, .int 0, .int 1, .ref 104, .ref 107, .ref 112, .null, .ref 116, .ref 120, .ref 121, .ref 122])) (e60 : h[60]? = some (pv_q 5 8 (va_up (va_up (va_up (va_up (va_up (va_up (va_up (va_up (fun _ => none) 0 (some (61))) 1 (some (63))) 2 (some (65))) 3 (some (67))) 4 (some (69))) 5 (some (71))) 6 (some (73))) 7 (some (75))))) (e61 : h[61]? = some (pv_o 8 [.ref 62, .int 0])) (e63 : h[63]? = some (pv_o 8 [.ref 64, .int 0])) (e65 : h[65]? = some (pv_o 8 [.ref 66, .int 0])) (e67 : h[67]? = some (pv_o 8 [.ref 68, .int 0])) (e69 : h[69]? = some (pv_o 8 [.ref 70, .int 0])) (e71 : h[71]? = some (pv_o 8 [.ref 72, .int 0])) (e73 : h[73]? = some (pv_o 8 [.ref 74, .int 0])) (e75 : h[75]? = some (pv_o 8 [.ref 76, .int 0])) (e123 : h[123]? = some (pv_o 12 [.int 0, .int 0, .int 1, .int 0, .int 0, .ref 124, .ref 125, .ref 126, .ref 127, .ref 128, .ref 129, .int 0, .int 0, .int 0, .int 0, .int 0, .int 0, .int 0, .int 0, .int 0, .int 0, .ref 130, .ref 131, .ref 132, .ref 133, .ref 134, .ref 135, .ref 136, .ref 137, .ref 138, .ref 139, .ref 140, .ref 141, .ref 142, .ref 143, .ref 144, .ref 145, .ref 146, .ref 147, .ref 148, .int 0, .int 0, .ref 149, .ref 150, .ref 151, .ref 152, .ref 153, .ref 154, .ref 155, .ref 156, .int 0, .ref 157, .ref 158, .ref 159, .ref 160, .ref 161, .ref 162, .ref 163, .ref 164, .ref 165, .ref 166, .int 0, .ref 167, .ref 168])) : PV (some (b, 6, xs)) g mL_law (fun r _ => r = some (.int 1)) 20 0 0 817 [.retAddr (b + 1), .ref 0, .ref 123, .int 0] [] h := by
  refine pv_aload_n (M := mL_law) 1 dL_law_817 818 rfl rfl rfl ?_
  refine pv_aloadS_n (M := mL_law) 0 dL_law_818 819 rfl rfl rfl ?_
  refine pv_iload_n (M := mL_law) 3 dL_law_819 820 rfl rfl rfl ?_
  refine pv_iconst (M := mL_law) (v := 1) dL_law_820 821 rfl (by decide) ?_
  refine pv_iadd (M := mL_law) (v := 1) dL_law_821 822 rfl (by decide) ?_
  refine pv_sld (M := mL_law) dL_law_822 (pv_in0 (by decide)) (v := xs 1) rfl 823 rfl ?_
  refine pv_callv (M := mL_law) (as := [.int (xs 1)]) (st := []) (kc2 := 0) (ks2 := 0) dL_law_823 wd1044 YX11_shortestMany ⟨wd1045, wd1046⟩ e0 rfl rfl (k_X11_shortestMany g (xs 1) e0 e60 e61 e63 e65 e67 e69 e71 e73 e75) rfl rfl (Nat.le_of_ble_eq_true rfl) (by decide) rfl rfl 826 rfl (pv_k1 ?_)
  refine pv_aload_n (M := mL_law) 2 dL_law_826 827 rfl rfl rfl ?_
  refine pv_aloadS_n (M := mL_law) 0 dL_law_827 828 rfl rfl rfl ?_
  refine pv_iload_n (M := mL_law) 3 dL_law_828 829 rfl rfl rfl ?_
  refine pv_iconst (M := mL_law) (v := 1) dL_law_829 830 rfl (by decide) ?_
  refine pv_iadd (M := mL_law) (v := 1) dL_law_830 831 rfl (by decide) ?_
  refine pv_sld (M := mL_law) dL_law_831 (pv_in0 (by decide)) (v := xs 1) rfl 832 rfl ?_
  refine pv_callv (M := mL_law) (as := [.int (xs 1)]) (st := [.long (-1)]) (kc2 := 0) (ks2 := 0) dL_law_832 wd1683 YX12_shortestMany ⟨wd1684, wd1685⟩ e123 rfl rfl (k_X12_shortestMany g (xs 1) e123) rfl rfl (Nat.le_of_ble_eq_true rfl) (by decide) rfl rfl 835 rfl (pv_k1 ?_)
  refine pv_lcmp (M := mL_law) (v := 0) dL_law_835 836 rfl (by decide) ?_
  refine pv_if_eq (M := mL_law) (tgt := 1195) dL_law_836 839 rfl (by decide) (fun _ => ?_) (fun q => absurd (by decide) q)
  refine pv_iinc (M := mL_law) (v := 6) (lo2 := [.retAddr (b + 1), .ref 0, .ref 123, .int 6]) dL_law_1195 1198 rfl rfl (by decide) (by decide) rfl rfl ?_
  refine pv_goto (M := mL_law) (tgt := 18) dL_law_1198 (by decide) ?_
  refine pv_iload_n (M := mL_law) 3 dL_law_18 19 rfl rfl rfl ?_
  refine pv_aloadS_n (M := mL_law) 0 dL_law_19 20 rfl rfl rfl ?_
  refine pv_slen (M := mL_law) dL_law_20 21 rfl ?_
  refine pv_top (M := mL_law) (y := 6) (by decide) ?_
  refine pv_bipush (M := mL_law) (v := 6) dL_law_21 23 rfl (by decide) ?_
  refine pv_isub (M := mL_law) (v := 0) dL_law_23 24 rfl (by decide) ?_
  refine pv_icmp_gt (M := mL_law) (tgt := 1201) dL_law_24 27 rfl (by decide) (fun _ => ?_) (fun q => absurd (by decide) q)
  refine pv_iconst (M := mL_law) (v := 1) dL_law_1201 1202 rfl (by decide) ?_
  exact pv_iret (M := mL_law) dL_law_1202 rfl rfl rfl

set_option maxHeartbeats 4000000 in
set_option maxRecDepth 20000 in
theorem law_c18 (g : pv_G) {b : Nat} {xs : Nat → Int32} {h : List pv_C} (e0 : h[0]? = some (pv_o 11 [.ref 1, .ref 3, .int 0, .ref 60, .ref 77, .ref 86, .ref 97, .int 0, .int 1, .ref 104, .ref 107, .ref 112, .null, .ref 116, .ref 120, .ref 121, .ref 122])) (e60 : h[60]? = some (pv_q 5 8 (va_up (va_up (va_up (va_up (va_up (va_up (va_up (va_up (fun _ => none) 0 (some (61))) 1 (some (63))) 2 (some (65))) 3 (some (67))) 4 (some (69))) 5 (some (71))) 6 (some (73))) 7 (some (75))))) (e61 : h[61]? = some (pv_o 8 [.ref 62, .int 0])) (e63 : h[63]? = some (pv_o 8 [.ref 64, .int 0])) (e65 : h[65]? = some (pv_o 8 [.ref 66, .int 0])) (e67 : h[67]? = some (pv_o 8 [.ref 68, .int 0])) (e69 : h[69]? = some (pv_o 8 [.ref 70, .int 0])) (e71 : h[71]? = some (pv_o 8 [.ref 72, .int 0])) (e73 : h[73]? = some (pv_o 8 [.ref 74, .int 0])) (e75 : h[75]? = some (pv_o 8 [.ref 76, .int 0])) (e123 : h[123]? = some (pv_o 12 [.int 0, .int 0, .int 1, .int 0, .int 0, .ref 124, .ref 125, .ref 126, .ref 127, .ref 128, .ref 129, .int 0, .int 0, .int 0, .int 0, .int 0, .int 0, .int 0, .int 0, .int 0, .int 0, .ref 130, .ref 131, .ref 132, .ref 133, .ref 134, .ref 135, .ref 136, .ref 137, .ref 138, .ref 139, .ref 140, .ref 141, .ref 142, .ref 143, .ref 144, .ref 145, .ref 146, .ref 147, .ref 148, .int 0, .int 0, .ref 149, .ref 150, .ref 151, .ref 152, .ref 153, .ref 154, .ref 155, .ref 156, .int 0, .ref 157, .ref 158, .ref 159, .ref 160, .ref 161, .ref 162, .ref 163, .ref 164, .ref 165, .ref 166, .int 0, .ref 167, .ref 168])) : PV (some (b, 6, xs)) g mL_law (fun r _ => r = some (.int 1)) 20 0 0 841 [.retAddr (b + 1), .ref 0, .ref 123, .int 0] [] h := by
  refine pv_aload_n (M := mL_law) 1 dL_law_841 842 rfl rfl rfl ?_
  refine pv_aloadS_n (M := mL_law) 0 dL_law_842 843 rfl rfl rfl ?_
  refine pv_iload_n (M := mL_law) 3 dL_law_843 844 rfl rfl rfl ?_
  refine pv_iconst (M := mL_law) (v := 1) dL_law_844 845 rfl (by decide) ?_
  refine pv_iadd (M := mL_law) (v := 1) dL_law_845 846 rfl (by decide) ?_
  refine pv_sld (M := mL_law) dL_law_846 (pv_in0 (by decide)) (v := xs 1) rfl 847 rfl ?_
  refine pv_callv (M := mL_law) (as := [.int (xs 1)]) (st := []) (kc2 := 0) (ks2 := 0) dL_law_847 wd1052 YX11_bound ⟨wd1053, wd1054⟩ e0 rfl rfl (k_X11_bound g (xs 1) e0 e60 e61 e63 e65 e67 e69 e71 e73 e75) rfl rfl (Nat.le_of_ble_eq_true rfl) (by decide) rfl rfl 850 rfl (pv_k1 ?_)
  refine pv_aload_n (M := mL_law) 2 dL_law_850 851 rfl rfl rfl ?_
  refine pv_aloadS_n (M := mL_law) 0 dL_law_851 852 rfl rfl rfl ?_
  refine pv_iload_n (M := mL_law) 3 dL_law_852 853 rfl rfl rfl ?_
  refine pv_iconst (M := mL_law) (v := 1) dL_law_853 854 rfl (by decide) ?_
  refine pv_iadd (M := mL_law) (v := 1) dL_law_854 855 rfl (by decide) ?_
  refine pv_sld (M := mL_law) dL_law_855 (pv_in0 (by decide)) (v := xs 1) rfl 856 rfl ?_
  refine pv_callv (M := mL_law) (as := [.int (xs 1)]) (st := [.int (-1)]) (kc2 := 0) (ks2 := 0) dL_law_856 wd1688 YX12_bound ⟨wd1689, wd1690⟩ e123 rfl rfl (k_X12_bound g (xs 1) e123) rfl rfl (Nat.le_of_ble_eq_true rfl) (by decide) rfl rfl 859 rfl (pv_k1 ?_)
  refine pv_icmp_eq (M := mL_law) (tgt := 1195) dL_law_859 862 rfl (by decide) (fun _ => ?_) (fun q => absurd (by decide) q)
  refine pv_iinc (M := mL_law) (v := 6) (lo2 := [.retAddr (b + 1), .ref 0, .ref 123, .int 6]) dL_law_1195 1198 rfl rfl (by decide) (by decide) rfl rfl ?_
  refine pv_goto (M := mL_law) (tgt := 18) dL_law_1198 (by decide) ?_
  refine pv_iload_n (M := mL_law) 3 dL_law_18 19 rfl rfl rfl ?_
  refine pv_aloadS_n (M := mL_law) 0 dL_law_19 20 rfl rfl rfl ?_
  refine pv_slen (M := mL_law) dL_law_20 21 rfl ?_
  refine pv_top (M := mL_law) (y := 6) (by decide) ?_
  refine pv_bipush (M := mL_law) (v := 6) dL_law_21 23 rfl (by decide) ?_
  refine pv_isub (M := mL_law) (v := 0) dL_law_23 24 rfl (by decide) ?_
  refine pv_icmp_gt (M := mL_law) (tgt := 1201) dL_law_24 27 rfl (by decide) (fun _ => ?_) (fun q => absurd (by decide) q)
  refine pv_iconst (M := mL_law) (v := 1) dL_law_1201 1202 rfl (by decide) ?_
  exact pv_iret (M := mL_law) dL_law_1202 rfl rfl rfl

set_option maxHeartbeats 4000000 in
set_option maxRecDepth 20000 in
theorem law_c19 (g : pv_G) {b : Nat} {xs : Nat → Int32} {h : List pv_C} (e0 : h[0]? = some (pv_o 11 [.ref 1, .ref 3, .int 0, .ref 60, .ref 77, .ref 86, .ref 97, .int 0, .int 1, .ref 104, .ref 107, .ref 112, .null, .ref 116, .ref 120, .ref 121, .ref 122])) (e60 : h[60]? = some (pv_q 5 8 (va_up (va_up (va_up (va_up (va_up (va_up (va_up (va_up (fun _ => none) 0 (some (61))) 1 (some (63))) 2 (some (65))) 3 (some (67))) 4 (some (69))) 5 (some (71))) 6 (some (73))) 7 (some (75))))) (e61 : h[61]? = some (pv_o 8 [.ref 62, .int 0])) (e63 : h[63]? = some (pv_o 8 [.ref 64, .int 0])) (e65 : h[65]? = some (pv_o 8 [.ref 66, .int 0])) (e67 : h[67]? = some (pv_o 8 [.ref 68, .int 0])) (e69 : h[69]? = some (pv_o 8 [.ref 70, .int 0])) (e71 : h[71]? = some (pv_o 8 [.ref 72, .int 0])) (e73 : h[73]? = some (pv_o 8 [.ref 74, .int 0])) (e75 : h[75]? = some (pv_o 8 [.ref 76, .int 0])) (e123 : h[123]? = some (pv_o 12 [.int 0, .int 0, .int 1, .int 0, .int 0, .ref 124, .ref 125, .ref 126, .ref 127, .ref 128, .ref 129, .int 0, .int 0, .int 0, .int 0, .int 0, .int 0, .int 0, .int 0, .int 0, .int 0, .ref 130, .ref 131, .ref 132, .ref 133, .ref 134, .ref 135, .ref 136, .ref 137, .ref 138, .ref 139, .ref 140, .ref 141, .ref 142, .ref 143, .ref 144, .ref 145, .ref 146, .ref 147, .ref 148, .int 0, .int 0, .ref 149, .ref 150, .ref 151, .ref 152, .ref 153, .ref 154, .ref 155, .ref 156, .int 0, .ref 157, .ref 158, .ref 159, .ref 160, .ref 161, .ref 162, .ref 163, .ref 164, .ref 165, .ref 166, .int 0, .ref 167, .ref 168])) : PV (some (b, 6, xs)) g mL_law (fun r _ => r = some (.int 1)) 20 0 0 864 [.retAddr (b + 1), .ref 0, .ref 123, .int 0] [] h := by
  refine pv_aload_n (M := mL_law) 1 dL_law_864 865 rfl rfl rfl ?_
  refine pv_aloadS_n (M := mL_law) 0 dL_law_865 866 rfl rfl rfl ?_
  refine pv_iload_n (M := mL_law) 3 dL_law_866 867 rfl rfl rfl ?_
  refine pv_iconst (M := mL_law) (v := 1) dL_law_867 868 rfl (by decide) ?_
  refine pv_iadd (M := mL_law) (v := 1) dL_law_868 869 rfl (by decide) ?_
  refine pv_sld (M := mL_law) dL_law_869 (pv_in0 (by decide)) (v := xs 1) rfl 870 rfl ?_
  refine pv_callv (M := mL_law) (as := [.int (xs 1)]) (st := []) (kc2 := 0) (ks2 := 0) dL_law_870 wd1056 YX11_forged ⟨wd1057, wd1058⟩ e0 rfl rfl (k_X11_forged g (xs 1) e0 e60 e61 e63 e65 e67 e69 e71 e73 e75) rfl rfl (Nat.le_of_ble_eq_true rfl) (by decide) rfl rfl 873 rfl (pv_k1 ?_)
  refine pv_aload_n (M := mL_law) 2 dL_law_873 874 rfl rfl rfl ?_
  refine pv_aloadS_n (M := mL_law) 0 dL_law_874 875 rfl rfl rfl ?_
  refine pv_iload_n (M := mL_law) 3 dL_law_875 876 rfl rfl rfl ?_
  refine pv_iconst (M := mL_law) (v := 1) dL_law_876 877 rfl (by decide) ?_
  refine pv_iadd (M := mL_law) (v := 1) dL_law_877 878 rfl (by decide) ?_
  refine pv_sld (M := mL_law) dL_law_878 (pv_in0 (by decide)) (v := xs 1) rfl 879 rfl ?_
  refine pv_callv (M := mL_law) (as := [.int (xs 1)]) (st := [.int (-1)]) (kc2 := 0) (ks2 := 0) dL_law_879 wd1692 YX12_forged ⟨wd1693, wd1694⟩ e123 rfl rfl (k_X12_forged g (xs 1) e123) rfl rfl (Nat.le_of_ble_eq_true rfl) (by decide) rfl rfl 882 rfl (pv_k1 ?_)
  refine pv_icmp_eq (M := mL_law) (tgt := 1195) dL_law_882 885 rfl (by decide) (fun _ => ?_) (fun q => absurd (by decide) q)
  refine pv_iinc (M := mL_law) (v := 6) (lo2 := [.retAddr (b + 1), .ref 0, .ref 123, .int 6]) dL_law_1195 1198 rfl rfl (by decide) (by decide) rfl rfl ?_
  refine pv_goto (M := mL_law) (tgt := 18) dL_law_1198 (by decide) ?_
  refine pv_iload_n (M := mL_law) 3 dL_law_18 19 rfl rfl rfl ?_
  refine pv_aloadS_n (M := mL_law) 0 dL_law_19 20 rfl rfl rfl ?_
  refine pv_slen (M := mL_law) dL_law_20 21 rfl ?_
  refine pv_top (M := mL_law) (y := 6) (by decide) ?_
  refine pv_bipush (M := mL_law) (v := 6) dL_law_21 23 rfl (by decide) ?_
  refine pv_isub (M := mL_law) (v := 0) dL_law_23 24 rfl (by decide) ?_
  refine pv_icmp_gt (M := mL_law) (tgt := 1201) dL_law_24 27 rfl (by decide) (fun _ => ?_) (fun q => absurd (by decide) q)
  refine pv_iconst (M := mL_law) (v := 1) dL_law_1201 1202 rfl (by decide) ?_
  exact pv_iret (M := mL_law) dL_law_1202 rfl rfl rfl

set_option maxHeartbeats 4000000 in
set_option maxRecDepth 20000 in
theorem law_c20 (g : pv_G) {b : Nat} {xs : Nat → Int32} {h : List pv_C} (e0 : h[0]? = some (pv_o 11 [.ref 1, .ref 3, .int 0, .ref 60, .ref 77, .ref 86, .ref 97, .int 0, .int 1, .ref 104, .ref 107, .ref 112, .null, .ref 116, .ref 120, .ref 121, .ref 122])) (e123 : h[123]? = some (pv_o 12 [.int 0, .int 0, .int 1, .int 0, .int 0, .ref 124, .ref 125, .ref 126, .ref 127, .ref 128, .ref 129, .int 0, .int 0, .int 0, .int 0, .int 0, .int 0, .int 0, .int 0, .int 0, .int 0, .ref 130, .ref 131, .ref 132, .ref 133, .ref 134, .ref 135, .ref 136, .ref 137, .ref 138, .ref 139, .ref 140, .ref 141, .ref 142, .ref 143, .ref 144, .ref 145, .ref 146, .ref 147, .ref 148, .int 0, .int 0, .ref 149, .ref 150, .ref 151, .ref 152, .ref 153, .ref 154, .ref 155, .ref 156, .int 0, .ref 157, .ref 158, .ref 159, .ref 160, .ref 161, .ref 162, .ref 163, .ref 164, .ref 165, .ref 166, .int 0, .ref 167, .ref 168])) : PV (some (b, 6, xs)) g mL_law (fun r _ => r = some (.int 1)) 20 0 0 887 [.retAddr (b + 1), .ref 0, .ref 123, .int 0] [] h := by
  refine pv_aload_n (M := mL_law) 1 dL_law_887 888 rfl rfl rfl ?_
  refine pv_aloadS_n (M := mL_law) 0 dL_law_888 889 rfl rfl rfl ?_
  refine pv_iload_n (M := mL_law) 3 dL_law_889 890 rfl rfl rfl ?_
  refine pv_iconst (M := mL_law) (v := 1) dL_law_890 891 rfl (by decide) ?_
  refine pv_iadd (M := mL_law) (v := 1) dL_law_891 892 rfl (by decide) ?_
  refine pv_sld (M := mL_law) dL_law_892 (pv_in0 (by decide)) (v := xs 1) rfl 893 rfl ?_
  refine pv_aloadS_n (M := mL_law) 0 dL_law_893 894 rfl rfl rfl ?_
  refine pv_iload_n (M := mL_law) 3 dL_law_894 895 rfl rfl rfl ?_
  refine pv_iconst (M := mL_law) (v := 2) dL_law_895 896 rfl (by decide) ?_
  refine pv_iadd (M := mL_law) (v := 2) dL_law_896 897 rfl (by decide) ?_
  refine pv_sld (M := mL_law) dL_law_897 (pv_in0 (by decide)) (v := xs 2) rfl 898 rfl ?_
  refine pv_callv (M := mL_law) (as := [.int (xs 1), .int (xs 2)]) (st := []) (kc2 := 0) (ks2 := 0) dL_law_898 wd1068 YX11_spare ⟨wd1069, wd1070⟩ e0 rfl rfl (k_X11_spare g (xs 1) (xs 2) e0) rfl rfl (Nat.le_of_ble_eq_true rfl) (by decide) rfl rfl 901 rfl (pv_k1 ?_)
  refine pv_aload_n (M := mL_law) 2 dL_law_901 902 rfl rfl rfl ?_
  refine pv_aloadS_n (M := mL_law) 0 dL_law_902 903 rfl rfl rfl ?_
  refine pv_iload_n (M := mL_law) 3 dL_law_903 904 rfl rfl rfl ?_
  refine pv_iconst (M := mL_law) (v := 1) dL_law_904 905 rfl (by decide) ?_
  refine pv_iadd (M := mL_law) (v := 1) dL_law_905 906 rfl (by decide) ?_
  refine pv_sld (M := mL_law) dL_law_906 (pv_in0 (by decide)) (v := xs 1) rfl 907 rfl ?_
  refine pv_aloadS_n (M := mL_law) 0 dL_law_907 908 rfl rfl rfl ?_
  refine pv_iload_n (M := mL_law) 3 dL_law_908 909 rfl rfl rfl ?_
  refine pv_iconst (M := mL_law) (v := 2) dL_law_909 910 rfl (by decide) ?_
  refine pv_iadd (M := mL_law) (v := 2) dL_law_910 911 rfl (by decide) ?_
  refine pv_sld (M := mL_law) dL_law_911 (pv_in0 (by decide)) (v := xs 2) rfl 912 rfl ?_
  refine pv_callv (M := mL_law) (as := [.int (xs 1), .int (xs 2)]) (st := [.long (-1)]) (kc2 := 0) (ks2 := 0) dL_law_912 wd1700 YX12_spare ⟨wd1701, wd1702⟩ e123 rfl rfl (k_X12_spare g (xs 1) (xs 2) e123) rfl rfl (Nat.le_of_ble_eq_true rfl) (by decide) rfl rfl 915 rfl (pv_k1 ?_)
  refine pv_lcmp (M := mL_law) (v := 0) dL_law_915 916 rfl (by decide) ?_
  refine pv_if_eq (M := mL_law) (tgt := 1195) dL_law_916 919 rfl (by decide) (fun _ => ?_) (fun q => absurd (by decide) q)
  refine pv_iinc (M := mL_law) (v := 6) (lo2 := [.retAddr (b + 1), .ref 0, .ref 123, .int 6]) dL_law_1195 1198 rfl rfl (by decide) (by decide) rfl rfl ?_
  refine pv_goto (M := mL_law) (tgt := 18) dL_law_1198 (by decide) ?_
  refine pv_iload_n (M := mL_law) 3 dL_law_18 19 rfl rfl rfl ?_
  refine pv_aloadS_n (M := mL_law) 0 dL_law_19 20 rfl rfl rfl ?_
  refine pv_slen (M := mL_law) dL_law_20 21 rfl ?_
  refine pv_top (M := mL_law) (y := 6) (by decide) ?_
  refine pv_bipush (M := mL_law) (v := 6) dL_law_21 23 rfl (by decide) ?_
  refine pv_isub (M := mL_law) (v := 0) dL_law_23 24 rfl (by decide) ?_
  refine pv_icmp_gt (M := mL_law) (tgt := 1201) dL_law_24 27 rfl (by decide) (fun _ => ?_) (fun q => absurd (by decide) q)
  refine pv_iconst (M := mL_law) (v := 1) dL_law_1201 1202 rfl (by decide) ?_
  exact pv_iret (M := mL_law) dL_law_1202 rfl rfl rfl

set_option maxHeartbeats 4000000 in
set_option maxRecDepth 20000 in
theorem law_c21 (g : pv_G) {b : Nat} {xs : Nat → Int32} {h : List pv_C} (e0 : h[0]? = some (pv_o 11 [.ref 1, .ref 3, .int 0, .ref 60, .ref 77, .ref 86, .ref 97, .int 0, .int 1, .ref 104, .ref 107, .ref 112, .null, .ref 116, .ref 120, .ref 121, .ref 122])) (e60 : h[60]? = some (pv_q 5 8 (va_up (va_up (va_up (va_up (va_up (va_up (va_up (va_up (fun _ => none) 0 (some (61))) 1 (some (63))) 2 (some (65))) 3 (some (67))) 4 (some (69))) 5 (some (71))) 6 (some (73))) 7 (some (75))))) (e61 : h[61]? = some (pv_o 8 [.ref 62, .int 0])) (e63 : h[63]? = some (pv_o 8 [.ref 64, .int 0])) (e65 : h[65]? = some (pv_o 8 [.ref 66, .int 0])) (e67 : h[67]? = some (pv_o 8 [.ref 68, .int 0])) (e69 : h[69]? = some (pv_o 8 [.ref 70, .int 0])) (e71 : h[71]? = some (pv_o 8 [.ref 72, .int 0])) (e73 : h[73]? = some (pv_o 8 [.ref 74, .int 0])) (e75 : h[75]? = some (pv_o 8 [.ref 76, .int 0])) (e123 : h[123]? = some (pv_o 12 [.int 0, .int 0, .int 1, .int 0, .int 0, .ref 124, .ref 125, .ref 126, .ref 127, .ref 128, .ref 129, .int 0, .int 0, .int 0, .int 0, .int 0, .int 0, .int 0, .int 0, .int 0, .int 0, .ref 130, .ref 131, .ref 132, .ref 133, .ref 134, .ref 135, .ref 136, .ref 137, .ref 138, .ref 139, .ref 140, .ref 141, .ref 142, .ref 143, .ref 144, .ref 145, .ref 146, .ref 147, .ref 148, .int 0, .int 0, .ref 149, .ref 150, .ref 151, .ref 152, .ref 153, .ref 154, .ref 155, .ref 156, .int 0, .ref 157, .ref 158, .ref 159, .ref 160, .ref 161, .ref 162, .ref 163, .ref 164, .ref 165, .ref 166, .int 0, .ref 167, .ref 168])) : PV (some (b, 6, xs)) g mL_law (fun r _ => r = some (.int 1)) 20 0 0 921 [.retAddr (b + 1), .ref 0, .ref 123, .int 0] [] h := by
  refine pv_aload_n (M := mL_law) 1 dL_law_921 922 rfl rfl rfl ?_
  refine pv_aloadS_n (M := mL_law) 0 dL_law_922 923 rfl rfl rfl ?_
  refine pv_iload_n (M := mL_law) 3 dL_law_923 924 rfl rfl rfl ?_
  refine pv_iconst (M := mL_law) (v := 1) dL_law_924 925 rfl (by decide) ?_
  refine pv_iadd (M := mL_law) (v := 1) dL_law_925 926 rfl (by decide) ?_
  refine pv_sld (M := mL_law) dL_law_926 (pv_in0 (by decide)) (v := xs 1) rfl 927 rfl ?_
  refine pv_aloadS_n (M := mL_law) 0 dL_law_927 928 rfl rfl rfl ?_
  refine pv_iload_n (M := mL_law) 3 dL_law_928 929 rfl rfl rfl ?_
  refine pv_iconst (M := mL_law) (v := 2) dL_law_929 930 rfl (by decide) ?_
  refine pv_iadd (M := mL_law) (v := 2) dL_law_930 931 rfl (by decide) ?_
  refine pv_sld (M := mL_law) dL_law_931 (pv_in0 (by decide)) (v := xs 2) rfl 932 rfl ?_
  refine pv_callv (M := mL_law) (as := [.int (xs 1), .int (xs 2)]) (st := []) (kc2 := 0) (ks2 := 0) dL_law_932 wd1078 YX11_dayEnd ⟨wd1079, wd1080⟩ e0 rfl rfl (k_X11_dayEnd g (xs 1) (xs 2) e0 e60 e61 e63 e65 e67 e69 e71 e73 e75) rfl rfl (Nat.le_of_ble_eq_true rfl) (by decide) rfl rfl 935 rfl (pv_k1 ?_)
  refine pv_aload_n (M := mL_law) 2 dL_law_935 936 rfl rfl rfl ?_
  refine pv_aloadS_n (M := mL_law) 0 dL_law_936 937 rfl rfl rfl ?_
  refine pv_iload_n (M := mL_law) 3 dL_law_937 938 rfl rfl rfl ?_
  refine pv_iconst (M := mL_law) (v := 1) dL_law_938 939 rfl (by decide) ?_
  refine pv_iadd (M := mL_law) (v := 1) dL_law_939 940 rfl (by decide) ?_
  refine pv_sld (M := mL_law) dL_law_940 (pv_in0 (by decide)) (v := xs 1) rfl 941 rfl ?_
  refine pv_aloadS_n (M := mL_law) 0 dL_law_941 942 rfl rfl rfl ?_
  refine pv_iload_n (M := mL_law) 3 dL_law_942 943 rfl rfl rfl ?_
  refine pv_iconst (M := mL_law) (v := 2) dL_law_943 944 rfl (by decide) ?_
  refine pv_iadd (M := mL_law) (v := 2) dL_law_944 945 rfl (by decide) ?_
  refine pv_sld (M := mL_law) dL_law_945 (pv_in0 (by decide)) (v := xs 2) rfl 946 rfl ?_
  refine pv_callv (M := mL_law) (as := [.int (xs 1), .int (xs 2)]) (st := [.int (-1)]) (kc2 := 0) (ks2 := 0) dL_law_946 wd1712 YX12_dayEnd ⟨wd1713, wd1714⟩ e123 rfl rfl (k_X12_dayEnd g (xs 1) (xs 2) e123) rfl rfl (Nat.le_of_ble_eq_true rfl) (by decide) rfl rfl 949 rfl (pv_k1 ?_)
  refine pv_icmp_eq (M := mL_law) (tgt := 1195) dL_law_949 952 rfl (by decide) (fun _ => ?_) (fun q => absurd (by decide) q)
  refine pv_iinc (M := mL_law) (v := 6) (lo2 := [.retAddr (b + 1), .ref 0, .ref 123, .int 6]) dL_law_1195 1198 rfl rfl (by decide) (by decide) rfl rfl ?_
  refine pv_goto (M := mL_law) (tgt := 18) dL_law_1198 (by decide) ?_
  refine pv_iload_n (M := mL_law) 3 dL_law_18 19 rfl rfl rfl ?_
  refine pv_aloadS_n (M := mL_law) 0 dL_law_19 20 rfl rfl rfl ?_
  refine pv_slen (M := mL_law) dL_law_20 21 rfl ?_
  refine pv_top (M := mL_law) (y := 6) (by decide) ?_
  refine pv_bipush (M := mL_law) (v := 6) dL_law_21 23 rfl (by decide) ?_
  refine pv_isub (M := mL_law) (v := 0) dL_law_23 24 rfl (by decide) ?_
  refine pv_icmp_gt (M := mL_law) (tgt := 1201) dL_law_24 27 rfl (by decide) (fun _ => ?_) (fun q => absurd (by decide) q)
  refine pv_iconst (M := mL_law) (v := 1) dL_law_1201 1202 rfl (by decide) ?_
  exact pv_iret (M := mL_law) dL_law_1202 rfl rfl rfl

set_option maxHeartbeats 4000000 in
set_option maxRecDepth 20000 in
theorem law_c22 (g : pv_G) {b : Nat} {xs : Nat → Int32} {h : List pv_C} (e0 : h[0]? = some (pv_o 11 [.ref 1, .ref 3, .int 0, .ref 60, .ref 77, .ref 86, .ref 97, .int 0, .int 1, .ref 104, .ref 107, .ref 112, .null, .ref 116, .ref 120, .ref 121, .ref 122])) (e123 : h[123]? = some (pv_o 12 [.int 0, .int 0, .int 1, .int 0, .int 0, .ref 124, .ref 125, .ref 126, .ref 127, .ref 128, .ref 129, .int 0, .int 0, .int 0, .int 0, .int 0, .int 0, .int 0, .int 0, .int 0, .int 0, .ref 130, .ref 131, .ref 132, .ref 133, .ref 134, .ref 135, .ref 136, .ref 137, .ref 138, .ref 139, .ref 140, .ref 141, .ref 142, .ref 143, .ref 144, .ref 145, .ref 146, .ref 147, .ref 148, .int 0, .int 0, .ref 149, .ref 150, .ref 151, .ref 152, .ref 153, .ref 154, .ref 155, .ref 156, .int 0, .ref 157, .ref 158, .ref 159, .ref 160, .ref 161, .ref 162, .ref 163, .ref 164, .ref 165, .ref 166, .int 0, .ref 167, .ref 168])) : PV (some (b, 6, xs)) g mL_law (fun r _ => r = some (.int 1)) 20 0 0 954 [.retAddr (b + 1), .ref 0, .ref 123, .int 0] [] h := by
  refine pv_aload_n (M := mL_law) 1 dL_law_954 955 rfl rfl rfl ?_
  refine pv_aloadS_n (M := mL_law) 0 dL_law_955 956 rfl rfl rfl ?_
  refine pv_iload_n (M := mL_law) 3 dL_law_956 957 rfl rfl rfl ?_
  refine pv_iconst (M := mL_law) (v := 1) dL_law_957 958 rfl (by decide) ?_
  refine pv_iadd (M := mL_law) (v := 1) dL_law_958 959 rfl (by decide) ?_
  refine pv_sld (M := mL_law) dL_law_959 (pv_in0 (by decide)) (v := xs 1) rfl 960 rfl ?_
  refine pv_aloadS_n (M := mL_law) 0 dL_law_960 961 rfl rfl rfl ?_
  refine pv_iload_n (M := mL_law) 3 dL_law_961 962 rfl rfl rfl ?_
  refine pv_iconst (M := mL_law) (v := 2) dL_law_962 963 rfl (by decide) ?_
  refine pv_iadd (M := mL_law) (v := 2) dL_law_963 964 rfl (by decide) ?_
  refine pv_sld (M := mL_law) dL_law_964 (pv_in0 (by decide)) (v := xs 2) rfl 965 rfl ?_
  refine pv_aloadS_n (M := mL_law) 0 dL_law_965 966 rfl rfl rfl ?_
  refine pv_iload_n (M := mL_law) 3 dL_law_966 967 rfl rfl rfl ?_
  refine pv_iconst (M := mL_law) (v := 3) dL_law_967 968 rfl (by decide) ?_
  refine pv_iadd (M := mL_law) (v := 3) dL_law_968 969 rfl (by decide) ?_
  refine pv_sld (M := mL_law) dL_law_969 (pv_in0 (by decide)) (v := xs 3) rfl 970 rfl ?_
  refine pv_callv (M := mL_law) (as := [.int (xs 1), .int (xs 2), .int (xs 3)]) (st := []) (kc2 := 0) (ks2 := 0) dL_law_970 wd1104 YX11_worth ⟨wd1105, wd1106⟩ e0 rfl rfl (k_X11_worth g (xs 1) (xs 2) (xs 3) e0) rfl rfl (Nat.le_of_ble_eq_true rfl) (by decide) rfl rfl 973 rfl (pv_k1 ?_)
  refine pv_aload_n (M := mL_law) 2 dL_law_973 974 rfl rfl rfl ?_
  refine pv_aloadS_n (M := mL_law) 0 dL_law_974 975 rfl rfl rfl ?_
  refine pv_iload_n (M := mL_law) 3 dL_law_975 976 rfl rfl rfl ?_
  refine pv_iconst (M := mL_law) (v := 1) dL_law_976 977 rfl (by decide) ?_
  refine pv_iadd (M := mL_law) (v := 1) dL_law_977 978 rfl (by decide) ?_
  refine pv_sld (M := mL_law) dL_law_978 (pv_in0 (by decide)) (v := xs 1) rfl 979 rfl ?_
  refine pv_aloadS_n (M := mL_law) 0 dL_law_979 980 rfl rfl rfl ?_
  refine pv_iload_n (M := mL_law) 3 dL_law_980 981 rfl rfl rfl ?_
  refine pv_iconst (M := mL_law) (v := 2) dL_law_981 982 rfl (by decide) ?_
  refine pv_iadd (M := mL_law) (v := 2) dL_law_982 983 rfl (by decide) ?_
  refine pv_sld (M := mL_law) dL_law_983 (pv_in0 (by decide)) (v := xs 2) rfl 984 rfl ?_
  refine pv_aloadS_n (M := mL_law) 0 dL_law_984 985 rfl rfl rfl ?_
  refine pv_iload_n (M := mL_law) 3 dL_law_985 986 rfl rfl rfl ?_
  refine pv_iconst (M := mL_law) (v := 3) dL_law_986 987 rfl (by decide) ?_
  refine pv_iadd (M := mL_law) (v := 3) dL_law_987 988 rfl (by decide) ?_
  refine pv_sld (M := mL_law) dL_law_988 (pv_in0 (by decide)) (v := xs 3) rfl 989 rfl ?_
  refine pv_callv (M := mL_law) (as := [.int (xs 1), .int (xs 2), .int (xs 3)]) (st := [.int (-1000)]) (kc2 := 0) (ks2 := 0) dL_law_989 wd1741 YX12_worth ⟨wd1742, wd1743⟩ e123 rfl rfl (k_X12_worth g (xs 1) (xs 2) (xs 3) e123) rfl rfl (Nat.le_of_ble_eq_true rfl) (by decide) rfl rfl 992 rfl (pv_k1 ?_)
  refine pv_icmp_eq (M := mL_law) (tgt := 1195) dL_law_992 995 rfl (by decide) (fun _ => ?_) (fun q => absurd (by decide) q)
  refine pv_iinc (M := mL_law) (v := 6) (lo2 := [.retAddr (b + 1), .ref 0, .ref 123, .int 6]) dL_law_1195 1198 rfl rfl (by decide) (by decide) rfl rfl ?_
  refine pv_goto (M := mL_law) (tgt := 18) dL_law_1198 (by decide) ?_
  refine pv_iload_n (M := mL_law) 3 dL_law_18 19 rfl rfl rfl ?_
  refine pv_aloadS_n (M := mL_law) 0 dL_law_19 20 rfl rfl rfl ?_
  refine pv_slen (M := mL_law) dL_law_20 21 rfl ?_
  refine pv_top (M := mL_law) (y := 6) (by decide) ?_
  refine pv_bipush (M := mL_law) (v := 6) dL_law_21 23 rfl (by decide) ?_
  refine pv_isub (M := mL_law) (v := 0) dL_law_23 24 rfl (by decide) ?_
  refine pv_icmp_gt (M := mL_law) (tgt := 1201) dL_law_24 27 rfl (by decide) (fun _ => ?_) (fun q => absurd (by decide) q)
  refine pv_iconst (M := mL_law) (v := 1) dL_law_1201 1202 rfl (by decide) ?_
  exact pv_iret (M := mL_law) dL_law_1202 rfl rfl rfl

set_option maxHeartbeats 4000000 in
set_option maxRecDepth 20000 in
theorem law_c23 (g : pv_G) {b : Nat} {xs : Nat → Int32} {h : List pv_C} (e0 : h[0]? = some (pv_o 11 [.ref 1, .ref 3, .int 0, .ref 60, .ref 77, .ref 86, .ref 97, .int 0, .int 1, .ref 104, .ref 107, .ref 112, .null, .ref 116, .ref 120, .ref 121, .ref 122])) (e123 : h[123]? = some (pv_o 12 [.int 0, .int 0, .int 1, .int 0, .int 0, .ref 124, .ref 125, .ref 126, .ref 127, .ref 128, .ref 129, .int 0, .int 0, .int 0, .int 0, .int 0, .int 0, .int 0, .int 0, .int 0, .int 0, .ref 130, .ref 131, .ref 132, .ref 133, .ref 134, .ref 135, .ref 136, .ref 137, .ref 138, .ref 139, .ref 140, .ref 141, .ref 142, .ref 143, .ref 144, .ref 145, .ref 146, .ref 147, .ref 148, .int 0, .int 0, .ref 149, .ref 150, .ref 151, .ref 152, .ref 153, .ref 154, .ref 155, .ref 156, .int 0, .ref 157, .ref 158, .ref 159, .ref 160, .ref 161, .ref 162, .ref 163, .ref 164, .ref 165, .ref 166, .int 0, .ref 167, .ref 168])) : PV (some (b, 6, xs)) g mL_law (fun r _ => r = some (.int 1)) 20 0 0 997 [.retAddr (b + 1), .ref 0, .ref 123, .int 0] [] h := by
  refine pv_aload_n (M := mL_law) 1 dL_law_997 998 rfl rfl rfl ?_
  refine pv_aloadS_n (M := mL_law) 0 dL_law_998 999 rfl rfl rfl ?_
  refine pv_iload_n (M := mL_law) 3 dL_law_999 1000 rfl rfl rfl ?_
  refine pv_iconst (M := mL_law) (v := 1) dL_law_1000 1001 rfl (by decide) ?_
  refine pv_iadd (M := mL_law) (v := 1) dL_law_1001 1002 rfl (by decide) ?_
  refine pv_sld (M := mL_law) dL_law_1002 (pv_in0 (by decide)) (v := xs 1) rfl 1003 rfl ?_
  refine pv_aloadS_n (M := mL_law) 0 dL_law_1003 1004 rfl rfl rfl ?_
  refine pv_iload_n (M := mL_law) 3 dL_law_1004 1005 rfl rfl rfl ?_
  refine pv_iconst (M := mL_law) (v := 2) dL_law_1005 1006 rfl (by decide) ?_
  refine pv_iadd (M := mL_law) (v := 2) dL_law_1006 1007 rfl (by decide) ?_
  refine pv_sld (M := mL_law) dL_law_1007 (pv_in0 (by decide)) (v := xs 2) rfl 1008 rfl ?_
  refine pv_aloadS_n (M := mL_law) 0 dL_law_1008 1009 rfl rfl rfl ?_
  refine pv_iload_n (M := mL_law) 3 dL_law_1009 1010 rfl rfl rfl ?_
  refine pv_iconst (M := mL_law) (v := 3) dL_law_1010 1011 rfl (by decide) ?_
  refine pv_iadd (M := mL_law) (v := 3) dL_law_1011 1012 rfl (by decide) ?_
  refine pv_sld (M := mL_law) dL_law_1012 (pv_in0 (by decide)) (v := xs 3) rfl 1013 rfl ?_
  refine pv_aloadS_n (M := mL_law) 0 dL_law_1013 1014 rfl rfl rfl ?_
  refine pv_iload_n (M := mL_law) 3 dL_law_1014 1015 rfl rfl rfl ?_
  refine pv_iconst (M := mL_law) (v := 4) dL_law_1015 1016 rfl (by decide) ?_
  refine pv_iadd (M := mL_law) (v := 4) dL_law_1016 1017 rfl (by decide) ?_
  refine pv_sld (M := mL_law) dL_law_1017 (pv_in0 (by decide)) (v := xs 4) rfl 1018 rfl ?_
  refine pv_callv (M := mL_law) (as := [.int (xs 1), .int (xs 2), .int (xs 3), .int (xs 4)]) (st := []) (kc2 := 0) (ks2 := 0) dL_law_1018 wd1108 YX11_family ⟨wd1109, wd1110⟩ e0 rfl rfl (k_X11_family g (xs 1) (xs 2) (xs 3) (xs 4) e0) rfl rfl (Nat.le_of_ble_eq_true rfl) (by decide) rfl rfl 1021 rfl (pv_k1 ?_)
  refine pv_aload_n (M := mL_law) 2 dL_law_1021 1022 rfl rfl rfl ?_
  refine pv_aloadS_n (M := mL_law) 0 dL_law_1022 1023 rfl rfl rfl ?_
  refine pv_iload_n (M := mL_law) 3 dL_law_1023 1024 rfl rfl rfl ?_
  refine pv_iconst (M := mL_law) (v := 1) dL_law_1024 1025 rfl (by decide) ?_
  refine pv_iadd (M := mL_law) (v := 1) dL_law_1025 1026 rfl (by decide) ?_
  refine pv_sld (M := mL_law) dL_law_1026 (pv_in0 (by decide)) (v := xs 1) rfl 1027 rfl ?_
  refine pv_aloadS_n (M := mL_law) 0 dL_law_1027 1028 rfl rfl rfl ?_
  refine pv_iload_n (M := mL_law) 3 dL_law_1028 1029 rfl rfl rfl ?_
  refine pv_iconst (M := mL_law) (v := 2) dL_law_1029 1030 rfl (by decide) ?_
  refine pv_iadd (M := mL_law) (v := 2) dL_law_1030 1031 rfl (by decide) ?_
  refine pv_sld (M := mL_law) dL_law_1031 (pv_in0 (by decide)) (v := xs 2) rfl 1032 rfl ?_
  refine pv_aloadS_n (M := mL_law) 0 dL_law_1032 1033 rfl rfl rfl ?_
  refine pv_iload_n (M := mL_law) 3 dL_law_1033 1034 rfl rfl rfl ?_
  refine pv_iconst (M := mL_law) (v := 3) dL_law_1034 1035 rfl (by decide) ?_
  refine pv_iadd (M := mL_law) (v := 3) dL_law_1035 1036 rfl (by decide) ?_
  refine pv_sld (M := mL_law) dL_law_1036 (pv_in0 (by decide)) (v := xs 3) rfl 1037 rfl ?_
  refine pv_aloadS_n (M := mL_law) 0 dL_law_1037 1038 rfl rfl rfl ?_
  refine pv_iload_n (M := mL_law) 3 dL_law_1038 1039 rfl rfl rfl ?_
  refine pv_iconst (M := mL_law) (v := 4) dL_law_1039 1040 rfl (by decide) ?_
  refine pv_iadd (M := mL_law) (v := 4) dL_law_1040 1041 rfl (by decide) ?_
  refine pv_sld (M := mL_law) dL_law_1041 (pv_in0 (by decide)) (v := xs 4) rfl 1042 rfl ?_
  refine pv_callv (M := mL_law) (as := [.int (xs 1), .int (xs 2), .int (xs 3), .int (xs 4)]) (st := [.int (-1)]) (kc2 := 0) (ks2 := 0) dL_law_1042 wd1745 YX12_family ⟨wd1746, wd1747⟩ e123 rfl rfl (k_X12_family g (xs 1) (xs 2) (xs 3) (xs 4) e123) rfl rfl (Nat.le_of_ble_eq_true rfl) (by decide) rfl rfl 1045 rfl (pv_k1 ?_)
  refine pv_icmp_eq (M := mL_law) (tgt := 1195) dL_law_1045 1048 rfl (by decide) (fun _ => ?_) (fun q => absurd (by decide) q)
  refine pv_iinc (M := mL_law) (v := 6) (lo2 := [.retAddr (b + 1), .ref 0, .ref 123, .int 6]) dL_law_1195 1198 rfl rfl (by decide) (by decide) rfl rfl ?_
  refine pv_goto (M := mL_law) (tgt := 18) dL_law_1198 (by decide) ?_
  refine pv_iload_n (M := mL_law) 3 dL_law_18 19 rfl rfl rfl ?_
  refine pv_aloadS_n (M := mL_law) 0 dL_law_19 20 rfl rfl rfl ?_
  refine pv_slen (M := mL_law) dL_law_20 21 rfl ?_
  refine pv_top (M := mL_law) (y := 6) (by decide) ?_
  refine pv_bipush (M := mL_law) (v := 6) dL_law_21 23 rfl (by decide) ?_
  refine pv_isub (M := mL_law) (v := 0) dL_law_23 24 rfl (by decide) ?_
  refine pv_icmp_gt (M := mL_law) (tgt := 1201) dL_law_24 27 rfl (by decide) (fun _ => ?_) (fun q => absurd (by decide) q)
  refine pv_iconst (M := mL_law) (v := 1) dL_law_1201 1202 rfl (by decide) ?_
  exact pv_iret (M := mL_law) dL_law_1202 rfl rfl rfl

set_option maxHeartbeats 4000000 in
set_option maxRecDepth 20000 in
theorem law_c24 (g : pv_G) {b : Nat} {xs : Nat → Int32} {h : List pv_C} (e0 : h[0]? = some (pv_o 11 [.ref 1, .ref 3, .int 0, .ref 60, .ref 77, .ref 86, .ref 97, .int 0, .int 1, .ref 104, .ref 107, .ref 112, .null, .ref 116, .ref 120, .ref 121, .ref 122])) (e123 : h[123]? = some (pv_o 12 [.int 0, .int 0, .int 1, .int 0, .int 0, .ref 124, .ref 125, .ref 126, .ref 127, .ref 128, .ref 129, .int 0, .int 0, .int 0, .int 0, .int 0, .int 0, .int 0, .int 0, .int 0, .int 0, .ref 130, .ref 131, .ref 132, .ref 133, .ref 134, .ref 135, .ref 136, .ref 137, .ref 138, .ref 139, .ref 140, .ref 141, .ref 142, .ref 143, .ref 144, .ref 145, .ref 146, .ref 147, .ref 148, .int 0, .int 0, .ref 149, .ref 150, .ref 151, .ref 152, .ref 153, .ref 154, .ref 155, .ref 156, .int 0, .ref 157, .ref 158, .ref 159, .ref 160, .ref 161, .ref 162, .ref 163, .ref 164, .ref 165, .ref 166, .int 0, .ref 167, .ref 168])) : PV (some (b, 6, xs)) g mL_law (fun r _ => r = some (.int 1)) 20 0 0 1050 [.retAddr (b + 1), .ref 0, .ref 123, .int 0] [] h := by
  refine pv_aload_n (M := mL_law) 1 dL_law_1050 1051 rfl rfl rfl ?_
  refine pv_aloadS_n (M := mL_law) 0 dL_law_1051 1052 rfl rfl rfl ?_
  refine pv_iload_n (M := mL_law) 3 dL_law_1052 1053 rfl rfl rfl ?_
  refine pv_iconst (M := mL_law) (v := 1) dL_law_1053 1054 rfl (by decide) ?_
  refine pv_iadd (M := mL_law) (v := 1) dL_law_1054 1055 rfl (by decide) ?_
  refine pv_sld (M := mL_law) dL_law_1055 (pv_in0 (by decide)) (v := xs 1) rfl 1056 rfl ?_
  refine pv_aloadS_n (M := mL_law) 0 dL_law_1056 1057 rfl rfl rfl ?_
  refine pv_iload_n (M := mL_law) 3 dL_law_1057 1058 rfl rfl rfl ?_
  refine pv_iconst (M := mL_law) (v := 2) dL_law_1058 1059 rfl (by decide) ?_
  refine pv_iadd (M := mL_law) (v := 2) dL_law_1059 1060 rfl (by decide) ?_
  refine pv_sld (M := mL_law) dL_law_1060 (pv_in0 (by decide)) (v := xs 2) rfl 1061 rfl ?_
  refine pv_callv (M := mL_law) (as := [.int (xs 1), .int (xs 2)]) (st := []) (kc2 := 0) (ks2 := 0) dL_law_1061 wd1120 YX11_chain ⟨wd1121, wd1122⟩ e0 rfl rfl (k_X11_chain g (xs 1) (xs 2) e0) rfl rfl (Nat.le_of_ble_eq_true rfl) (by decide) rfl rfl 1064 rfl (pv_k1 ?_)
  refine pv_aload_n (M := mL_law) 2 dL_law_1064 1065 rfl rfl rfl ?_
  refine pv_aloadS_n (M := mL_law) 0 dL_law_1065 1066 rfl rfl rfl ?_
  refine pv_iload_n (M := mL_law) 3 dL_law_1066 1067 rfl rfl rfl ?_
  refine pv_iconst (M := mL_law) (v := 1) dL_law_1067 1068 rfl (by decide) ?_
  refine pv_iadd (M := mL_law) (v := 1) dL_law_1068 1069 rfl (by decide) ?_
  refine pv_sld (M := mL_law) dL_law_1069 (pv_in0 (by decide)) (v := xs 1) rfl 1070 rfl ?_
  refine pv_aloadS_n (M := mL_law) 0 dL_law_1070 1071 rfl rfl rfl ?_
  refine pv_iload_n (M := mL_law) 3 dL_law_1071 1072 rfl rfl rfl ?_
  refine pv_iconst (M := mL_law) (v := 2) dL_law_1072 1073 rfl (by decide) ?_
  refine pv_iadd (M := mL_law) (v := 2) dL_law_1073 1074 rfl (by decide) ?_
  refine pv_sld (M := mL_law) dL_law_1074 (pv_in0 (by decide)) (v := xs 2) rfl 1075 rfl ?_
  refine pv_callv (M := mL_law) (as := [.int (xs 1), .int (xs 2)]) (st := [.int (-1)]) (kc2 := 0) (ks2 := 0) dL_law_1075 wd1757 YX12_chain ⟨wd1758, wd1759⟩ e123 rfl rfl (k_X12_chain g (xs 1) (xs 2) e123) rfl rfl (Nat.le_of_ble_eq_true rfl) (by decide) rfl rfl 1078 rfl (pv_k1 ?_)
  refine pv_icmp_eq (M := mL_law) (tgt := 1195) dL_law_1078 1081 rfl (by decide) (fun _ => ?_) (fun q => absurd (by decide) q)
  refine pv_iinc (M := mL_law) (v := 6) (lo2 := [.retAddr (b + 1), .ref 0, .ref 123, .int 6]) dL_law_1195 1198 rfl rfl (by decide) (by decide) rfl rfl ?_
  refine pv_goto (M := mL_law) (tgt := 18) dL_law_1198 (by decide) ?_
  refine pv_iload_n (M := mL_law) 3 dL_law_18 19 rfl rfl rfl ?_
  refine pv_aloadS_n (M := mL_law) 0 dL_law_19 20 rfl rfl rfl ?_
  refine pv_slen (M := mL_law) dL_law_20 21 rfl ?_
  refine pv_top (M := mL_law) (y := 6) (by decide) ?_
  refine pv_bipush (M := mL_law) (v := 6) dL_law_21 23 rfl (by decide) ?_
  refine pv_isub (M := mL_law) (v := 0) dL_law_23 24 rfl (by decide) ?_
  refine pv_icmp_gt (M := mL_law) (tgt := 1201) dL_law_24 27 rfl (by decide) (fun _ => ?_) (fun q => absurd (by decide) q)
  refine pv_iconst (M := mL_law) (v := 1) dL_law_1201 1202 rfl (by decide) ?_
  exact pv_iret (M := mL_law) dL_law_1202 rfl rfl rfl

set_option maxHeartbeats 4000000 in
set_option maxRecDepth 20000 in
theorem law_c25 (g : pv_G) {b : Nat} {xs : Nat → Int32} {h : List pv_C} (e0 : h[0]? = some (pv_o 11 [.ref 1, .ref 3, .int 0, .ref 60, .ref 77, .ref 86, .ref 97, .int 0, .int 1, .ref 104, .ref 107, .ref 112, .null, .ref 116, .ref 120, .ref 121, .ref 122])) (e123 : h[123]? = some (pv_o 12 [.int 0, .int 0, .int 1, .int 0, .int 0, .ref 124, .ref 125, .ref 126, .ref 127, .ref 128, .ref 129, .int 0, .int 0, .int 0, .int 0, .int 0, .int 0, .int 0, .int 0, .int 0, .int 0, .ref 130, .ref 131, .ref 132, .ref 133, .ref 134, .ref 135, .ref 136, .ref 137, .ref 138, .ref 139, .ref 140, .ref 141, .ref 142, .ref 143, .ref 144, .ref 145, .ref 146, .ref 147, .ref 148, .int 0, .int 0, .ref 149, .ref 150, .ref 151, .ref 152, .ref 153, .ref 154, .ref 155, .ref 156, .int 0, .ref 157, .ref 158, .ref 159, .ref 160, .ref 161, .ref 162, .ref 163, .ref 164, .ref 165, .ref 166, .int 0, .ref 167, .ref 168])) : PV (some (b, 6, xs)) g mL_law (fun r _ => r = some (.int 1)) 20 0 0 1083 [.retAddr (b + 1), .ref 0, .ref 123, .int 0] [] h := by
  refine pv_aload_n (M := mL_law) 1 dL_law_1083 1084 rfl rfl rfl ?_
  refine pv_aloadS_n (M := mL_law) 0 dL_law_1084 1085 rfl rfl rfl ?_
  refine pv_iload_n (M := mL_law) 3 dL_law_1085 1086 rfl rfl rfl ?_
  refine pv_iconst (M := mL_law) (v := 1) dL_law_1086 1087 rfl (by decide) ?_
  refine pv_iadd (M := mL_law) (v := 1) dL_law_1087 1088 rfl (by decide) ?_
  refine pv_sld (M := mL_law) dL_law_1088 (pv_in0 (by decide)) (v := xs 1) rfl 1089 rfl ?_
  refine pv_callv (M := mL_law) (as := [.int (xs 1)]) (st := []) (kc2 := 0) (ks2 := 0) dL_law_1089 wd1141 YX11_seed ⟨wd1142, wd1143⟩ e0 rfl rfl (k_X11_seed g (xs 1) e0) rfl rfl (Nat.le_of_ble_eq_true rfl) (by decide) rfl rfl 1092 rfl (pv_k1 ?_)
  by_cases c1 : (xs 1) < 0
  · refine pv_top (M := mL_law) (if_pos c1) ?_
    refine pv_hp (M := mL_law) (if_pos c1) ?_
    refine pv_aload_n (M := mL_law) 2 dL_law_1092 1093 rfl rfl rfl ?_
    refine pv_aloadS_n (M := mL_law) 0 dL_law_1093 1094 rfl rfl rfl ?_
    refine pv_iload_n (M := mL_law) 3 dL_law_1094 1095 rfl rfl rfl ?_
    refine pv_iconst (M := mL_law) (v := 1) dL_law_1095 1096 rfl (by decide) ?_
    refine pv_iadd (M := mL_law) (v := 1) dL_law_1096 1097 rfl (by decide) ?_
    refine pv_sld (M := mL_law) dL_law_1097 (pv_in0 (by decide)) (v := xs 1) rfl 1098 rfl ?_
    refine pv_callv (M := mL_law) (as := [.int (xs 1)]) (st := [.int 0]) (kc2 := 0) (ks2 := 0) dL_law_1098 wd1773 YX12_seed ⟨wd1774, wd1775⟩ e123 rfl rfl (k_X12_seed g (xs 1) e123) rfl rfl (Nat.le_of_ble_eq_true rfl) (by decide) rfl rfl 1101 rfl (pv_k1 ?_)
    by_cases c2 : (xs 1) < 0
    · refine pv_top (M := mL_law) (if_pos c2) ?_
      refine pv_hp (M := mL_law) (if_pos c2) ?_
      refine pv_icmp_eq (M := mL_law) (tgt := 1195) dL_law_1101 1104 rfl (by decide) (fun _ => ?_) (fun q => absurd (by decide) q)
      refine pv_iinc (M := mL_law) (v := 6) (lo2 := [.retAddr (b + 1), .ref 0, .ref 123, .int 6]) dL_law_1195 1198 rfl rfl (by decide) (by decide) rfl rfl ?_
      refine pv_goto (M := mL_law) (tgt := 18) dL_law_1198 (by decide) ?_
      refine pv_iload_n (M := mL_law) 3 dL_law_18 19 rfl rfl rfl ?_
      refine pv_aloadS_n (M := mL_law) 0 dL_law_19 20 rfl rfl rfl ?_
      refine pv_slen (M := mL_law) dL_law_20 21 rfl ?_
      refine pv_top (M := mL_law) (y := 6) (by decide) ?_
      refine pv_bipush (M := mL_law) (v := 6) dL_law_21 23 rfl (by decide) ?_
      refine pv_isub (M := mL_law) (v := 0) dL_law_23 24 rfl (by decide) ?_
      refine pv_icmp_gt (M := mL_law) (tgt := 1201) dL_law_24 27 rfl (by decide) (fun _ => ?_) (fun q => absurd (by decide) q)
      refine pv_iconst (M := mL_law) (v := 1) dL_law_1201 1202 rfl (by decide) ?_
      exact pv_iret (M := mL_law) dL_law_1202 rfl rfl rfl
    · exact absurd (Int.le_trans (pv_b2 c2) (pv_b1 c1)) (by decide)
  · refine pv_top (M := mL_law) (if_neg c1) ?_
    refine pv_hp (M := mL_law) (if_neg c1) ?_
    by_cases c3 : (xs 1) < 65536
    · refine pv_top (M := mL_law) (if_pos c3) ?_
      refine pv_hp (M := mL_law) (if_pos c3) ?_
      refine pv_aload_n (M := mL_law) 2 dL_law_1092 1093 rfl rfl rfl ?_
      refine pv_aloadS_n (M := mL_law) 0 dL_law_1093 1094 rfl rfl rfl ?_
      refine pv_iload_n (M := mL_law) 3 dL_law_1094 1095 rfl rfl rfl ?_
      refine pv_iconst (M := mL_law) (v := 1) dL_law_1095 1096 rfl (by decide) ?_
      refine pv_iadd (M := mL_law) (v := 1) dL_law_1096 1097 rfl (by decide) ?_
      refine pv_sld (M := mL_law) dL_law_1097 (pv_in0 (by decide)) (v := xs 1) rfl 1098 rfl ?_
      refine pv_callv (M := mL_law) (as := [.int (xs 1)]) (st := [.int 1]) (kc2 := 0) (ks2 := 0) dL_law_1098 wd1773 YX12_seed ⟨wd1774, wd1775⟩ (pv_sn (by decide) e123) rfl rfl (k_X12_seed_2 g (xs 1) (pv_sn (by decide) e123)) rfl rfl (Nat.le_of_ble_eq_true rfl) (by decide) rfl rfl 1101 rfl (pv_k1 ?_)
      by_cases c4 : (xs 1) < 0
      · exact absurd (Int.le_trans (pv_b2 c1) (pv_b1 c4)) (by decide)
      · refine pv_top (M := mL_law) (if_neg c4) ?_
        refine pv_hp (M := mL_law) (if_neg c4) ?_
        by_cases c5 : 65535 < (xs 1)
        · exact absurd (Int.le_trans (pv_b5 c5) (pv_b1 c3)) (by decide)
        · refine pv_top (M := mL_law) (if_neg c5) ?_
          refine pv_hp (M := mL_law) (if_neg c5) ?_
          refine pv_icmp_eq (M := mL_law) (tgt := 1195) dL_law_1101 1104 rfl (by decide) (fun _ => ?_) (fun q => absurd (by decide) q)
          refine pv_iinc (M := mL_law) (v := 6) (lo2 := [.retAddr (b + 1), .ref 0, .ref 123, .int 6]) dL_law_1195 1198 rfl rfl (by decide) (by decide) rfl rfl ?_
          refine pv_goto (M := mL_law) (tgt := 18) dL_law_1198 (by decide) ?_
          refine pv_iload_n (M := mL_law) 3 dL_law_18 19 rfl rfl rfl ?_
          refine pv_aloadS_n (M := mL_law) 0 dL_law_19 20 rfl rfl rfl ?_
          refine pv_slen (M := mL_law) dL_law_20 21 rfl ?_
          refine pv_top (M := mL_law) (y := 6) (by decide) ?_
          refine pv_bipush (M := mL_law) (v := 6) dL_law_21 23 rfl (by decide) ?_
          refine pv_isub (M := mL_law) (v := 0) dL_law_23 24 rfl (by decide) ?_
          refine pv_icmp_gt (M := mL_law) (tgt := 1201) dL_law_24 27 rfl (by decide) (fun _ => ?_) (fun q => absurd (by decide) q)
          refine pv_iconst (M := mL_law) (v := 1) dL_law_1201 1202 rfl (by decide) ?_
          exact pv_iret (M := mL_law) dL_law_1202 rfl rfl rfl
    · refine pv_top (M := mL_law) (if_neg c3) ?_
      refine pv_hp (M := mL_law) (if_neg c3) ?_
      refine pv_aload_n (M := mL_law) 2 dL_law_1092 1093 rfl rfl rfl ?_
      refine pv_aloadS_n (M := mL_law) 0 dL_law_1093 1094 rfl rfl rfl ?_
      refine pv_iload_n (M := mL_law) 3 dL_law_1094 1095 rfl rfl rfl ?_
      refine pv_iconst (M := mL_law) (v := 1) dL_law_1095 1096 rfl (by decide) ?_
      refine pv_iadd (M := mL_law) (v := 1) dL_law_1096 1097 rfl (by decide) ?_
      refine pv_sld (M := mL_law) dL_law_1097 (pv_in0 (by decide)) (v := xs 1) rfl 1098 rfl ?_
      refine pv_callv (M := mL_law) (as := [.int (xs 1)]) (st := [.int 0]) (kc2 := 0) (ks2 := 0) dL_law_1098 wd1773 YX12_seed ⟨wd1774, wd1775⟩ e123 rfl rfl (k_X12_seed g (xs 1) e123) rfl rfl (Nat.le_of_ble_eq_true rfl) (by decide) rfl rfl 1101 rfl (pv_k1 ?_)
      by_cases c6 : (xs 1) < 0
      · exact absurd (Int.le_trans (pv_b2 c3) (pv_b1 c6)) (by decide)
      · refine pv_top (M := mL_law) (if_neg c6) ?_
        refine pv_hp (M := mL_law) (if_neg c6) ?_
        by_cases c7 : 65535 < (xs 1)
        · refine pv_top (M := mL_law) (if_pos c7) ?_
          refine pv_hp (M := mL_law) (if_pos c7) ?_
          refine pv_icmp_eq (M := mL_law) (tgt := 1195) dL_law_1101 1104 rfl (by decide) (fun _ => ?_) (fun q => absurd (by decide) q)
          refine pv_iinc (M := mL_law) (v := 6) (lo2 := [.retAddr (b + 1), .ref 0, .ref 123, .int 6]) dL_law_1195 1198 rfl rfl (by decide) (by decide) rfl rfl ?_
          refine pv_goto (M := mL_law) (tgt := 18) dL_law_1198 (by decide) ?_
          refine pv_iload_n (M := mL_law) 3 dL_law_18 19 rfl rfl rfl ?_
          refine pv_aloadS_n (M := mL_law) 0 dL_law_19 20 rfl rfl rfl ?_
          refine pv_slen (M := mL_law) dL_law_20 21 rfl ?_
          refine pv_top (M := mL_law) (y := 6) (by decide) ?_
          refine pv_bipush (M := mL_law) (v := 6) dL_law_21 23 rfl (by decide) ?_
          refine pv_isub (M := mL_law) (v := 0) dL_law_23 24 rfl (by decide) ?_
          refine pv_icmp_gt (M := mL_law) (tgt := 1201) dL_law_24 27 rfl (by decide) (fun _ => ?_) (fun q => absurd (by decide) q)
          refine pv_iconst (M := mL_law) (v := 1) dL_law_1201 1202 rfl (by decide) ?_
          exact pv_iret (M := mL_law) dL_law_1202 rfl rfl rfl
        · exact absurd (Int.le_trans (pv_b2 c3) (pv_b6 c7)) (by decide)

set_option maxHeartbeats 4000000 in
set_option maxRecDepth 20000 in
theorem law_c26 (g : pv_G) {b : Nat} {xs : Nat → Int32} {h : List pv_C} (e0 : h[0]? = some (pv_o 11 [.ref 1, .ref 3, .int 0, .ref 60, .ref 77, .ref 86, .ref 97, .int 0, .int 1, .ref 104, .ref 107, .ref 112, .null, .ref 116, .ref 120, .ref 121, .ref 122])) (e123 : h[123]? = some (pv_o 12 [.int 0, .int 0, .int 1, .int 0, .int 0, .ref 124, .ref 125, .ref 126, .ref 127, .ref 128, .ref 129, .int 0, .int 0, .int 0, .int 0, .int 0, .int 0, .int 0, .int 0, .int 0, .int 0, .ref 130, .ref 131, .ref 132, .ref 133, .ref 134, .ref 135, .ref 136, .ref 137, .ref 138, .ref 139, .ref 140, .ref 141, .ref 142, .ref 143, .ref 144, .ref 145, .ref 146, .ref 147, .ref 148, .int 0, .int 0, .ref 149, .ref 150, .ref 151, .ref 152, .ref 153, .ref 154, .ref 155, .ref 156, .int 0, .ref 157, .ref 158, .ref 159, .ref 160, .ref 161, .ref 162, .ref 163, .ref 164, .ref 165, .ref 166, .int 0, .ref 167, .ref 168])) : PV (some (b, 6, xs)) g mL_law (fun r _ => r = some (.int 1)) 20 0 0 1106 [.retAddr (b + 1), .ref 0, .ref 123, .int 0] [] h := by
  refine pv_aload_n (M := mL_law) 1 dL_law_1106 1107 rfl rfl rfl ?_
  refine pv_aloadS_n (M := mL_law) 0 dL_law_1107 1108 rfl rfl rfl ?_
  refine pv_iload_n (M := mL_law) 3 dL_law_1108 1109 rfl rfl rfl ?_
  refine pv_iconst (M := mL_law) (v := 1) dL_law_1109 1110 rfl (by decide) ?_
  refine pv_iadd (M := mL_law) (v := 1) dL_law_1110 1111 rfl (by decide) ?_
  refine pv_sld (M := mL_law) dL_law_1111 (pv_in0 (by decide)) (v := xs 1) rfl 1112 rfl ?_
  refine pv_aloadS_n (M := mL_law) 0 dL_law_1112 1113 rfl rfl rfl ?_
  refine pv_iload_n (M := mL_law) 3 dL_law_1113 1114 rfl rfl rfl ?_
  refine pv_iconst (M := mL_law) (v := 2) dL_law_1114 1115 rfl (by decide) ?_
  refine pv_iadd (M := mL_law) (v := 2) dL_law_1115 1116 rfl (by decide) ?_
  refine pv_sld (M := mL_law) dL_law_1116 (pv_in0 (by decide)) (v := xs 2) rfl 1117 rfl ?_
  refine pv_callv (M := mL_law) (as := [.int (xs 1), .int (xs 2)]) (st := []) (kc2 := 0) (ks2 := 0) dL_law_1117 wd1146 YX11_draw ⟨wd1147, wd1148⟩ e0 rfl rfl (k_X11_draw g (xs 1) (xs 2) e0) rfl rfl (Nat.le_of_ble_eq_true rfl) (by decide) rfl rfl 1120 rfl (pv_k1 ?_)
  refine pv_aload_n (M := mL_law) 2 dL_law_1120 1121 rfl rfl rfl ?_
  refine pv_aloadS_n (M := mL_law) 0 dL_law_1121 1122 rfl rfl rfl ?_
  refine pv_iload_n (M := mL_law) 3 dL_law_1122 1123 rfl rfl rfl ?_
  refine pv_iconst (M := mL_law) (v := 1) dL_law_1123 1124 rfl (by decide) ?_
  refine pv_iadd (M := mL_law) (v := 1) dL_law_1124 1125 rfl (by decide) ?_
  refine pv_sld (M := mL_law) dL_law_1125 (pv_in0 (by decide)) (v := xs 1) rfl 1126 rfl ?_
  refine pv_aloadS_n (M := mL_law) 0 dL_law_1126 1127 rfl rfl rfl ?_
  refine pv_iload_n (M := mL_law) 3 dL_law_1127 1128 rfl rfl rfl ?_
  refine pv_iconst (M := mL_law) (v := 2) dL_law_1128 1129 rfl (by decide) ?_
  refine pv_iadd (M := mL_law) (v := 2) dL_law_1129 1130 rfl (by decide) ?_
  refine pv_sld (M := mL_law) dL_law_1130 (pv_in0 (by decide)) (v := xs 2) rfl 1131 rfl ?_
  refine pv_callv (M := mL_law) (as := [.int (xs 1), .int (xs 2)]) (st := [.int (-1)]) (kc2 := 0) (ks2 := 0) dL_law_1131 wd1778 YX12_draw ⟨wd1779, wd1780⟩ e123 rfl rfl (k_X12_draw g (xs 1) (xs 2) e123) rfl rfl (Nat.le_of_ble_eq_true rfl) (by decide) rfl rfl 1134 rfl (pv_k1 ?_)
  refine pv_icmp_eq (M := mL_law) (tgt := 1195) dL_law_1134 1137 rfl (by decide) (fun _ => ?_) (fun q => absurd (by decide) q)
  refine pv_iinc (M := mL_law) (v := 6) (lo2 := [.retAddr (b + 1), .ref 0, .ref 123, .int 6]) dL_law_1195 1198 rfl rfl (by decide) (by decide) rfl rfl ?_
  refine pv_goto (M := mL_law) (tgt := 18) dL_law_1198 (by decide) ?_
  refine pv_iload_n (M := mL_law) 3 dL_law_18 19 rfl rfl rfl ?_
  refine pv_aloadS_n (M := mL_law) 0 dL_law_19 20 rfl rfl rfl ?_
  refine pv_slen (M := mL_law) dL_law_20 21 rfl ?_
  refine pv_top (M := mL_law) (y := 6) (by decide) ?_
  refine pv_bipush (M := mL_law) (v := 6) dL_law_21 23 rfl (by decide) ?_
  refine pv_isub (M := mL_law) (v := 0) dL_law_23 24 rfl (by decide) ?_
  refine pv_icmp_gt (M := mL_law) (tgt := 1201) dL_law_24 27 rfl (by decide) (fun _ => ?_) (fun q => absurd (by decide) q)
  refine pv_iconst (M := mL_law) (v := 1) dL_law_1201 1202 rfl (by decide) ?_
  exact pv_iret (M := mL_law) dL_law_1202 rfl rfl rfl

set_option maxHeartbeats 4000000 in
set_option maxRecDepth 20000 in
theorem law_c27 (g : pv_G) {b : Nat} {xs : Nat → Int32} {h : List pv_C} (e0 : h[0]? = some (pv_o 11 [.ref 1, .ref 3, .int 0, .ref 60, .ref 77, .ref 86, .ref 97, .int 0, .int 1, .ref 104, .ref 107, .ref 112, .null, .ref 116, .ref 120, .ref 121, .ref 122])) (e123 : h[123]? = some (pv_o 12 [.int 0, .int 0, .int 1, .int 0, .int 0, .ref 124, .ref 125, .ref 126, .ref 127, .ref 128, .ref 129, .int 0, .int 0, .int 0, .int 0, .int 0, .int 0, .int 0, .int 0, .int 0, .int 0, .ref 130, .ref 131, .ref 132, .ref 133, .ref 134, .ref 135, .ref 136, .ref 137, .ref 138, .ref 139, .ref 140, .ref 141, .ref 142, .ref 143, .ref 144, .ref 145, .ref 146, .ref 147, .ref 148, .int 0, .int 0, .ref 149, .ref 150, .ref 151, .ref 152, .ref 153, .ref 154, .ref 155, .ref 156, .int 0, .ref 157, .ref 158, .ref 159, .ref 160, .ref 161, .ref 162, .ref 163, .ref 164, .ref 165, .ref 166, .int 0, .ref 167, .ref 168])) : PV (some (b, 6, xs)) g mL_law (fun r _ => r = some (.int 1)) 20 0 0 1139 [.retAddr (b + 1), .ref 0, .ref 123, .int 0] [] h := by
  refine pv_aload_n (M := mL_law) 1 dL_law_1139 1140 rfl rfl rfl ?_
  refine pv_aloadS_n (M := mL_law) 0 dL_law_1140 1141 rfl rfl rfl ?_
  refine pv_iload_n (M := mL_law) 3 dL_law_1141 1142 rfl rfl rfl ?_
  refine pv_iconst (M := mL_law) (v := 1) dL_law_1142 1143 rfl (by decide) ?_
  refine pv_iadd (M := mL_law) (v := 1) dL_law_1143 1144 rfl (by decide) ?_
  refine pv_sld (M := mL_law) dL_law_1144 (pv_in0 (by decide)) (v := xs 1) rfl 1145 rfl ?_
  refine pv_aloadS_n (M := mL_law) 0 dL_law_1145 1146 rfl rfl rfl ?_
  refine pv_iload_n (M := mL_law) 3 dL_law_1146 1147 rfl rfl rfl ?_
  refine pv_iconst (M := mL_law) (v := 2) dL_law_1147 1148 rfl (by decide) ?_
  refine pv_iadd (M := mL_law) (v := 2) dL_law_1148 1149 rfl (by decide) ?_
  refine pv_sld (M := mL_law) dL_law_1149 (pv_in0 (by decide)) (v := xs 2) rfl 1150 rfl ?_
  refine pv_callv (M := mL_law) (as := [.int (xs 1), .int (xs 2)]) (st := []) (kc2 := 0) (ks2 := 0) dL_law_1150 wd1151 YX11_check ⟨wd1152, wd1153⟩ e0 rfl rfl (k_X11_check g (xs 1) (xs 2) e0) rfl rfl (Nat.le_of_ble_eq_true rfl) (by decide) rfl rfl 1153 rfl (pv_k1 ?_)
  refine pv_aload_n (M := mL_law) 2 dL_law_1153 1154 rfl rfl rfl ?_
  refine pv_aloadS_n (M := mL_law) 0 dL_law_1154 1155 rfl rfl rfl ?_
  refine pv_iload_n (M := mL_law) 3 dL_law_1155 1156 rfl rfl rfl ?_
  refine pv_iconst (M := mL_law) (v := 1) dL_law_1156 1157 rfl (by decide) ?_
  refine pv_iadd (M := mL_law) (v := 1) dL_law_1157 1158 rfl (by decide) ?_
  refine pv_sld (M := mL_law) dL_law_1158 (pv_in0 (by decide)) (v := xs 1) rfl 1159 rfl ?_
  refine pv_aloadS_n (M := mL_law) 0 dL_law_1159 1160 rfl rfl rfl ?_
  refine pv_iload_n (M := mL_law) 3 dL_law_1160 1161 rfl rfl rfl ?_
  refine pv_iconst (M := mL_law) (v := 2) dL_law_1161 1162 rfl (by decide) ?_
  refine pv_iadd (M := mL_law) (v := 2) dL_law_1162 1163 rfl (by decide) ?_
  refine pv_sld (M := mL_law) dL_law_1163 (pv_in0 (by decide)) (v := xs 2) rfl 1164 rfl ?_
  refine pv_callv (M := mL_law) (as := [.int (xs 1), .int (xs 2)]) (st := [.int (-2)]) (kc2 := 0) (ks2 := 0) dL_law_1164 wd1783 YX12_check ⟨wd1784, wd1785⟩ e123 rfl rfl (k_X12_check g (xs 1) (xs 2) e123) rfl rfl (Nat.le_of_ble_eq_true rfl) (by decide) rfl rfl 1167 rfl (pv_k1 ?_)
  refine pv_icmp_eq (M := mL_law) (tgt := 1195) dL_law_1167 1170 rfl (by decide) (fun _ => ?_) (fun q => absurd (by decide) q)
  refine pv_iinc (M := mL_law) (v := 6) (lo2 := [.retAddr (b + 1), .ref 0, .ref 123, .int 6]) dL_law_1195 1198 rfl rfl (by decide) (by decide) rfl rfl ?_
  refine pv_goto (M := mL_law) (tgt := 18) dL_law_1198 (by decide) ?_
  refine pv_iload_n (M := mL_law) 3 dL_law_18 19 rfl rfl rfl ?_
  refine pv_aloadS_n (M := mL_law) 0 dL_law_19 20 rfl rfl rfl ?_
  refine pv_slen (M := mL_law) dL_law_20 21 rfl ?_
  refine pv_top (M := mL_law) (y := 6) (by decide) ?_
  refine pv_bipush (M := mL_law) (v := 6) dL_law_21 23 rfl (by decide) ?_
  refine pv_isub (M := mL_law) (v := 0) dL_law_23 24 rfl (by decide) ?_
  refine pv_icmp_gt (M := mL_law) (tgt := 1201) dL_law_24 27 rfl (by decide) (fun _ => ?_) (fun q => absurd (by decide) q)
  refine pv_iconst (M := mL_law) (v := 1) dL_law_1201 1202 rfl (by decide) ?_
  exact pv_iret (M := mL_law) dL_law_1202 rfl rfl rfl

set_option maxHeartbeats 4000000 in
set_option maxRecDepth 20000 in
theorem law_c28 (g : pv_G) {b : Nat} {xs : Nat → Int32} {h : List pv_C} (e0 : h[0]? = some (pv_o 11 [.ref 1, .ref 3, .int 0, .ref 60, .ref 77, .ref 86, .ref 97, .int 0, .int 1, .ref 104, .ref 107, .ref 112, .null, .ref 116, .ref 120, .ref 121, .ref 122])) (e1 : h[1]? = some (pv_o 10 [.ref 2, .int 0])) (e60 : h[60]? = some (pv_q 5 8 (va_up (va_up (va_up (va_up (va_up (va_up (va_up (va_up (fun _ => none) 0 (some (61))) 1 (some (63))) 2 (some (65))) 3 (some (67))) 4 (some (69))) 5 (some (71))) 6 (some (73))) 7 (some (75))))) (e61 : h[61]? = some (pv_o 8 [.ref 62, .int 0])) (e63 : h[63]? = some (pv_o 8 [.ref 64, .int 0])) (e65 : h[65]? = some (pv_o 8 [.ref 66, .int 0])) (e67 : h[67]? = some (pv_o 8 [.ref 68, .int 0])) (e69 : h[69]? = some (pv_o 8 [.ref 70, .int 0])) (e71 : h[71]? = some (pv_o 8 [.ref 72, .int 0])) (e73 : h[73]? = some (pv_o 8 [.ref 74, .int 0])) (e75 : h[75]? = some (pv_o 8 [.ref 76, .int 0])) (e77 : h[77]? = some (pv_o 6 [.ref 78, .ref 79, .int 0, .ref 80, .ref 81, .ref 82, .ref 83, .int 0, .ref 84, .ref 85, .int 0, .int 0])) (e97 : h[97]? = some (pv_o 1 [.ref 98, .ref 99, .ref 100, .ref 101, .ref 102, .ref 103, .int 0])) (e123 : h[123]? = some (pv_o 12 [.int 0, .int 0, .int 1, .int 0, .int 0, .ref 124, .ref 125, .ref 126, .ref 127, .ref 128, .ref 129, .int 0, .int 0, .int 0, .int 0, .int 0, .int 0, .int 0, .int 0, .int 0, .int 0, .ref 130, .ref 131, .ref 132, .ref 133, .ref 134, .ref 135, .ref 136, .ref 137, .ref 138, .ref 139, .ref 140, .ref 141, .ref 142, .ref 143, .ref 144, .ref 145, .ref 146, .ref 147, .ref 148, .int 0, .int 0, .ref 149, .ref 150, .ref 151, .ref 152, .ref 153, .ref 154, .ref 155, .ref 156, .int 0, .ref 157, .ref 158, .ref 159, .ref 160, .ref 161, .ref 162, .ref 163, .ref 164, .ref 165, .ref 166, .int 0, .ref 167, .ref 168])) (e126 : h[126]? = some (pv_i 8 (fun _ => 0))) : PV (some (b, 6, xs)) g mL_law (fun r _ => r = some (.int 1)) 20 0 0 1172 [.retAddr (b + 1), .ref 0, .ref 123, .int 0] [] h := by
  refine pv_aload_n (M := mL_law) 1 dL_law_1172 1173 rfl rfl rfl ?_
  refine pv_aloadS_n (M := mL_law) 0 dL_law_1173 1174 rfl rfl rfl ?_
  refine pv_iload_n (M := mL_law) 3 dL_law_1174 1175 rfl rfl rfl ?_
  refine pv_iconst (M := mL_law) (v := 1) dL_law_1175 1176 rfl (by decide) ?_
  refine pv_iadd (M := mL_law) (v := 1) dL_law_1176 1177 rfl (by decide) ?_
  refine pv_sld (M := mL_law) dL_law_1177 (pv_in0 (by decide)) (v := xs 1) rfl 1178 rfl ?_
  refine pv_callv (M := mL_law) (as := [.int (xs 1)]) (st := []) (kc2 := 0) (ks2 := 0) dL_law_1178 wd1159 YX11_count ⟨wd1160, wd1161⟩ e0 rfl rfl (k_X11_count g (xs 1) e0 e1 e60 e61 e63 e65 e67 e69 e71 e73 e75 e77 e97) rfl rfl (Nat.le_of_ble_eq_true rfl) (by decide) rfl rfl 1181 rfl (pv_k1 ?_)
  by_cases c1 : (xs 1) < 10
  · refine pv_top (M := mL_law) (if_pos c1) ?_
    by_cases c2 : (xs 1) = 0
    · refine pv_top (M := mL_law) (if_pos c2) ?_
      refine pv_aload_n (M := mL_law) 2 dL_law_1181 1182 rfl rfl rfl ?_
      refine pv_aloadS_n (M := mL_law) 0 dL_law_1182 1183 rfl rfl rfl ?_
      refine pv_iload_n (M := mL_law) 3 dL_law_1183 1184 rfl rfl rfl ?_
      refine pv_iconst (M := mL_law) (v := 1) dL_law_1184 1185 rfl (by decide) ?_
      refine pv_iadd (M := mL_law) (v := 1) dL_law_1185 1186 rfl (by decide) ?_
      refine pv_sld (M := mL_law) dL_law_1186 (pv_in0 (by decide)) (v := xs 1) rfl 1187 rfl ?_
      refine pv_callv (M := mL_law) (as := [.int (xs 1)]) (st := [.int 0]) (kc2 := 0) (ks2 := 0) dL_law_1187 wd1791 YX12_count ⟨wd1792, wd1793⟩ e123 rfl rfl (k_X12_count g (xs 1) e123 e126) rfl rfl (Nat.le_of_ble_eq_true rfl) (by decide) rfl rfl 1190 rfl (pv_k1 ?_)
      by_cases c3 : (xs 1) = 0
      · refine pv_top (M := mL_law) (if_pos c3) ?_
        refine pv_icmp_eq (M := mL_law) (tgt := 1195) dL_law_1190 1193 rfl (by decide) (fun _ => ?_) (fun q => absurd (by decide) q)
        refine pv_iinc (M := mL_law) (v := 6) (lo2 := [.retAddr (b + 1), .ref 0, .ref 123, .int 6]) dL_law_1195 1198 rfl rfl (by decide) (by decide) rfl rfl ?_
        refine pv_goto (M := mL_law) (tgt := 18) dL_law_1198 (by decide) ?_
        refine pv_iload_n (M := mL_law) 3 dL_law_18 19 rfl rfl rfl ?_
        refine pv_aloadS_n (M := mL_law) 0 dL_law_19 20 rfl rfl rfl ?_
        refine pv_slen (M := mL_law) dL_law_20 21 rfl ?_
        refine pv_top (M := mL_law) (y := 6) (by decide) ?_
        refine pv_bipush (M := mL_law) (v := 6) dL_law_21 23 rfl (by decide) ?_
        refine pv_isub (M := mL_law) (v := 0) dL_law_23 24 rfl (by decide) ?_
        refine pv_icmp_gt (M := mL_law) (tgt := 1201) dL_law_24 27 rfl (by decide) (fun _ => ?_) (fun q => absurd (by decide) q)
        refine pv_iconst (M := mL_law) (v := 1) dL_law_1201 1202 rfl (by decide) ?_
        exact pv_iret (M := mL_law) dL_law_1202 rfl rfl rfl
      · exact absurd (pv_b11 (pv_b9 c2) (pv_b10 c2)) c3
    · refine pv_top (M := mL_law) (if_neg c2) ?_
      by_cases c4 : (xs 1) = 1
      · refine pv_top (M := mL_law) (if_pos c4) ?_
        refine pv_aload_n (M := mL_law) 2 dL_law_1181 1182 rfl rfl rfl ?_
        refine pv_aloadS_n (M := mL_law) 0 dL_law_1182 1183 rfl rfl rfl ?_
        refine pv_iload_n (M := mL_law) 3 dL_law_1183 1184 rfl rfl rfl ?_
        refine pv_iconst (M := mL_law) (v := 1) dL_law_1184 1185 rfl (by decide) ?_
        refine pv_iadd (M := mL_law) (v := 1) dL_law_1185 1186 rfl (by decide) ?_
        refine pv_sld (M := mL_law) dL_law_1186 (pv_in0 (by decide)) (v := xs 1) rfl 1187 rfl ?_
        refine pv_callv (M := mL_law) (as := [.int (xs 1)]) (st := [.int 0]) (kc2 := 0) (ks2 := 0) dL_law_1187 wd1791 YX12_count ⟨wd1792, wd1793⟩ e123 rfl rfl (k_X12_count g (xs 1) e123 e126) rfl rfl (Nat.le_of_ble_eq_true rfl) (by decide) rfl rfl 1190 rfl (pv_k1 ?_)
        by_cases c5 : (xs 1) = 0
        · exact absurd (Int.le_trans (pv_b9 c4) (pv_b10 c5)) (by decide)
        · refine pv_top (M := mL_law) (if_neg c5) ?_
          by_cases c6 : (xs 1) = 1
          · refine pv_top (M := mL_law) (if_pos c6) ?_
            refine pv_icmp_eq (M := mL_law) (tgt := 1195) dL_law_1190 1193 rfl (by decide) (fun _ => ?_) (fun q => absurd (by decide) q)
            refine pv_iinc (M := mL_law) (v := 6) (lo2 := [.retAddr (b + 1), .ref 0, .ref 123, .int 6]) dL_law_1195 1198 rfl rfl (by decide) (by decide) rfl rfl ?_
            refine pv_goto (M := mL_law) (tgt := 18) dL_law_1198 (by decide) ?_
            refine pv_iload_n (M := mL_law) 3 dL_law_18 19 rfl rfl rfl ?_
            refine pv_aloadS_n (M := mL_law) 0 dL_law_19 20 rfl rfl rfl ?_
            refine pv_slen (M := mL_law) dL_law_20 21 rfl ?_
            refine pv_top (M := mL_law) (y := 6) (by decide) ?_
            refine pv_bipush (M := mL_law) (v := 6) dL_law_21 23 rfl (by decide) ?_
            refine pv_isub (M := mL_law) (v := 0) dL_law_23 24 rfl (by decide) ?_
            refine pv_icmp_gt (M := mL_law) (tgt := 1201) dL_law_24 27 rfl (by decide) (fun _ => ?_) (fun q => absurd (by decide) q)
            refine pv_iconst (M := mL_law) (v := 1) dL_law_1201 1202 rfl (by decide) ?_
            exact pv_iret (M := mL_law) dL_law_1202 rfl rfl rfl
          · exact absurd (pv_b11 (pv_b9 c4) (pv_b10 c4)) c6
      · refine pv_top (M := mL_law) (if_neg c4) ?_
        by_cases c7 : (xs 1) = 2
        · refine pv_top (M := mL_law) (if_pos c7) ?_
          refine pv_aload_n (M := mL_law) 2 dL_law_1181 1182 rfl rfl rfl ?_
          refine pv_aloadS_n (M := mL_law) 0 dL_law_1182 1183 rfl rfl rfl ?_
          refine pv_iload_n (M := mL_law) 3 dL_law_1183 1184 rfl rfl rfl ?_
          refine pv_iconst (M := mL_law) (v := 1) dL_law_1184 1185 rfl (by decide) ?_
          refine pv_iadd (M := mL_law) (v := 1) dL_law_1185 1186 rfl (by decide) ?_
          refine pv_sld (M := mL_law) dL_law_1186 (pv_in0 (by decide)) (v := xs 1) rfl 1187 rfl ?_
          refine pv_callv (M := mL_law) (as := [.int (xs 1)]) (st := [.int 0]) (kc2 := 0) (ks2 := 0) dL_law_1187 wd1791 YX12_count ⟨wd1792, wd1793⟩ e123 rfl rfl (k_X12_count g (xs 1) e123 e126) rfl rfl (Nat.le_of_ble_eq_true rfl) (by decide) rfl rfl 1190 rfl (pv_k1 ?_)
          by_cases c8 : (xs 1) = 0
          · exact absurd (Int.le_trans (pv_b9 c7) (pv_b10 c8)) (by decide)
          · refine pv_top (M := mL_law) (if_neg c8) ?_
            by_cases c9 : (xs 1) = 1
            · exact absurd (Int.le_trans (pv_b9 c7) (pv_b10 c9)) (by decide)
            · refine pv_top (M := mL_law) (if_neg c9) ?_
              by_cases c10 : (xs 1) = 2
              · refine pv_top (M := mL_law) (if_pos c10) ?_
                refine pv_icmp_eq (M := mL_law) (tgt := 1195) dL_law_1190 1193 rfl (by decide) (fun _ => ?_) (fun q => absurd (by decide) q)
                refine pv_iinc (M := mL_law) (v := 6) (lo2 := [.retAddr (b + 1), .ref 0, .ref 123, .int 6]) dL_law_1195 1198 rfl rfl (by decide) (by decide) rfl rfl ?_
                refine pv_goto (M := mL_law) (tgt := 18) dL_law_1198 (by decide) ?_
                refine pv_iload_n (M := mL_law) 3 dL_law_18 19 rfl rfl rfl ?_
                refine pv_aloadS_n (M := mL_law) 0 dL_law_19 20 rfl rfl rfl ?_
                refine pv_slen (M := mL_law) dL_law_20 21 rfl ?_
                refine pv_top (M := mL_law) (y := 6) (by decide) ?_
                refine pv_bipush (M := mL_law) (v := 6) dL_law_21 23 rfl (by decide) ?_
                refine pv_isub (M := mL_law) (v := 0) dL_law_23 24 rfl (by decide) ?_
                refine pv_icmp_gt (M := mL_law) (tgt := 1201) dL_law_24 27 rfl (by decide) (fun _ => ?_) (fun q => absurd (by decide) q)
                refine pv_iconst (M := mL_law) (v := 1) dL_law_1201 1202 rfl (by decide) ?_
                exact pv_iret (M := mL_law) dL_law_1202 rfl rfl rfl
              · exact absurd (pv_b11 (pv_b9 c7) (pv_b10 c7)) c10
        · refine pv_top (M := mL_law) (if_neg c7) ?_
          by_cases c11 : (xs 1) = 3
          · refine pv_top (M := mL_law) (if_pos c11) ?_
            refine pv_aload_n (M := mL_law) 2 dL_law_1181 1182 rfl rfl rfl ?_
            refine pv_aloadS_n (M := mL_law) 0 dL_law_1182 1183 rfl rfl rfl ?_
            refine pv_iload_n (M := mL_law) 3 dL_law_1183 1184 rfl rfl rfl ?_
            refine pv_iconst (M := mL_law) (v := 1) dL_law_1184 1185 rfl (by decide) ?_
            refine pv_iadd (M := mL_law) (v := 1) dL_law_1185 1186 rfl (by decide) ?_
            refine pv_sld (M := mL_law) dL_law_1186 (pv_in0 (by decide)) (v := xs 1) rfl 1187 rfl ?_
            refine pv_callv (M := mL_law) (as := [.int (xs 1)]) (st := [.int 0]) (kc2 := 0) (ks2 := 0) dL_law_1187 wd1791 YX12_count ⟨wd1792, wd1793⟩ e123 rfl rfl (k_X12_count g (xs 1) e123 e126) rfl rfl (Nat.le_of_ble_eq_true rfl) (by decide) rfl rfl 1190 rfl (pv_k1 ?_)
            by_cases c12 : (xs 1) = 0
            · exact absurd (Int.le_trans (pv_b9 c11) (pv_b10 c12)) (by decide)
            · refine pv_top (M := mL_law) (if_neg c12) ?_
              by_cases c13 : (xs 1) = 1
              · exact absurd (Int.le_trans (pv_b9 c11) (pv_b10 c13)) (by decide)
              · refine pv_top (M := mL_law) (if_neg c13) ?_
                by_cases c14 : (xs 1) = 2
                · exact absurd (Int.le_trans (pv_b9 c11) (pv_b10 c14)) (by decide)
                · refine pv_top (M := mL_law) (if_neg c14) ?_
                  by_cases c15 : (xs 1) = 3
                  · refine pv_top (M := mL_law) (if_pos c15) ?_
                    refine pv_icmp_eq (M := mL_law) (tgt := 1195) dL_law_1190 1193 rfl (by decide) (fun _ => ?_) (fun q => absurd (by decide) q)
                    refine pv_iinc (M := mL_law) (v := 6) (lo2 := [.retAddr (b + 1), .ref 0, .ref 123, .int 6]) dL_law_1195 1198 rfl rfl (by decide) (by decide) rfl rfl ?_
                    refine pv_goto (M := mL_law) (tgt := 18) dL_law_1198 (by decide) ?_
                    refine pv_iload_n (M := mL_law) 3 dL_law_18 19 rfl rfl rfl ?_
                    refine pv_aloadS_n (M := mL_law) 0 dL_law_19 20 rfl rfl rfl ?_
                    refine pv_slen (M := mL_law) dL_law_20 21 rfl ?_
                    refine pv_top (M := mL_law) (y := 6) (by decide) ?_
                    refine pv_bipush (M := mL_law) (v := 6) dL_law_21 23 rfl (by decide) ?_
                    refine pv_isub (M := mL_law) (v := 0) dL_law_23 24 rfl (by decide) ?_
                    refine pv_icmp_gt (M := mL_law) (tgt := 1201) dL_law_24 27 rfl (by decide) (fun _ => ?_) (fun q => absurd (by decide) q)
                    refine pv_iconst (M := mL_law) (v := 1) dL_law_1201 1202 rfl (by decide) ?_
                    exact pv_iret (M := mL_law) dL_law_1202 rfl rfl rfl
                  · exact absurd (pv_b11 (pv_b9 c11) (pv_b10 c11)) c15
          · refine pv_top (M := mL_law) (if_neg c11) ?_
            by_cases c16 : (xs 1) = 4
            · refine pv_top (M := mL_law) (if_pos c16) ?_
              refine pv_aload_n (M := mL_law) 2 dL_law_1181 1182 rfl rfl rfl ?_
              refine pv_aloadS_n (M := mL_law) 0 dL_law_1182 1183 rfl rfl rfl ?_
              refine pv_iload_n (M := mL_law) 3 dL_law_1183 1184 rfl rfl rfl ?_
              refine pv_iconst (M := mL_law) (v := 1) dL_law_1184 1185 rfl (by decide) ?_
              refine pv_iadd (M := mL_law) (v := 1) dL_law_1185 1186 rfl (by decide) ?_
              refine pv_sld (M := mL_law) dL_law_1186 (pv_in0 (by decide)) (v := xs 1) rfl 1187 rfl ?_
              refine pv_callv (M := mL_law) (as := [.int (xs 1)]) (st := [.int 0]) (kc2 := 0) (ks2 := 0) dL_law_1187 wd1791 YX12_count ⟨wd1792, wd1793⟩ e123 rfl rfl (k_X12_count g (xs 1) e123 e126) rfl rfl (Nat.le_of_ble_eq_true rfl) (by decide) rfl rfl 1190 rfl (pv_k1 ?_)
              by_cases c17 : (xs 1) = 0
              · exact absurd (Int.le_trans (pv_b9 c16) (pv_b10 c17)) (by decide)
              · refine pv_top (M := mL_law) (if_neg c17) ?_
                by_cases c18 : (xs 1) = 1
                · exact absurd (Int.le_trans (pv_b9 c16) (pv_b10 c18)) (by decide)
                · refine pv_top (M := mL_law) (if_neg c18) ?_
                  by_cases c19 : (xs 1) = 2
                  · exact absurd (Int.le_trans (pv_b9 c16) (pv_b10 c19)) (by decide)
                  · refine pv_top (M := mL_law) (if_neg c19) ?_
                    by_cases c20 : (xs 1) = 3
                    · exact absurd (Int.le_trans (pv_b9 c16) (pv_b10 c20)) (by decide)
                    · refine pv_top (M := mL_law) (if_neg c20) ?_
                      by_cases c21 : (xs 1) = 4
                      · refine pv_top (M := mL_law) (if_pos c21) ?_
                        refine pv_icmp_eq (M := mL_law) (tgt := 1195) dL_law_1190 1193 rfl (by decide) (fun _ => ?_) (fun q => absurd (by decide) q)
                        refine pv_iinc (M := mL_law) (v := 6) (lo2 := [.retAddr (b + 1), .ref 0, .ref 123, .int 6]) dL_law_1195 1198 rfl rfl (by decide) (by decide) rfl rfl ?_
                        refine pv_goto (M := mL_law) (tgt := 18) dL_law_1198 (by decide) ?_
                        refine pv_iload_n (M := mL_law) 3 dL_law_18 19 rfl rfl rfl ?_
                        refine pv_aloadS_n (M := mL_law) 0 dL_law_19 20 rfl rfl rfl ?_
                        refine pv_slen (M := mL_law) dL_law_20 21 rfl ?_
                        refine pv_top (M := mL_law) (y := 6) (by decide) ?_
                        refine pv_bipush (M := mL_law) (v := 6) dL_law_21 23 rfl (by decide) ?_
                        refine pv_isub (M := mL_law) (v := 0) dL_law_23 24 rfl (by decide) ?_
                        refine pv_icmp_gt (M := mL_law) (tgt := 1201) dL_law_24 27 rfl (by decide) (fun _ => ?_) (fun q => absurd (by decide) q)
                        refine pv_iconst (M := mL_law) (v := 1) dL_law_1201 1202 rfl (by decide) ?_
                        exact pv_iret (M := mL_law) dL_law_1202 rfl rfl rfl
                      · exact absurd (pv_b11 (pv_b9 c16) (pv_b10 c16)) c21
            · refine pv_top (M := mL_law) (if_neg c16) ?_
              by_cases c22 : (xs 1) = 5
              · refine pv_top (M := mL_law) (if_pos c22) ?_
                refine pv_aload_n (M := mL_law) 2 dL_law_1181 1182 rfl rfl rfl ?_
                refine pv_aloadS_n (M := mL_law) 0 dL_law_1182 1183 rfl rfl rfl ?_
                refine pv_iload_n (M := mL_law) 3 dL_law_1183 1184 rfl rfl rfl ?_
                refine pv_iconst (M := mL_law) (v := 1) dL_law_1184 1185 rfl (by decide) ?_
                refine pv_iadd (M := mL_law) (v := 1) dL_law_1185 1186 rfl (by decide) ?_
                refine pv_sld (M := mL_law) dL_law_1186 (pv_in0 (by decide)) (v := xs 1) rfl 1187 rfl ?_
                refine pv_callv (M := mL_law) (as := [.int (xs 1)]) (st := [.int 0]) (kc2 := 0) (ks2 := 0) dL_law_1187 wd1791 YX12_count ⟨wd1792, wd1793⟩ e123 rfl rfl (k_X12_count g (xs 1) e123 e126) rfl rfl (Nat.le_of_ble_eq_true rfl) (by decide) rfl rfl 1190 rfl (pv_k1 ?_)
                by_cases c23 : (xs 1) = 0
                · exact absurd (Int.le_trans (pv_b9 c22) (pv_b10 c23)) (by decide)
                · refine pv_top (M := mL_law) (if_neg c23) ?_
                  by_cases c24 : (xs 1) = 1
                  · exact absurd (Int.le_trans (pv_b9 c22) (pv_b10 c24)) (by decide)
                  · refine pv_top (M := mL_law) (if_neg c24) ?_
                    by_cases c25 : (xs 1) = 2
                    · exact absurd (Int.le_trans (pv_b9 c22) (pv_b10 c25)) (by decide)
                    · refine pv_top (M := mL_law) (if_neg c25) ?_
                      by_cases c26 : (xs 1) = 3
                      · exact absurd (Int.le_trans (pv_b9 c22) (pv_b10 c26)) (by decide)
                      · refine pv_top (M := mL_law) (if_neg c26) ?_
                        by_cases c27 : (xs 1) = 4
                        · exact absurd (Int.le_trans (pv_b9 c22) (pv_b10 c27)) (by decide)
                        · refine pv_top (M := mL_law) (if_neg c27) ?_
                          by_cases c28 : (xs 1) = 5
                          · refine pv_top (M := mL_law) (if_pos c28) ?_
                            refine pv_icmp_eq (M := mL_law) (tgt := 1195) dL_law_1190 1193 rfl (by decide) (fun _ => ?_) (fun q => absurd (by decide) q)
                            refine pv_iinc (M := mL_law) (v := 6) (lo2 := [.retAddr (b + 1), .ref 0, .ref 123, .int 6]) dL_law_1195 1198 rfl rfl (by decide) (by decide) rfl rfl ?_
                            refine pv_goto (M := mL_law) (tgt := 18) dL_law_1198 (by decide) ?_
                            refine pv_iload_n (M := mL_law) 3 dL_law_18 19 rfl rfl rfl ?_
                            refine pv_aloadS_n (M := mL_law) 0 dL_law_19 20 rfl rfl rfl ?_
                            refine pv_slen (M := mL_law) dL_law_20 21 rfl ?_
                            refine pv_top (M := mL_law) (y := 6) (by decide) ?_
                            refine pv_bipush (M := mL_law) (v := 6) dL_law_21 23 rfl (by decide) ?_
                            refine pv_isub (M := mL_law) (v := 0) dL_law_23 24 rfl (by decide) ?_
                            refine pv_icmp_gt (M := mL_law) (tgt := 1201) dL_law_24 27 rfl (by decide) (fun _ => ?_) (fun q => absurd (by decide) q)
                            refine pv_iconst (M := mL_law) (v := 1) dL_law_1201 1202 rfl (by decide) ?_
                            exact pv_iret (M := mL_law) dL_law_1202 rfl rfl rfl
                          · exact absurd (pv_b11 (pv_b9 c22) (pv_b10 c22)) c28
              · refine pv_top (M := mL_law) (if_neg c22) ?_
                by_cases c29 : (xs 1) = 6
                · refine pv_top (M := mL_law) (if_pos c29) ?_
                  refine pv_aload_n (M := mL_law) 2 dL_law_1181 1182 rfl rfl rfl ?_
                  refine pv_aloadS_n (M := mL_law) 0 dL_law_1182 1183 rfl rfl rfl ?_
                  refine pv_iload_n (M := mL_law) 3 dL_law_1183 1184 rfl rfl rfl ?_
                  refine pv_iconst (M := mL_law) (v := 1) dL_law_1184 1185 rfl (by decide) ?_
                  refine pv_iadd (M := mL_law) (v := 1) dL_law_1185 1186 rfl (by decide) ?_
                  refine pv_sld (M := mL_law) dL_law_1186 (pv_in0 (by decide)) (v := xs 1) rfl 1187 rfl ?_
                  refine pv_callv (M := mL_law) (as := [.int (xs 1)]) (st := [.int 1]) (kc2 := 0) (ks2 := 0) dL_law_1187 wd1791 YX12_count ⟨wd1792, wd1793⟩ e123 rfl rfl (k_X12_count g (xs 1) e123 e126) rfl rfl (Nat.le_of_ble_eq_true rfl) (by decide) rfl rfl 1190 rfl (pv_k1 ?_)
                  by_cases c30 : (xs 1) = 0
                  · exact absurd (Int.le_trans (pv_b9 c29) (pv_b10 c30)) (by decide)
                  · refine pv_top (M := mL_law) (if_neg c30) ?_
                    by_cases c31 : (xs 1) = 1
                    · exact absurd (Int.le_trans (pv_b9 c29) (pv_b10 c31)) (by decide)
                    · refine pv_top (M := mL_law) (if_neg c31) ?_
                      by_cases c32 : (xs 1) = 2
                      · exact absurd (Int.le_trans (pv_b9 c29) (pv_b10 c32)) (by decide)
                      · refine pv_top (M := mL_law) (if_neg c32) ?_
                        by_cases c33 : (xs 1) = 3
                        · exact absurd (Int.le_trans (pv_b9 c29) (pv_b10 c33)) (by decide)
                        · refine pv_top (M := mL_law) (if_neg c33) ?_
                          by_cases c34 : (xs 1) = 4
                          · exact absurd (Int.le_trans (pv_b9 c29) (pv_b10 c34)) (by decide)
                          · refine pv_top (M := mL_law) (if_neg c34) ?_
                            by_cases c35 : (xs 1) = 5
                            · exact absurd (Int.le_trans (pv_b9 c29) (pv_b10 c35)) (by decide)
                            · refine pv_top (M := mL_law) (if_neg c35) ?_
                              by_cases c36 : (xs 1) = 6
                              · refine pv_top (M := mL_law) (if_pos c36) ?_
                                refine pv_icmp_eq (M := mL_law) (tgt := 1195) dL_law_1190 1193 rfl (by decide) (fun _ => ?_) (fun q => absurd (by decide) q)
                                refine pv_iinc (M := mL_law) (v := 6) (lo2 := [.retAddr (b + 1), .ref 0, .ref 123, .int 6]) dL_law_1195 1198 rfl rfl (by decide) (by decide) rfl rfl ?_
                                refine pv_goto (M := mL_law) (tgt := 18) dL_law_1198 (by decide) ?_
                                refine pv_iload_n (M := mL_law) 3 dL_law_18 19 rfl rfl rfl ?_
                                refine pv_aloadS_n (M := mL_law) 0 dL_law_19 20 rfl rfl rfl ?_
                                refine pv_slen (M := mL_law) dL_law_20 21 rfl ?_
                                refine pv_top (M := mL_law) (y := 6) (by decide) ?_
                                refine pv_bipush (M := mL_law) (v := 6) dL_law_21 23 rfl (by decide) ?_
                                refine pv_isub (M := mL_law) (v := 0) dL_law_23 24 rfl (by decide) ?_
                                refine pv_icmp_gt (M := mL_law) (tgt := 1201) dL_law_24 27 rfl (by decide) (fun _ => ?_) (fun q => absurd (by decide) q)
                                refine pv_iconst (M := mL_law) (v := 1) dL_law_1201 1202 rfl (by decide) ?_
                                exact pv_iret (M := mL_law) dL_law_1202 rfl rfl rfl
                              · exact absurd (pv_b11 (pv_b9 c29) (pv_b10 c29)) c36
                · refine pv_top (M := mL_law) (if_neg c29) ?_
                  by_cases c37 : (xs 1) = 7
                  · refine pv_top (M := mL_law) (if_pos c37) ?_
                    refine pv_aload_n (M := mL_law) 2 dL_law_1181 1182 rfl rfl rfl ?_
                    refine pv_aloadS_n (M := mL_law) 0 dL_law_1182 1183 rfl rfl rfl ?_
                    refine pv_iload_n (M := mL_law) 3 dL_law_1183 1184 rfl rfl rfl ?_
                    refine pv_iconst (M := mL_law) (v := 1) dL_law_1184 1185 rfl (by decide) ?_
                    refine pv_iadd (M := mL_law) (v := 1) dL_law_1185 1186 rfl (by decide) ?_
                    refine pv_sld (M := mL_law) dL_law_1186 (pv_in0 (by decide)) (v := xs 1) rfl 1187 rfl ?_
                    refine pv_callv (M := mL_law) (as := [.int (xs 1)]) (st := [.int 0]) (kc2 := 0) (ks2 := 0) dL_law_1187 wd1791 YX12_count ⟨wd1792, wd1793⟩ e123 rfl rfl (k_X12_count g (xs 1) e123 e126) rfl rfl (Nat.le_of_ble_eq_true rfl) (by decide) rfl rfl 1190 rfl (pv_k1 ?_)
                    by_cases c38 : (xs 1) = 0
                    · exact absurd (Int.le_trans (pv_b9 c37) (pv_b10 c38)) (by decide)
                    · refine pv_top (M := mL_law) (if_neg c38) ?_
                      by_cases c39 : (xs 1) = 1
                      · exact absurd (Int.le_trans (pv_b9 c37) (pv_b10 c39)) (by decide)
                      · refine pv_top (M := mL_law) (if_neg c39) ?_
                        by_cases c40 : (xs 1) = 2
                        · exact absurd (Int.le_trans (pv_b9 c37) (pv_b10 c40)) (by decide)
                        · refine pv_top (M := mL_law) (if_neg c40) ?_
                          by_cases c41 : (xs 1) = 3
                          · exact absurd (Int.le_trans (pv_b9 c37) (pv_b10 c41)) (by decide)
                          · refine pv_top (M := mL_law) (if_neg c41) ?_
                            by_cases c42 : (xs 1) = 4
                            · exact absurd (Int.le_trans (pv_b9 c37) (pv_b10 c42)) (by decide)
                            · refine pv_top (M := mL_law) (if_neg c42) ?_
                              by_cases c43 : (xs 1) = 5
                              · exact absurd (Int.le_trans (pv_b9 c37) (pv_b10 c43)) (by decide)
                              · refine pv_top (M := mL_law) (if_neg c43) ?_
                                by_cases c44 : (xs 1) = 6
                                · exact absurd (Int.le_trans (pv_b9 c37) (pv_b10 c44)) (by decide)
                                · refine pv_top (M := mL_law) (if_neg c44) ?_
                                  by_cases c45 : (xs 1) = 7
                                  · refine pv_top (M := mL_law) (if_pos c45) ?_
                                    refine pv_icmp_eq (M := mL_law) (tgt := 1195) dL_law_1190 1193 rfl (by decide) (fun _ => ?_) (fun q => absurd (by decide) q)
                                    refine pv_iinc (M := mL_law) (v := 6) (lo2 := [.retAddr (b + 1), .ref 0, .ref 123, .int 6]) dL_law_1195 1198 rfl rfl (by decide) (by decide) rfl rfl ?_
                                    refine pv_goto (M := mL_law) (tgt := 18) dL_law_1198 (by decide) ?_
                                    refine pv_iload_n (M := mL_law) 3 dL_law_18 19 rfl rfl rfl ?_
                                    refine pv_aloadS_n (M := mL_law) 0 dL_law_19 20 rfl rfl rfl ?_
                                    refine pv_slen (M := mL_law) dL_law_20 21 rfl ?_
                                    refine pv_top (M := mL_law) (y := 6) (by decide) ?_
                                    refine pv_bipush (M := mL_law) (v := 6) dL_law_21 23 rfl (by decide) ?_
                                    refine pv_isub (M := mL_law) (v := 0) dL_law_23 24 rfl (by decide) ?_
                                    refine pv_icmp_gt (M := mL_law) (tgt := 1201) dL_law_24 27 rfl (by decide) (fun _ => ?_) (fun q => absurd (by decide) q)
                                    refine pv_iconst (M := mL_law) (v := 1) dL_law_1201 1202 rfl (by decide) ?_
                                    exact pv_iret (M := mL_law) dL_law_1202 rfl rfl rfl
                                  · exact absurd (pv_b11 (pv_b9 c37) (pv_b10 c37)) c45
                  · refine pv_top (M := mL_law) (if_neg c37) ?_
                    refine pv_aload_n (M := mL_law) 2 dL_law_1181 1182 rfl rfl rfl ?_
                    refine pv_aloadS_n (M := mL_law) 0 dL_law_1182 1183 rfl rfl rfl ?_
                    refine pv_iload_n (M := mL_law) 3 dL_law_1183 1184 rfl rfl rfl ?_
                    refine pv_iconst (M := mL_law) (v := 1) dL_law_1184 1185 rfl (by decide) ?_
                    refine pv_iadd (M := mL_law) (v := 1) dL_law_1185 1186 rfl (by decide) ?_
                    refine pv_sld (M := mL_law) dL_law_1186 (pv_in0 (by decide)) (v := xs 1) rfl 1187 rfl ?_
                    refine pv_callv (M := mL_law) (as := [.int (xs 1)]) (st := [.int (-1)]) (kc2 := 0) (ks2 := 0) dL_law_1187 wd1791 YX12_count ⟨wd1792, wd1793⟩ e123 rfl rfl (k_X12_count g (xs 1) e123 e126) rfl rfl (Nat.le_of_ble_eq_true rfl) (by decide) rfl rfl 1190 rfl (pv_k1 ?_)
                    by_cases c46 : (xs 1) = 0
                    · exact absurd c46 c2
                    · refine pv_top (M := mL_law) (if_neg c46) ?_
                      by_cases c47 : (xs 1) = 1
                      · exact absurd c47 c4
                      · refine pv_top (M := mL_law) (if_neg c47) ?_
                        by_cases c48 : (xs 1) = 2
                        · exact absurd c48 c7
                        · refine pv_top (M := mL_law) (if_neg c48) ?_
                          by_cases c49 : (xs 1) = 3
                          · exact absurd c49 c11
                          · refine pv_top (M := mL_law) (if_neg c49) ?_
                            by_cases c50 : (xs 1) = 4
                            · exact absurd c50 c16
                            · refine pv_top (M := mL_law) (if_neg c50) ?_
                              by_cases c51 : (xs 1) = 5
                              · exact absurd c51 c22
                              · refine pv_top (M := mL_law) (if_neg c51) ?_
                                by_cases c52 : (xs 1) = 6
                                · exact absurd c52 c29
                                · refine pv_top (M := mL_law) (if_neg c52) ?_
                                  by_cases c53 : (xs 1) = 7
                                  · exact absurd c53 c37
                                  · refine pv_top (M := mL_law) (if_neg c53) ?_
                                    by_cases c54 : (xs 1) < 20
                                    · refine pv_top (M := mL_law) (if_pos c54) ?_
                                      refine pv_icmp_eq (M := mL_law) (tgt := 1195) dL_law_1190 1193 rfl (by decide) (fun _ => ?_) (fun q => absurd (by decide) q)
                                      refine pv_iinc (M := mL_law) (v := 6) (lo2 := [.retAddr (b + 1), .ref 0, .ref 123, .int 6]) dL_law_1195 1198 rfl rfl (by decide) (by decide) rfl rfl ?_
                                      refine pv_goto (M := mL_law) (tgt := 18) dL_law_1198 (by decide) ?_
                                      refine pv_iload_n (M := mL_law) 3 dL_law_18 19 rfl rfl rfl ?_
                                      refine pv_aloadS_n (M := mL_law) 0 dL_law_19 20 rfl rfl rfl ?_
                                      refine pv_slen (M := mL_law) dL_law_20 21 rfl ?_
                                      refine pv_top (M := mL_law) (y := 6) (by decide) ?_
                                      refine pv_bipush (M := mL_law) (v := 6) dL_law_21 23 rfl (by decide) ?_
                                      refine pv_isub (M := mL_law) (v := 0) dL_law_23 24 rfl (by decide) ?_
                                      refine pv_icmp_gt (M := mL_law) (tgt := 1201) dL_law_24 27 rfl (by decide) (fun _ => ?_) (fun q => absurd (by decide) q)
                                      refine pv_iconst (M := mL_law) (v := 1) dL_law_1201 1202 rfl (by decide) ?_
                                      exact pv_iret (M := mL_law) dL_law_1202 rfl rfl rfl
                                    · exact absurd (Int.le_trans (pv_b2 c54) (pv_b1 c1)) (by decide)
  · refine pv_top (M := mL_law) (if_neg c1) ?_
    by_cases c55 : 18 ≤ (xs 1)
    · refine pv_top (M := mL_law) (if_pos c55) ?_
      by_cases c56 : (xs 1) < 20
      · refine pv_top (M := mL_law) (if_pos c56) ?_
        by_cases c57 : (xs 1) = 0
        · exact absurd (Int.le_trans (pv_b7 c55) (pv_b10 c57)) (by decide)
        · refine pv_top (M := mL_law) (if_neg c57) ?_
          by_cases c58 : (xs 1) = 1
          · exact absurd (Int.le_trans (pv_b7 c55) (pv_b10 c58)) (by decide)
          · refine pv_top (M := mL_law) (if_neg c58) ?_
            by_cases c59 : (xs 1) = 2
            · exact absurd (Int.le_trans (pv_b7 c55) (pv_b10 c59)) (by decide)
            · refine pv_top (M := mL_law) (if_neg c59) ?_
              by_cases c60 : (xs 1) = 3
              · exact absurd (Int.le_trans (pv_b7 c55) (pv_b10 c60)) (by decide)
              · refine pv_top (M := mL_law) (if_neg c60) ?_
                by_cases c61 : (xs 1) = 4
                · exact absurd (Int.le_trans (pv_b7 c55) (pv_b10 c61)) (by decide)
                · refine pv_top (M := mL_law) (if_neg c61) ?_
                  by_cases c62 : (xs 1) = 5
                  · exact absurd (Int.le_trans (pv_b7 c55) (pv_b10 c62)) (by decide)
                  · refine pv_top (M := mL_law) (if_neg c62) ?_
                    by_cases c63 : (xs 1) = 6
                    · exact absurd (Int.le_trans (pv_b7 c55) (pv_b10 c63)) (by decide)
                    · refine pv_top (M := mL_law) (if_neg c63) ?_
                      by_cases c64 : (xs 1) = 7
                      · exact absurd (Int.le_trans (pv_b7 c55) (pv_b10 c64)) (by decide)
                      · refine pv_top (M := mL_law) (if_neg c64) ?_
                        refine pv_aload_n (M := mL_law) 2 dL_law_1181 1182 rfl rfl rfl ?_
                        refine pv_aloadS_n (M := mL_law) 0 dL_law_1182 1183 rfl rfl rfl ?_
                        refine pv_iload_n (M := mL_law) 3 dL_law_1183 1184 rfl rfl rfl ?_
                        refine pv_iconst (M := mL_law) (v := 1) dL_law_1184 1185 rfl (by decide) ?_
                        refine pv_iadd (M := mL_law) (v := 1) dL_law_1185 1186 rfl (by decide) ?_
                        refine pv_sld (M := mL_law) dL_law_1186 (pv_in0 (by decide)) (v := xs 1) rfl 1187 rfl ?_
                        refine pv_callv (M := mL_law) (as := [.int (xs 1)]) (st := [.int (-1)]) (kc2 := 0) (ks2 := 0) dL_law_1187 wd1791 YX12_count ⟨wd1792, wd1793⟩ e123 rfl rfl (k_X12_count g (xs 1) e123 e126) rfl rfl (Nat.le_of_ble_eq_true rfl) (by decide) rfl rfl 1190 rfl (pv_k1 ?_)
                        by_cases c65 : (xs 1) = 0
                        · exact absurd (Int.le_trans (pv_b7 c55) (pv_b10 c65)) (by decide)
                        · refine pv_top (M := mL_law) (if_neg c65) ?_
                          by_cases c66 : (xs 1) = 1
                          · exact absurd (Int.le_trans (pv_b7 c55) (pv_b10 c66)) (by decide)
                          · refine pv_top (M := mL_law) (if_neg c66) ?_
                            by_cases c67 : (xs 1) = 2
                            · exact absurd (Int.le_trans (pv_b7 c55) (pv_b10 c67)) (by decide)
                            · refine pv_top (M := mL_law) (if_neg c67) ?_
                              by_cases c68 : (xs 1) = 3
                              · exact absurd (Int.le_trans (pv_b7 c55) (pv_b10 c68)) (by decide)
                              · refine pv_top (M := mL_law) (if_neg c68) ?_
                                by_cases c69 : (xs 1) = 4
                                · exact absurd (Int.le_trans (pv_b7 c55) (pv_b10 c69)) (by decide)
                                · refine pv_top (M := mL_law) (if_neg c69) ?_
                                  by_cases c70 : (xs 1) = 5
                                  · exact absurd (Int.le_trans (pv_b7 c55) (pv_b10 c70)) (by decide)
                                  · refine pv_top (M := mL_law) (if_neg c70) ?_
                                    by_cases c71 : (xs 1) = 6
                                    · exact absurd (Int.le_trans (pv_b7 c55) (pv_b10 c71)) (by decide)
                                    · refine pv_top (M := mL_law) (if_neg c71) ?_
                                      by_cases c72 : (xs 1) = 7
                                      · exact absurd (Int.le_trans (pv_b7 c55) (pv_b10 c72)) (by decide)
                                      · refine pv_top (M := mL_law) (if_neg c72) ?_
                                        by_cases c73 : (xs 1) < 20
                                        · refine pv_top (M := mL_law) (if_pos c73) ?_
                                          refine pv_icmp_eq (M := mL_law) (tgt := 1195) dL_law_1190 1193 rfl (by decide) (fun _ => ?_) (fun q => absurd (by decide) q)
                                          refine pv_iinc (M := mL_law) (v := 6) (lo2 := [.retAddr (b + 1), .ref 0, .ref 123, .int 6]) dL_law_1195 1198 rfl rfl (by decide) (by decide) rfl rfl ?_
                                          refine pv_goto (M := mL_law) (tgt := 18) dL_law_1198 (by decide) ?_
                                          refine pv_iload_n (M := mL_law) 3 dL_law_18 19 rfl rfl rfl ?_
                                          refine pv_aloadS_n (M := mL_law) 0 dL_law_19 20 rfl rfl rfl ?_
                                          refine pv_slen (M := mL_law) dL_law_20 21 rfl ?_
                                          refine pv_top (M := mL_law) (y := 6) (by decide) ?_
                                          refine pv_bipush (M := mL_law) (v := 6) dL_law_21 23 rfl (by decide) ?_
                                          refine pv_isub (M := mL_law) (v := 0) dL_law_23 24 rfl (by decide) ?_
                                          refine pv_icmp_gt (M := mL_law) (tgt := 1201) dL_law_24 27 rfl (by decide) (fun _ => ?_) (fun q => absurd (by decide) q)
                                          refine pv_iconst (M := mL_law) (v := 1) dL_law_1201 1202 rfl (by decide) ?_
                                          exact pv_iret (M := mL_law) dL_law_1202 rfl rfl rfl
                                        · exact absurd (Int.le_trans (pv_b2 c73) (pv_b1 c56)) (by decide)
      · refine pv_top (M := mL_law) (if_neg c56) ?_
        by_cases c74 : 28 ≤ (xs 1)
        · refine pv_top (M := mL_law) (if_pos c74) ?_
          by_cases c75 : (xs 1) = 0
          · exact absurd (Int.le_trans (pv_b7 c74) (pv_b10 c75)) (by decide)
          · refine pv_top (M := mL_law) (if_neg c75) ?_
            by_cases c76 : (xs 1) = 1
            · exact absurd (Int.le_trans (pv_b7 c74) (pv_b10 c76)) (by decide)
            · refine pv_top (M := mL_law) (if_neg c76) ?_
              by_cases c77 : (xs 1) = 2
              · exact absurd (Int.le_trans (pv_b7 c74) (pv_b10 c77)) (by decide)
              · refine pv_top (M := mL_law) (if_neg c77) ?_
                by_cases c78 : (xs 1) = 3
                · exact absurd (Int.le_trans (pv_b7 c74) (pv_b10 c78)) (by decide)
                · refine pv_top (M := mL_law) (if_neg c78) ?_
                  by_cases c79 : (xs 1) = 4
                  · exact absurd (Int.le_trans (pv_b7 c74) (pv_b10 c79)) (by decide)
                  · refine pv_top (M := mL_law) (if_neg c79) ?_
                    by_cases c80 : (xs 1) = 5
                    · exact absurd (Int.le_trans (pv_b7 c74) (pv_b10 c80)) (by decide)
                    · refine pv_top (M := mL_law) (if_neg c80) ?_
                      by_cases c81 : (xs 1) = 6
                      · exact absurd (Int.le_trans (pv_b7 c74) (pv_b10 c81)) (by decide)
                      · refine pv_top (M := mL_law) (if_neg c81) ?_
                        by_cases c82 : (xs 1) = 7
                        · exact absurd (Int.le_trans (pv_b7 c74) (pv_b10 c82)) (by decide)
                        · refine pv_top (M := mL_law) (if_neg c82) ?_
                          refine pv_aload_n (M := mL_law) 2 dL_law_1181 1182 rfl rfl rfl ?_
                          refine pv_aloadS_n (M := mL_law) 0 dL_law_1182 1183 rfl rfl rfl ?_
                          refine pv_iload_n (M := mL_law) 3 dL_law_1183 1184 rfl rfl rfl ?_
                          refine pv_iconst (M := mL_law) (v := 1) dL_law_1184 1185 rfl (by decide) ?_
                          refine pv_iadd (M := mL_law) (v := 1) dL_law_1185 1186 rfl (by decide) ?_
                          refine pv_sld (M := mL_law) dL_law_1186 (pv_in0 (by decide)) (v := xs 1) rfl 1187 rfl ?_
                          refine pv_callv (M := mL_law) (as := [.int (xs 1)]) (st := [.int (-1)]) (kc2 := 0) (ks2 := 0) dL_law_1187 wd1791 YX12_count ⟨wd1792, wd1793⟩ e123 rfl rfl (k_X12_count g (xs 1) e123 e126) rfl rfl (Nat.le_of_ble_eq_true rfl) (by decide) rfl rfl 1190 rfl (pv_k1 ?_)
                          by_cases c83 : (xs 1) = 0
                          · exact absurd (Int.le_trans (pv_b7 c74) (pv_b10 c83)) (by decide)
                          · refine pv_top (M := mL_law) (if_neg c83) ?_
                            by_cases c84 : (xs 1) = 1
                            · exact absurd (Int.le_trans (pv_b7 c74) (pv_b10 c84)) (by decide)
                            · refine pv_top (M := mL_law) (if_neg c84) ?_
                              by_cases c85 : (xs 1) = 2
                              · exact absurd (Int.le_trans (pv_b7 c74) (pv_b10 c85)) (by decide)
                              · refine pv_top (M := mL_law) (if_neg c85) ?_
                                by_cases c86 : (xs 1) = 3
                                · exact absurd (Int.le_trans (pv_b7 c74) (pv_b10 c86)) (by decide)
                                · refine pv_top (M := mL_law) (if_neg c86) ?_
                                  by_cases c87 : (xs 1) = 4
                                  · exact absurd (Int.le_trans (pv_b7 c74) (pv_b10 c87)) (by decide)
                                  · refine pv_top (M := mL_law) (if_neg c87) ?_
                                    by_cases c88 : (xs 1) = 5
                                    · exact absurd (Int.le_trans (pv_b7 c74) (pv_b10 c88)) (by decide)
                                    · refine pv_top (M := mL_law) (if_neg c88) ?_
                                      by_cases c89 : (xs 1) = 6
                                      · exact absurd (Int.le_trans (pv_b7 c74) (pv_b10 c89)) (by decide)
                                      · refine pv_top (M := mL_law) (if_neg c89) ?_
                                        by_cases c90 : (xs 1) = 7
                                        · exact absurd (Int.le_trans (pv_b7 c74) (pv_b10 c90)) (by decide)
                                        · refine pv_top (M := mL_law) (if_neg c90) ?_
                                          by_cases c91 : (xs 1) < 20
                                          · exact absurd (Int.le_trans (pv_b7 c74) (pv_b1 c91)) (by decide)
                                          · refine pv_top (M := mL_law) (if_neg c91) ?_
                                            by_cases c92 : 27 < (xs 1)
                                            · refine pv_top (M := mL_law) (if_pos c92) ?_
                                              refine pv_icmp_eq (M := mL_law) (tgt := 1195) dL_law_1190 1193 rfl (by decide) (fun _ => ?_) (fun q => absurd (by decide) q)
                                              refine pv_iinc (M := mL_law) (v := 6) (lo2 := [.retAddr (b + 1), .ref 0, .ref 123, .int 6]) dL_law_1195 1198 rfl rfl (by decide) (by decide) rfl rfl ?_
                                              refine pv_goto (M := mL_law) (tgt := 18) dL_law_1198 (by decide) ?_
                                              refine pv_iload_n (M := mL_law) 3 dL_law_18 19 rfl rfl rfl ?_
                                              refine pv_aloadS_n (M := mL_law) 0 dL_law_19 20 rfl rfl rfl ?_
                                              refine pv_slen (M := mL_law) dL_law_20 21 rfl ?_
                                              refine pv_top (M := mL_law) (y := 6) (by decide) ?_
                                              refine pv_bipush (M := mL_law) (v := 6) dL_law_21 23 rfl (by decide) ?_
                                              refine pv_isub (M := mL_law) (v := 0) dL_law_23 24 rfl (by decide) ?_
                                              refine pv_icmp_gt (M := mL_law) (tgt := 1201) dL_law_24 27 rfl (by decide) (fun _ => ?_) (fun q => absurd (by decide) q)
                                              refine pv_iconst (M := mL_law) (v := 1) dL_law_1201 1202 rfl (by decide) ?_
                                              exact pv_iret (M := mL_law) dL_law_1202 rfl rfl rfl
                                            · exact absurd (Int.le_trans (pv_b7 c74) (pv_b6 c92)) (by decide)
        · refine pv_top (M := mL_law) (if_neg c74) ?_
          refine pv_aload_n (M := mL_law) 2 dL_law_1181 1182 rfl rfl rfl ?_
          refine pv_aloadS_n (M := mL_law) 0 dL_law_1182 1183 rfl rfl rfl ?_
          refine pv_iload_n (M := mL_law) 3 dL_law_1183 1184 rfl rfl rfl ?_
          refine pv_iconst (M := mL_law) (v := 1) dL_law_1184 1185 rfl (by decide) ?_
          refine pv_iadd (M := mL_law) (v := 1) dL_law_1185 1186 rfl (by decide) ?_
          refine pv_sld (M := mL_law) dL_law_1186 (pv_in0 (by decide)) (v := xs 1) rfl 1187 rfl ?_
          refine pv_callv (M := mL_law) (as := [.int (xs 1)]) (st := [.int 0]) (kc2 := 0) (ks2 := 0) dL_law_1187 wd1791 YX12_count ⟨wd1792, wd1793⟩ e123 rfl rfl (k_X12_count g (xs 1) e123 e126) rfl rfl (Nat.le_of_ble_eq_true rfl) (by decide) rfl rfl 1190 rfl (pv_k1 ?_)
          by_cases c93 : (xs 1) = 0
          · exact absurd (Int.le_trans (pv_b2 c56) (pv_b10 c93)) (by decide)
          · refine pv_top (M := mL_law) (if_neg c93) ?_
            by_cases c94 : (xs 1) = 1
            · exact absurd (Int.le_trans (pv_b2 c56) (pv_b10 c94)) (by decide)
            · refine pv_top (M := mL_law) (if_neg c94) ?_
              by_cases c95 : (xs 1) = 2
              · exact absurd (Int.le_trans (pv_b2 c56) (pv_b10 c95)) (by decide)
              · refine pv_top (M := mL_law) (if_neg c95) ?_
                by_cases c96 : (xs 1) = 3
                · exact absurd (Int.le_trans (pv_b2 c56) (pv_b10 c96)) (by decide)
                · refine pv_top (M := mL_law) (if_neg c96) ?_
                  by_cases c97 : (xs 1) = 4
                  · exact absurd (Int.le_trans (pv_b2 c56) (pv_b10 c97)) (by decide)
                  · refine pv_top (M := mL_law) (if_neg c97) ?_
                    by_cases c98 : (xs 1) = 5
                    · exact absurd (Int.le_trans (pv_b2 c56) (pv_b10 c98)) (by decide)
                    · refine pv_top (M := mL_law) (if_neg c98) ?_
                      by_cases c99 : (xs 1) = 6
                      · exact absurd (Int.le_trans (pv_b2 c56) (pv_b10 c99)) (by decide)
                      · refine pv_top (M := mL_law) (if_neg c99) ?_
                        by_cases c100 : (xs 1) = 7
                        · exact absurd (Int.le_trans (pv_b2 c56) (pv_b10 c100)) (by decide)
                        · refine pv_top (M := mL_law) (if_neg c100) ?_
                          by_cases c101 : (xs 1) < 20
                          · exact absurd (Int.le_trans (pv_b2 c56) (pv_b1 c101)) (by decide)
                          · refine pv_top (M := mL_law) (if_neg c101) ?_
                            by_cases c102 : 27 < (xs 1)
                            · exact absurd (Int.le_trans (pv_b5 c102) (pv_b8 c74)) (by decide)
                            · refine pv_top (M := mL_law) (if_neg c102) ?_
                              refine pv_icmp_eq (M := mL_law) (tgt := 1195) dL_law_1190 1193 rfl (by decide) (fun _ => ?_) (fun q => absurd (by decide) q)
                              refine pv_iinc (M := mL_law) (v := 6) (lo2 := [.retAddr (b + 1), .ref 0, .ref 123, .int 6]) dL_law_1195 1198 rfl rfl (by decide) (by decide) rfl rfl ?_
                              refine pv_goto (M := mL_law) (tgt := 18) dL_law_1198 (by decide) ?_
                              refine pv_iload_n (M := mL_law) 3 dL_law_18 19 rfl rfl rfl ?_
                              refine pv_aloadS_n (M := mL_law) 0 dL_law_19 20 rfl rfl rfl ?_
                              refine pv_slen (M := mL_law) dL_law_20 21 rfl ?_
                              refine pv_top (M := mL_law) (y := 6) (by decide) ?_
                              refine pv_bipush (M := mL_law) (v := 6) dL_law_21 23 rfl (by decide) ?_
                              refine pv_isub (M := mL_law) (v := 0) dL_law_23 24 rfl (by decide) ?_
                              refine pv_icmp_gt (M := mL_law) (tgt := 1201) dL_law_24 27 rfl (by decide) (fun _ => ?_) (fun q => absurd (by decide) q)
                              refine pv_iconst (M := mL_law) (v := 1) dL_law_1201 1202 rfl (by decide) ?_
                              exact pv_iret (M := mL_law) dL_law_1202 rfl rfl rfl
    · refine pv_top (M := mL_law) (if_neg c55) ?_
      refine pv_aload_n (M := mL_law) 2 dL_law_1181 1182 rfl rfl rfl ?_
      refine pv_aloadS_n (M := mL_law) 0 dL_law_1182 1183 rfl rfl rfl ?_
      refine pv_iload_n (M := mL_law) 3 dL_law_1183 1184 rfl rfl rfl ?_
      refine pv_iconst (M := mL_law) (v := 1) dL_law_1184 1185 rfl (by decide) ?_
      refine pv_iadd (M := mL_law) (v := 1) dL_law_1185 1186 rfl (by decide) ?_
      refine pv_sld (M := mL_law) dL_law_1186 (pv_in0 (by decide)) (v := xs 1) rfl 1187 rfl ?_
      refine pv_callv (M := mL_law) (as := [.int (xs 1)]) (st := [.int (-1)]) (kc2 := 0) (ks2 := 0) dL_law_1187 wd1791 YX12_count ⟨wd1792, wd1793⟩ e123 rfl rfl (k_X12_count g (xs 1) e123 e126) rfl rfl (Nat.le_of_ble_eq_true rfl) (by decide) rfl rfl 1190 rfl (pv_k1 ?_)
      by_cases c103 : (xs 1) = 0
      · exact absurd (Int.le_trans (pv_b2 c1) (pv_b10 c103)) (by decide)
      · refine pv_top (M := mL_law) (if_neg c103) ?_
        by_cases c104 : (xs 1) = 1
        · exact absurd (Int.le_trans (pv_b2 c1) (pv_b10 c104)) (by decide)
        · refine pv_top (M := mL_law) (if_neg c104) ?_
          by_cases c105 : (xs 1) = 2
          · exact absurd (Int.le_trans (pv_b2 c1) (pv_b10 c105)) (by decide)
          · refine pv_top (M := mL_law) (if_neg c105) ?_
            by_cases c106 : (xs 1) = 3
            · exact absurd (Int.le_trans (pv_b2 c1) (pv_b10 c106)) (by decide)
            · refine pv_top (M := mL_law) (if_neg c106) ?_
              by_cases c107 : (xs 1) = 4
              · exact absurd (Int.le_trans (pv_b2 c1) (pv_b10 c107)) (by decide)
              · refine pv_top (M := mL_law) (if_neg c107) ?_
                by_cases c108 : (xs 1) = 5
                · exact absurd (Int.le_trans (pv_b2 c1) (pv_b10 c108)) (by decide)
                · refine pv_top (M := mL_law) (if_neg c108) ?_
                  by_cases c109 : (xs 1) = 6
                  · exact absurd (Int.le_trans (pv_b2 c1) (pv_b10 c109)) (by decide)
                  · refine pv_top (M := mL_law) (if_neg c109) ?_
                    by_cases c110 : (xs 1) = 7
                    · exact absurd (Int.le_trans (pv_b2 c1) (pv_b10 c110)) (by decide)
                    · refine pv_top (M := mL_law) (if_neg c110) ?_
                      by_cases c111 : (xs 1) < 20
                      · refine pv_top (M := mL_law) (if_pos c111) ?_
                        refine pv_icmp_eq (M := mL_law) (tgt := 1195) dL_law_1190 1193 rfl (by decide) (fun _ => ?_) (fun q => absurd (by decide) q)
                        refine pv_iinc (M := mL_law) (v := 6) (lo2 := [.retAddr (b + 1), .ref 0, .ref 123, .int 6]) dL_law_1195 1198 rfl rfl (by decide) (by decide) rfl rfl ?_
                        refine pv_goto (M := mL_law) (tgt := 18) dL_law_1198 (by decide) ?_
                        refine pv_iload_n (M := mL_law) 3 dL_law_18 19 rfl rfl rfl ?_
                        refine pv_aloadS_n (M := mL_law) 0 dL_law_19 20 rfl rfl rfl ?_
                        refine pv_slen (M := mL_law) dL_law_20 21 rfl ?_
                        refine pv_top (M := mL_law) (y := 6) (by decide) ?_
                        refine pv_bipush (M := mL_law) (v := 6) dL_law_21 23 rfl (by decide) ?_
                        refine pv_isub (M := mL_law) (v := 0) dL_law_23 24 rfl (by decide) ?_
                        refine pv_icmp_gt (M := mL_law) (tgt := 1201) dL_law_24 27 rfl (by decide) (fun _ => ?_) (fun q => absurd (by decide) q)
                        refine pv_iconst (M := mL_law) (v := 1) dL_law_1201 1202 rfl (by decide) ?_
                        exact pv_iret (M := mL_law) dL_law_1202 rfl rfl rfl
                      · exact absurd (Int.le_trans (pv_b2 c111) (pv_b8 c55)) (by decide)

set_option maxHeartbeats 4000000 in
set_option maxRecDepth 20000 in
theorem law_c29 (g : pv_G) {b : Nat} {xs : Nat → Int32} {h : List pv_C} : PV (some (b, 6, xs)) g mL_law (fun r _ => r = some (.int 1)) 20 0 0 1195 [.retAddr (b + 1), .ref 0, .ref 123, .int 0] [] h := by
  refine pv_iinc (M := mL_law) (v := 6) (lo2 := [.retAddr (b + 1), .ref 0, .ref 123, .int 6]) dL_law_1195 1198 rfl rfl (by decide) (by decide) rfl rfl ?_
  refine pv_goto (M := mL_law) (tgt := 18) dL_law_1198 (by decide) ?_
  refine pv_iload_n (M := mL_law) 3 dL_law_18 19 rfl rfl rfl ?_
  refine pv_aloadS_n (M := mL_law) 0 dL_law_19 20 rfl rfl rfl ?_
  refine pv_slen (M := mL_law) dL_law_20 21 rfl ?_
  refine pv_top (M := mL_law) (y := 6) (by decide) ?_
  refine pv_bipush (M := mL_law) (v := 6) dL_law_21 23 rfl (by decide) ?_
  refine pv_isub (M := mL_law) (v := 0) dL_law_23 24 rfl (by decide) ?_
  refine pv_icmp_gt (M := mL_law) (tgt := 1201) dL_law_24 27 rfl (by decide) (fun _ => ?_) (fun q => absurd (by decide) q)
  refine pv_iconst (M := mL_law) (v := 1) dL_law_1201 1202 rfl (by decide) ?_
  exact pv_iret (M := mL_law) dL_law_1202 rfl rfl rfl
