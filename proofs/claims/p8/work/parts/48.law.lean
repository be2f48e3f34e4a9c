/-! THE LAW: what holds between two calls; each call; the loop -/
abbrev mL_law : pv_M := (RL, "law", cL_law, 4, some .boolean)
def KS (T : List mv_T) (r : Nat → Value) (kc ks : Nat) : Prop := (T = TL ∧ r 2 = .null ∧ kc = 11 ∧ ks = 57200) ∨ (T = TL2 ∧ r 2 = .ref 169 ∧ kc = 0 ∧ ks = 0)
def EQ (r : Nat → Value) (m : Nat → Nat → Int32) : Prop := ∀ la lb, r 1 = .ref la → r 3 = .ref lb → EQA la lb m
theorem EQ_of {T : List mv_T} {r : Nat → Value} {la lb : Nat} {m : Nat → Nat → Int32} (R : RX T r la lb) (h : EQA la lb m) : EQ r m := fun la' lb' h1 h3 => by
  rw [R.2.2.1] at h1
  rw [R.2.2.2.1] at h3
  cases h1
  cases h3
  exact h
theorem EQ_kc {T T2 : List mv_T} {r r2 : Nat → Value} {la lb : Nat} {m m2 : Nat → Nat → Int32} (I : IV BB m) (R : RX T r la lb) (R2 : RX T2 r2 la lb) (h : EQ r m) (k : fr wN m m2) : EQ r2 m2 :=
  EQ_of R2 (EQA_k I R.2.2.2.2.1.1 (h la lb R.2.2.1 R.2.2.2.1) (fun a i q => k a i (wN_isR q)) (fun a i q => k a i (wN_isF q)))
theorem EQ_kr {T : List mv_T} {r : Nat → Value} {la lb : Nat} {l : List (Nat × Nat × Option Nat)} {m m2 : Nat → Nat → Int32} (I : IV BB m) (R : RX T r la lb) (h : EQ r m) (k : fr (wl l) m m2) (hR : (lR.all (fun p => l.all (fun q => dsj p q))) = true) (hF : (lF.all (fun p => l.all (fun q => dsj p q))) = true) : EQ r m2 :=
  EQ_of R (EQA_k I R.2.2.2.2.1.1 (h la lb R.2.2.1 R.2.2.2.1) (fun a i q => k a i (wl_nR hR q)) (fun a i q => k a i (wl_nF hF q)))
def ST (T : List mv_T) (r : Nat → Value) (m : Nat → Nat → Int32) (kc ks : Nat) : Prop := IV BB m ∧ (∃ la lb, RX T r la lb) ∧ LX m ∧ TX T ∧ KS T r kc ks ∧ EQ r m
def ST0 (T : List mv_T) (r : Nat → Value) (m : Nat → Nat → Int32) (kc ks : Nat) : Prop := IV BB m ∧ (∃ la lb, RX T r la lb) ∧ LX m ∧ TX T ∧ KS T r kc ks
def sv (xs : Nat → Int32) (i : Int32) (k : Int) : Int32 := xs (i.toInt + k).toNat
theorem sv_eq {xs : Nat → Int32} {i v : Int32} {k : Int} (e : v.toInt = i.toInt + k) : xs v.toNatClampNeg = sv xs i k := by
  unfold sv
  rw [← e]
  rfl
set_option maxHeartbeats 4000000 in
set_option maxRecDepth 20000 in
theorem lx_c0 (g : pv_G) {b LL : Nat} {xs : Nat → Int32} {i : Int32} (hLL : LL ≤ 3072) (hi0 : 0 ≤ i.toInt) (hi6 : i.toInt + 6 ≤ LL) {T : List mv_T} {m : Nat → Nat → Int32} {n : Nat → Nat → Int64} {r : Nat → Value} {kc ks : Nat} (S : ST T r m kc ks) (kk : ∀ (T : List mv_T) (m : Nat → Nat → Int32) (n : Nat → Nat → Int64) (r : Nat → Value) (kc ks : Nat), ST T r m kc ks → PV (some (b, LL, xs)) g mL_law (fun r _ => r = some (.int 1)) 30 kc ks 1191 [.retAddr (b + 1), .ref 0, .ref 123, .int i] [] (mk T m n r)) : PV (some (b, LL, xs)) g mL_law (fun r _ => r = some (.int 1)) 30 kc ks 164 [.retAddr (b + 1), .ref 0, .ref 123, .int i] [] (mk T m n r) := by
  obtain ⟨I, ⟨la, lb, R⟩, hL, hT, hK, hE⟩ := S
  have hA := hE la lb R.2.2.1 R.2.2.2.1
  have zR := R.2.2.2.2.1.1
  have zR2 := R.2.2.2.2.2.1
  have after : ∀ (T : List mv_T) (m1 : Nat → Nat → Int32) (n1 : Nat → Nat → Int64) (r1 : Nat → Value) (kc ks : Nat) (w : Int32), ST0 T r1 m1 kc ks → (((w.toInt = 1 ∧ (m 0 7).toInt ≤ (sv xs i 1).toInt ∧ (sv xs i 1).toInt ≤ 999 ∧ (m1 0 7).toInt = (sv xs i 1).toInt) ∨ (w.toInt = 0 ∧ ((sv xs i 1).toInt < (m 0 7).toInt ∨ 999 < (sv xs i 1).toInt) ∧ (m1 0 7).toInt = (m 0 7).toInt)) ∧ fr (wl [(0, 0, some 7)]) m m1 ∧ r1 = r) → PV (some (b, LL, xs)) g mL_law (fun r _ => r = some (.int 1)) 30 kc ks 173 [.retAddr (b + 1), .ref 0, .ref 123, .int i] [.int w] (mk T m1 n1 r1) := by
    intro T m1 n1 r1 kc ks w S1 hf
    obtain ⟨I1, ⟨la1, lb1, R1⟩, hL1, hT, hK1⟩ := S1
    have hr := hf.2.2
    subst hr
    refine pv_pop (M := mL_law) dL_law_173 174 rfl rfl ?_
    refine pv_aload_n (M := mL_law) 2 dL_law_174 175 rfl rfl rfl ?_
    refine pv_aloadS_n (M := mL_law) 0 dL_law_175 176 rfl rfl rfl ?_
    refine pv_iload_n (M := mL_law) 3 dL_law_176 177 rfl rfl rfl ?_
    refine pv_iconst (M := mL_law) (v := 1) dL_law_177 178 rfl (by decide) ?_
    refine iv_iadd (M := mL_law) (X := i.toInt) (Y := 1) dL_law_178 179 rfl rfl (by decide) (by omega) (by omega) (fun u1 eu1 => ?_)
    refine pv_sld (M := mL_law) dL_law_179 (iv_in (X := i.toInt + 1) eu1 (by omega) (by omega)) (sv_eq (k := 1) eu1) 180 rfl ?_
    refine pv_callv (M := mL_law) (as := [.int (sv xs i 1)]) (st := []) (kc2 := kc) (ks2 := ks) dL_law_180 wd1366 YX12_day ⟨wd1367, wd1368⟩ (mk_get (tl123 hT)) rfl rfl (s_X12_day_vx g hT I1 (sv xs i 1)) rfl rfl (Nat.le_of_ble_eq_true rfl) (by decide) (Nat.zero_add _) (Nat.zero_add _) 183 rfl (fun rv h1 q => ?_)
    obtain ⟨m2, n2, v, rfl, rfl, I2, K2, _, _, P2⟩ := q
    have hL2 : LX m2 := LX_eq hL1 (K2 123 20 rfl) (fun j => K2 136 j rfl) (fun j => K2 138 j rfl) (fun j => K2 139 j rfl) (fun j => K2 140 j rfl)
    have Z := (let Z := day_EQ hA.1.1 hf.1 P2 (hf.2.1 123 1 rfl) (K2 0 7 rfl) ((K2 0 2 rfl).trans (hf.2.1 0 2 rfl)) ((K2 123 0 rfl).trans (hf.2.1 123 0 rfl)) ((K2 1 1 rfl).trans (hf.2.1 1 1 rfl)) ((K2 123 11 rfl).trans (hf.2.1 123 11 rfl)) (fun j => (K2 2 j rfl).trans (hf.2.1 2 j rfl)) (fun j => (K2 129 j rfl).trans (hf.2.1 129 j rfl)); And.intro Z.1 (EQW_k I hA.1 Z.2 (fun a j h => (K2 a j (wl_isW (by decide) h)).trans (hf.2.1 a j (wl_isW (by decide) h))) (fun j => (K2 124 j rfl).trans (hf.2.1 124 j rfl)) (fun j => (K2 125 j rfl).trans (hf.2.1 125 j rfl)) (fun j => (K2 126 j rfl).trans (hf.2.1 126 j rfl)) (fun j => (K2 127 j rfl).trans (hf.2.1 127 j rfl)) ((K2 123 4 rfl).trans (hf.2.1 123 4 rfl)) ((K2 0 2 rfl).trans (hf.2.1 0 2 rfl))))
    have Y := EA_isR I zR hA Z.2 (fun a i q => (K2 a i (wl_nR (by decide) q)).trans (hf.2.1 a i (wl_nR (by decide) q)))
    show PV _ _ _ _ _ _ _ 183 [.retAddr (b + 1), .ref 0, .ref 123, .int i] [.int v] _
    refine pv_pop (M := mL_law) dL_law_183 184 rfl rfl ?_
    refine pv_goto (M := mL_law) (tgt := 1191) dL_law_184 (by decide) ?_
    exact kk _ _ _ _ _ _ ⟨I2, ⟨la1, lb1, R1⟩, hL2, hT, hK1, EQ_of R Y⟩
  refine pv_aload_n (M := mL_law) 1 dL_law_164 165 rfl rfl rfl ?_
  refine pv_aloadS_n (M := mL_law) 0 dL_law_165 166 rfl rfl rfl ?_
  refine pv_iload_n (M := mL_law) 3 dL_law_166 167 rfl rfl rfl ?_
  refine pv_iconst (M := mL_law) (v := 1) dL_law_167 168 rfl (by decide) ?_
  refine iv_iadd (M := mL_law) (X := i.toInt) (Y := 1) dL_law_168 169 rfl rfl (by decide) (by omega) (by omega) (fun a1 ea1 => ?_)
  refine pv_sld (M := mL_law) dL_law_169 (iv_in (X := i.toInt + 1) ea1 (by omega) (by omega)) (sv_eq (k := 1) ea1) 170 rfl ?_
  refine pv_callv (M := mL_law) (as := [.int (sv xs i 1)]) (st := []) (kc2 := kc) (ks2 := ks) dL_law_170 wd459 YX11_day ⟨wd460, wd461⟩ (mk_get (tl0 hT)) rfl rfl (s_X11_day_vx g hT I R (sv xs i 1)) rfl rfl (Nat.le_of_ble_eq_true rfl) (by decide) (Nat.zero_add _) (Nat.zero_add _) 173 rfl (fun rv h1 q => ?_)
  obtain ⟨m2, n2, v, rfl, rfl, I2, K2, _, _, P2⟩ := q
  exact after _ _ _ _ _ _ _ ⟨I2, ⟨la, lb, R⟩, (LX_eq hL (K2 123 20 rfl) (fun j => K2 136 j rfl) (fun j => K2 138 j rfl) (fun j => K2 139 j rfl) (fun j => K2 140 j rfl)), hT, hK⟩ ⟨P2, K2, rfl⟩

set_option maxHeartbeats 4000000 in
set_option maxRecDepth 20000 in
theorem lx_c1 (g : pv_G) {b LL : Nat} {xs : Nat → Int32} {i : Int32} (hLL : LL ≤ 3072) (hi0 : 0 ≤ i.toInt) (hi6 : i.toInt + 6 ≤ LL) {T : List mv_T} {m : Nat → Nat → Int32} {n : Nat → Nat → Int64} {r : Nat → Value} {kc ks : Nat} (S : ST T r m kc ks) (kk : ∀ (T : List mv_T) (m : Nat → Nat → Int32) (n : Nat → Nat → Int64) (r : Nat → Value) (kc ks : Nat), ST T r m kc ks → PV (some (b, LL, xs)) g mL_law (fun r _ => r = some (.int 1)) 30 kc ks 1191 [.retAddr (b + 1), .ref 0, .ref 123, .int i] [] (mk T m n r)) : PV (some (b, LL, xs)) g mL_law (fun r _ => r = some (.int 1)) 30 kc ks 187 [.retAddr (b + 1), .ref 0, .ref 123, .int i] [] (mk T m n r) := by
  obtain ⟨I, ⟨la, lb, R⟩, hL, hT, hK, hE⟩ := S
  have hA := hE la lb R.2.2.1 R.2.2.2.1
  have zR := R.2.2.2.2.1.1
  have zR2 := R.2.2.2.2.2.1
  have after : ∀ (T : List mv_T) (m1 : Nat → Nat → Int32) (n1 : Nat → Nat → Int64) (r1 : Nat → Value) (kc ks : Nat) (w : Int32), ST0 T r1 m1 kc ks → ((FDK 2 1 1 id [(sv xs i 1), (sv xs i 2), (sv xs i 3), (sv xs i 4), (sv xs i 5)] m m1 w.toInt) ∧ fr (wl [(1, 1, some 1), (2, 2, none)]) m m1 ∧ r1 = r) → PV (some (b, LL, xs)) g mL_law (fun r _ => r = some (.int 1)) 30 kc ks 216 [.retAddr (b + 1), .ref 0, .ref 123, .int i] [.int w] (mk T m1 n1 r1) := by
    intro T m1 n1 r1 kc ks w S1 hf
    obtain ⟨I1, ⟨la1, lb1, R1⟩, hL1, hT, hK1⟩ := S1
    have hr := hf.2.2
    subst hr
    refine pv_pop (M := mL_law) dL_law_216 217 rfl rfl ?_
    refine pv_aload_n (M := mL_law) 2 dL_law_217 218 rfl rfl rfl ?_
    refine pv_aloadS_n (M := mL_law) 0 dL_law_218 219 rfl rfl rfl ?_
    refine pv_iload_n (M := mL_law) 3 dL_law_219 220 rfl rfl rfl ?_
    refine pv_iconst (M := mL_law) (v := 1) dL_law_220 221 rfl (by decide) ?_
    refine iv_iadd (M := mL_law) (X := i.toInt) (Y := 1) dL_law_221 222 rfl rfl (by decide) (by omega) (by omega) (fun u1 eu1 => ?_)
    refine pv_sld (M := mL_law) dL_law_222 (iv_in (X := i.toInt + 1) eu1 (by omega) (by omega)) (sv_eq (k := 1) eu1) 223 rfl ?_
    refine pv_aloadS_n (M := mL_law) 0 dL_law_223 224 rfl rfl rfl ?_
    refine pv_iload_n (M := mL_law) 3 dL_law_224 225 rfl rfl rfl ?_
    refine pv_iconst (M := mL_law) (v := 2) dL_law_225 226 rfl (by decide) ?_
    refine iv_iadd (M := mL_law) (X := i.toInt) (Y := 2) dL_law_226 227 rfl rfl (by decide) (by omega) (by omega) (fun u2 eu2 => ?_)
    refine pv_sld (M := mL_law) dL_law_227 (iv_in (X := i.toInt + 2) eu2 (by omega) (by omega)) (sv_eq (k := 2) eu2) 228 rfl ?_
    refine pv_aloadS_n (M := mL_law) 0 dL_law_228 229 rfl rfl rfl ?_
    refine pv_iload_n (M := mL_law) 3 dL_law_229 230 rfl rfl rfl ?_
    refine pv_iconst (M := mL_law) (v := 3) dL_law_230 231 rfl (by decide) ?_
    refine iv_iadd (M := mL_law) (X := i.toInt) (Y := 3) dL_law_231 232 rfl rfl (by decide) (by omega) (by omega) (fun u3 eu3 => ?_)
    refine pv_sld (M := mL_law) dL_law_232 (iv_in (X := i.toInt + 3) eu3 (by omega) (by omega)) (sv_eq (k := 3) eu3) 233 rfl ?_
    refine pv_aloadS_n (M := mL_law) 0 dL_law_233 234 rfl rfl rfl ?_
    refine pv_iload_n (M := mL_law) 3 dL_law_234 235 rfl rfl rfl ?_
    refine pv_iconst (M := mL_law) (v := 4) dL_law_235 236 rfl (by decide) ?_
    refine iv_iadd (M := mL_law) (X := i.toInt) (Y := 4) dL_law_236 237 rfl rfl (by decide) (by omega) (by omega) (fun u4 eu4 => ?_)
    refine pv_sld (M := mL_law) dL_law_237 (iv_in (X := i.toInt + 4) eu4 (by omega) (by omega)) (sv_eq (k := 4) eu4) 238 rfl ?_
    refine pv_aloadS_n (M := mL_law) 0 dL_law_238 239 rfl rfl rfl ?_
    refine pv_iload_n (M := mL_law) 3 dL_law_239 240 rfl rfl rfl ?_
    refine pv_iconst (M := mL_law) (v := 5) dL_law_240 241 rfl (by decide) ?_
    refine iv_iadd (M := mL_law) (X := i.toInt) (Y := 5) dL_law_241 242 rfl rfl (by decide) (by omega) (by omega) (fun u5 eu5 => ?_)
    refine pv_sld (M := mL_law) dL_law_242 (iv_in (X := i.toInt + 5) eu5 (by omega) (by omega)) (sv_eq (k := 5) eu5) 243 rfl ?_
    refine pv_callv (M := mL_law) (as := [.int (sv xs i 1), .int (sv xs i 2), .int (sv xs i 3), .int (sv xs i 4), .int (sv xs i 5)]) (st := []) (kc2 := kc) (ks2 := ks) dL_law_243 wd1401 YX12_feed ⟨wd1402, wd1403⟩ (mk_get (tl123 hT)) rfl rfl (s_X12_feed_vx g hT I1 (sv xs i 1) (sv xs i 2) (sv xs i 3) (sv xs i 4) (sv xs i 5)) rfl rfl (Nat.le_of_ble_eq_true rfl) (by decide) (Nat.zero_add _) (Nat.zero_add _) 246 rfl (fun rv h1 q => ?_)
    obtain ⟨m2, n2, v, rfl, rfl, I2, K2, _, _, P2⟩ := q
    have hL2 : LX m2 := LX_eq hL1 (K2 123 20 rfl) (fun j => K2 136 j rfl) (fun j => K2 138 j rfl) (fun j => K2 139 j rfl) (fun j => K2 140 j rfl)
    have Z := (let Z := FDK_EQ (I 1 1).1 hA.1.1 hf.1 P2 ((K2 0 7 rfl).trans (hf.2.1 0 7 rfl)) ((K2 123 1 rfl).trans (hf.2.1 123 1 rfl)) ((K2 0 2 rfl).trans (hf.2.1 0 2 rfl)) ((K2 123 0 rfl).trans (hf.2.1 123 0 rfl)) (hf.2.1 123 11 rfl) (fun j => hf.2.1 129 j rfl) (K2 1 1 rfl) (fun j => K2 2 j rfl); And.intro Z.1 (EQW_k I hA.1 Z.2 (fun a j h => (K2 a j (wl_isW (by decide) h)).trans (hf.2.1 a j (wl_isW (by decide) h))) (fun j => (K2 124 j rfl).trans (hf.2.1 124 j rfl)) (fun j => (K2 125 j rfl).trans (hf.2.1 125 j rfl)) (fun j => (K2 126 j rfl).trans (hf.2.1 126 j rfl)) (fun j => (K2 127 j rfl).trans (hf.2.1 127 j rfl)) ((K2 123 4 rfl).trans (hf.2.1 123 4 rfl)) ((K2 0 2 rfl).trans (hf.2.1 0 2 rfl))))
    have Y := EA_isR I zR hA Z.2 (fun a i q => (K2 a i (wl_nR (by decide) q)).trans (hf.2.1 a i (wl_nR (by decide) q)))
    show PV _ _ _ _ _ _ _ 246 [.retAddr (b + 1), .ref 0, .ref 123, .int i] [.int v] _
    refine pv_pop (M := mL_law) dL_law_246 247 rfl rfl ?_
    refine pv_goto (M := mL_law) (tgt := 1191) dL_law_247 (by decide) ?_
    exact kk _ _ _ _ _ _ ⟨I2, ⟨la1, lb1, R1⟩, hL2, hT, hK1, EQ_of R Y⟩
  refine pv_aload_n (M := mL_law) 1 dL_law_187 188 rfl rfl rfl ?_
  refine pv_aloadS_n (M := mL_law) 0 dL_law_188 189 rfl rfl rfl ?_
  refine pv_iload_n (M := mL_law) 3 dL_law_189 190 rfl rfl rfl ?_
  refine pv_iconst (M := mL_law) (v := 1) dL_law_190 191 rfl (by decide) ?_
  refine iv_iadd (M := mL_law) (X := i.toInt) (Y := 1) dL_law_191 192 rfl rfl (by decide) (by omega) (by omega) (fun a1 ea1 => ?_)
  refine pv_sld (M := mL_law) dL_law_192 (iv_in (X := i.toInt + 1) ea1 (by omega) (by omega)) (sv_eq (k := 1) ea1) 193 rfl ?_
  refine pv_aloadS_n (M := mL_law) 0 dL_law_193 194 rfl rfl rfl ?_
  refine pv_iload_n (M := mL_law) 3 dL_law_194 195 rfl rfl rfl ?_
  refine pv_iconst (M := mL_law) (v := 2) dL_law_195 196 rfl (by decide) ?_
  refine iv_iadd (M := mL_law) (X := i.toInt) (Y := 2) dL_law_196 197 rfl rfl (by decide) (by omega) (by omega) (fun a2 ea2 => ?_)
  refine pv_sld (M := mL_law) dL_law_197 (iv_in (X := i.toInt + 2) ea2 (by omega) (by omega)) (sv_eq (k := 2) ea2) 198 rfl ?_
  refine pv_aloadS_n (M := mL_law) 0 dL_law_198 199 rfl rfl rfl ?_
  refine pv_iload_n (M := mL_law) 3 dL_law_199 200 rfl rfl rfl ?_
  refine pv_iconst (M := mL_law) (v := 3) dL_law_200 201 rfl (by decide) ?_
  refine iv_iadd (M := mL_law) (X := i.toInt) (Y := 3) dL_law_201 202 rfl rfl (by decide) (by omega) (by omega) (fun a3 ea3 => ?_)
  refine pv_sld (M := mL_law) dL_law_202 (iv_in (X := i.toInt + 3) ea3 (by omega) (by omega)) (sv_eq (k := 3) ea3) 203 rfl ?_
  refine pv_aloadS_n (M := mL_law) 0 dL_law_203 204 rfl rfl rfl ?_
  refine pv_iload_n (M := mL_law) 3 dL_law_204 205 rfl rfl rfl ?_
  refine pv_iconst (M := mL_law) (v := 4) dL_law_205 206 rfl (by decide) ?_
  refine iv_iadd (M := mL_law) (X := i.toInt) (Y := 4) dL_law_206 207 rfl rfl (by decide) (by omega) (by omega) (fun a4 ea4 => ?_)
  refine pv_sld (M := mL_law) dL_law_207 (iv_in (X := i.toInt + 4) ea4 (by omega) (by omega)) (sv_eq (k := 4) ea4) 208 rfl ?_
  refine pv_aloadS_n (M := mL_law) 0 dL_law_208 209 rfl rfl rfl ?_
  refine pv_iload_n (M := mL_law) 3 dL_law_209 210 rfl rfl rfl ?_
  refine pv_iconst (M := mL_law) (v := 5) dL_law_210 211 rfl (by decide) ?_
  refine iv_iadd (M := mL_law) (X := i.toInt) (Y := 5) dL_law_211 212 rfl rfl (by decide) (by omega) (by omega) (fun a5 ea5 => ?_)
  refine pv_sld (M := mL_law) dL_law_212 (iv_in (X := i.toInt + 5) ea5 (by omega) (by omega)) (sv_eq (k := 5) ea5) 213 rfl ?_
  refine pv_callv (M := mL_law) (as := [.int (sv xs i 1), .int (sv xs i 2), .int (sv xs i 3), .int (sv xs i 4), .int (sv xs i 5)]) (st := []) (kc2 := kc) (ks2 := ks) dL_law_213 wd463 YX11_feed ⟨wd464, wd465⟩ (mk_get (tl0 hT)) rfl rfl (s_X11_feed_vx g hT I R (sv xs i 1) (sv xs i 2) (sv xs i 3) (sv xs i 4) (sv xs i 5)) rfl rfl (Nat.le_of_ble_eq_true rfl) (by decide) (Nat.zero_add _) (Nat.zero_add _) 216 rfl (fun rv h1 q => ?_)
  obtain ⟨m2, n2, v, rfl, rfl, I2, K2, _, _, P2⟩ := q
  exact after _ _ _ _ _ _ _ ⟨I2, ⟨la, lb, R⟩, (LX_eq hL (K2 123 20 rfl) (fun j => K2 136 j rfl) (fun j => K2 138 j rfl) (fun j => K2 139 j rfl) (fun j => K2 140 j rfl)), hT, hK⟩ ⟨P2, K2, rfl⟩

set_option maxHeartbeats 4000000 in
set_option maxRecDepth 20000 in
theorem lx_c2 (g : pv_G) {b LL : Nat} {xs : Nat → Int32} {i : Int32} (hLL : LL ≤ 3072) (hi0 : 0 ≤ i.toInt) (hi6 : i.toInt + 6 ≤ LL) {T : List mv_T} {m : Nat → Nat → Int32} {n : Nat → Nat → Int64} {r : Nat → Value} {kc ks : Nat} (S : ST T r m kc ks) (kk : ∀ (T : List mv_T) (m : Nat → Nat → Int32) (n : Nat → Nat → Int64) (r : Nat → Value) (kc ks : Nat), ST T r m kc ks → PV (some (b, LL, xs)) g mL_law (fun r _ => r = some (.int 1)) 30 kc ks 1191 [.retAddr (b + 1), .ref 0, .ref 123, .int i] [] (mk T m n r)) : PV (some (b, LL, xs)) g mL_law (fun r _ => r = some (.int 1)) 30 kc ks 250 [.retAddr (b + 1), .ref 0, .ref 123, .int i] [] (mk T m n r) := by
  obtain ⟨I, ⟨la, lb, R⟩, hL, hT, hK, hE⟩ := S
  have hA := hE la lb R.2.2.1 R.2.2.2.1
  have zR := R.2.2.2.2.1.1
  have zR2 := R.2.2.2.2.2.1
  have after : ∀ (T : List mv_T) (m1 : Nat → Nat → Int32) (n1 : Nat → Nat → Int64) (r1 : Nat → Value) (kc ks : Nat) (w : Int32), ST0 T r1 m1 kc ks → ((BLK (sv xs i 1).toInt (m 0 2).toInt (m 1 1).toInt (LET 2 m (sv xs i 1).toInt) w.toInt (m1 0 2).toInt (m1 1 1).toInt ∧ BLWc m m1 (sv xs i 1).toInt ∧ ((m1 0 2).toInt = (m 0 2).toInt + 1 → RST m1 (4 + 7 * (m 0 2).toInt.toNat)) ∧ (∀ a iq, 5 ≤ a → a ≤ 59 → ((m1 0 2).toInt = (m 0 2).toInt ∨ a < 4 + 7 * (m 0 2).toInt.toNat ∨ 4 + 7 * (m 0 2).toInt.toNat + 6 < a) → m1 a iq = m a iq)) ∧ fr wPb m m1 ∧ r1 = r) → PV (some (b, LL, xs)) g mL_law (fun r _ => r = some (.int 1)) 30 kc ks 259 [.retAddr (b + 1), .ref 0, .ref 123, .int i] [.int w] (mk T m1 n1 r1) := by
    intro T m1 n1 r1 kc ks w S1 hf
    obtain ⟨I1, ⟨la1, lb1, R1⟩, hL1, hT, hK1⟩ := S1
    have hr := hf.2.2
    subst hr
    refine pv_pop (M := mL_law) dL_law_259 260 rfl rfl ?_
    refine pv_aload_n (M := mL_law) 2 dL_law_260 261 rfl rfl rfl ?_
    refine pv_aloadS_n (M := mL_law) 0 dL_law_261 262 rfl rfl rfl ?_
    refine pv_iload_n (M := mL_law) 3 dL_law_262 263 rfl rfl rfl ?_
    refine pv_iconst (M := mL_law) (v := 1) dL_law_263 264 rfl (by decide) ?_
    refine iv_iadd (M := mL_law) (X := i.toInt) (Y := 1) dL_law_264 265 rfl rfl (by decide) (by omega) (by omega) (fun u1 eu1 => ?_)
    refine pv_sld (M := mL_law) dL_law_265 (iv_in (X := i.toInt + 1) eu1 (by omega) (by omega)) (sv_eq (k := 1) eu1) 266 rfl ?_
    refine pv_callv (M := mL_law) (as := [.int (sv xs i 1)]) (st := []) (kc2 := kc) (ks2 := ks) dL_law_266 wd1373 YX12_blank ⟨wd1374, wd1375⟩ (mk_get (tl123 hT)) rfl rfl (s_X12_blank_vy g hT I1 (sv xs i 1)) rfl rfl (Nat.le_of_ble_eq_true rfl) (by decide) (Nat.zero_add _) (Nat.zero_add _) 269 rfl (fun rv h1 q => ?_)
    obtain ⟨m2, n2, v, rfl, rfl, I2, K2, _, _, P2⟩ := q
    have hL2 : LX m2 := LX_eq hL1 (K2 123 20 rfl) (fun j => K2 136 j rfl) (fun j => K2 138 j rfl) (fun j => K2 139 j rfl) (fun j => K2 140 j rfl)
    have Z := (let Z := blank_EQ I hA.1.1 hf.1.1 P2.1 (hf.2.1 123 0 rfl) (hf.2.1 123 11 rfl) (fun j => hf.2.1 129 j rfl) ((K2 0 7 rfl).trans (hf.2.1 0 7 rfl)) ((K2 123 1 rfl).trans (hf.2.1 123 1 rfl)) (K2 0 2 rfl) (K2 1 1 rfl) (fun j => (K2 2 j rfl).trans (hf.2.1 2 j rfl)) (fun j => (K2 129 j rfl).trans (hf.2.1 129 j rfl)); And.intro Z.1 (blank_EW I hA.1 Z.2 hf.1.1 hf.1.2.1 P2.2 (hf.2.1 123 0 rfl) (fun j => hf.2.1 124 j rfl) (fun j => hf.2.1 125 j rfl) (fun j => hf.2.1 126 j rfl) (fun j => hf.2.1 127 j rfl) (hf.2.1 123 4 rfl) (fun j => hf.2.1 129 j rfl) (K2 0 2 rfl) (fun a j h => K2 a j (wl_isW (by decide) h)) (fun j => K2 126 j rfl) (fun j => K2 127 j rfl) (K2 123 4 rfl)))
    have Y := blank_EA I zR hA Z.2 hf.1.1 hf.1.2.2.1 hf.1.2.2.2 hf.2.1 (fun a i q1 q2 q3 q4 => K2 a i (wl_blk q1 q2 q3 q4))
    show PV _ _ _ _ _ _ _ 269 [.retAddr (b + 1), .ref 0, .ref 123, .int i] [.int v] _
    refine pv_pop (M := mL_law) dL_law_269 270 rfl rfl ?_
    refine pv_goto (M := mL_law) (tgt := 1191) dL_law_270 (by decide) ?_
    exact kk _ _ _ _ _ _ ⟨I2, ⟨la1, lb1, R1⟩, hL2, hT, hK1, EQ_of R Y⟩
  refine pv_aload_n (M := mL_law) 1 dL_law_250 251 rfl rfl rfl ?_
  refine pv_aloadS_n (M := mL_law) 0 dL_law_251 252 rfl rfl rfl ?_
  refine pv_iload_n (M := mL_law) 3 dL_law_252 253 rfl rfl rfl ?_
  refine pv_iconst (M := mL_law) (v := 1) dL_law_253 254 rfl (by decide) ?_
  refine iv_iadd (M := mL_law) (X := i.toInt) (Y := 1) dL_law_254 255 rfl rfl (by decide) (by omega) (by omega) (fun a1 ea1 => ?_)
  refine pv_sld (M := mL_law) dL_law_255 (iv_in (X := i.toInt + 1) ea1 (by omega) (by omega)) (sv_eq (k := 1) ea1) 256 rfl ?_
  refine pv_callv (M := mL_law) (as := [.int (sv xs i 1)]) (st := []) (kc2 := kc) (ks2 := ks) dL_law_256 wd475 YX11_blank ⟨wd476, wd477⟩ (mk_get (tl0 hT)) rfl rfl (s_X11_blank_va g hT I R (sv xs i 1)) rfl rfl (Nat.le_of_ble_eq_true rfl) (by decide) (Nat.zero_add _) (Nat.zero_add _) 259 rfl (fun rv h1 q => ?_)
  obtain ⟨m2, n2, v, rfl, rfl, I2, K2, _, _, P2⟩ := q
  exact after _ _ _ _ _ _ _ ⟨I2, ⟨la, lb, R⟩, (LX_eq hL (K2 123 20 rfl) (fun j => K2 136 j rfl) (fun j => K2 138 j rfl) (fun j => K2 139 j rfl) (fun j => K2 140 j rfl)), hT, hK⟩ ⟨P2, K2, rfl⟩

set_option maxHeartbeats 4000000 in
set_option maxRecDepth 20000 in
theorem lx_c3 (g : pv_G) {b LL : Nat} {xs : Nat → Int32} {i : Int32} (hLL : LL ≤ 3072) (hi0 : 0 ≤ i.toInt) (hi6 : i.toInt + 6 ≤ LL) {T : List mv_T} {m : Nat → Nat → Int32} {n : Nat → Nat → Int64} {r : Nat → Value} {kc ks : Nat} (S : ST T r m kc ks) (kk : ∀ (T : List mv_T) (m : Nat → Nat → Int32) (n : Nat → Nat → Int64) (r : Nat → Value) (kc ks : Nat), ST T r m kc ks → PV (some (b, LL, xs)) g mL_law (fun r _ => r = some (.int 1)) 30 kc ks 1191 [.retAddr (b + 1), .ref 0, .ref 123, .int i] [] (mk T m n r)) : PV (some (b, LL, xs)) g mL_law (fun r _ => r = some (.int 1)) 30 kc ks 273 [.retAddr (b + 1), .ref 0, .ref 123, .int i] [] (mk T m n r) := by
  obtain ⟨I, ⟨la, lb, R⟩, hL, hT, hK, hE⟩ := S
  have hA := hE la lb R.2.2.1 R.2.2.2.1
  have zR := R.2.2.2.2.1.1
  have zR2 := R.2.2.2.2.2.1
  have after : ∀ (T : List mv_T) (m1 : Nat → Nat → Int32) (n1 : Nat → Nat → Int64) (r1 : Nat → Value) (kc ks : Nat) (w : Int32), ST0 T r1 m1 kc ks → ((DDK (sv xs i 1).toInt (sv xs i 2).toInt (m 1 1).toInt (LET 2 m (sv xs i 2).toInt) w.toInt (m1 1 1).toInt ∧ DDWc m m1 (sv xs i 1).toInt (sv xs i 2).toInt w.toInt) ∧ fr wPd m m1 ∧ r1 = r) → PV (some (b, LL, xs)) g mL_law (fun r _ => r = some (.int 1)) 30 kc ks 287 [.retAddr (b + 1), .ref 0, .ref 123, .int i] [.int w] (mk T m1 n1 r1) := by
    intro T m1 n1 r1 kc ks w S1 hf
    obtain ⟨I1, ⟨la1, lb1, R1⟩, hL1, hT, hK1⟩ := S1
    have hr := hf.2.2
    subst hr
    refine pv_pop (M := mL_law) dL_law_287 288 rfl rfl ?_
    refine pv_aload_n (M := mL_law) 2 dL_law_288 289 rfl rfl rfl ?_
    refine pv_aloadS_n (M := mL_law) 0 dL_law_289 290 rfl rfl rfl ?_
    refine pv_iload_n (M := mL_law) 3 dL_law_290 291 rfl rfl rfl ?_
    refine pv_iconst (M := mL_law) (v := 1) dL_law_291 292 rfl (by decide) ?_
    refine iv_iadd (M := mL_law) (X := i.toInt) (Y := 1) dL_law_292 293 rfl rfl (by decide) (by omega) (by omega) (fun u1 eu1 => ?_)
    refine pv_sld (M := mL_law) dL_law_293 (iv_in (X := i.toInt + 1) eu1 (by omega) (by omega)) (sv_eq (k := 1) eu1) 294 rfl ?_
    refine pv_aloadS_n (M := mL_law) 0 dL_law_294 295 rfl rfl rfl ?_
    refine pv_iload_n (M := mL_law) 3 dL_law_295 296 rfl rfl rfl ?_
    refine pv_iconst (M := mL_law) (v := 2) dL_law_296 297 rfl (by decide) ?_
    refine iv_iadd (M := mL_law) (X := i.toInt) (Y := 2) dL_law_297 298 rfl rfl (by decide) (by omega) (by omega) (fun u2 eu2 => ?_)
    refine pv_sld (M := mL_law) dL_law_298 (iv_in (X := i.toInt + 2) eu2 (by omega) (by omega)) (sv_eq (k := 2) eu2) 299 rfl ?_
    refine pv_callv (M := mL_law) (as := [.int (sv xs i 1), .int (sv xs i 2)]) (st := []) (kc2 := kc) (ks2 := ks) dL_law_299 wd1381 YX12_deed ⟨wd1382, wd1383⟩ (mk_get (tl123 hT)) rfl rfl (s_X12_deed_vy g hT I1 (sv xs i 1) (sv xs i 2)) rfl rfl (Nat.le_of_ble_eq_true rfl) (by decide) (Nat.zero_add _) (Nat.zero_add _) 302 rfl (fun rv h1 q => ?_)
    obtain ⟨m2, n2, v, rfl, rfl, I2, K2, _, _, P2⟩ := q
    have hL2 : LX m2 := LX_eq hL1 (K2 123 20 rfl) (fun j => K2 136 j rfl) (fun j => K2 138 j rfl) (fun j => K2 139 j rfl) (fun j => K2 140 j rfl)
    have Z := (let Z := deed_EQ I hA.1.1 hf.1.1 P2.1 (hf.2.1 123 11 rfl) (fun j => hf.2.1 129 j rfl) ((K2 0 7 rfl).trans (hf.2.1 0 7 rfl)) ((K2 123 1 rfl).trans (hf.2.1 123 1 rfl)) ((K2 0 2 rfl).trans (hf.2.1 0 2 rfl)) ((K2 123 0 rfl).trans (hf.2.1 123 0 rfl)) (K2 1 1 rfl) (fun j => (K2 2 j rfl).trans (hf.2.1 2 j rfl)) (fun j => (K2 129 j rfl).trans (hf.2.1 129 j rfl)); And.intro Z.1 (deed_EW I hA.1 Z.2 hf.1.1 hf.1.2 (by rw [← Z.1]; exact P2.2) (hf.2.1 0 2 rfl) (fun j => hf.2.1 124 j rfl) (fun j => hf.2.1 125 j rfl) (fun j => hf.2.1 126 j rfl) (fun j => hf.2.1 127 j rfl) (hf.2.1 123 4 rfl) (fun j => hf.2.1 129 j rfl) (K2 0 2 rfl) (fun a j h => K2 a j (wl_isW (by decide) h)) (fun j => K2 124 j rfl) (fun j => K2 125 j rfl)))
    have Y := EA_isR I zR hA Z.2 (fun a i q => (K2 a i (wl_nR (by decide) q)).trans (hf.2.1 a i (wPd_isR q)))
    show PV _ _ _ _ _ _ _ 302 [.retAddr (b + 1), .ref 0, .ref 123, .int i] [.int v] _
    refine pv_pop (M := mL_law) dL_law_302 303 rfl rfl ?_
    refine pv_goto (M := mL_law) (tgt := 1191) dL_law_303 (by decide) ?_
    exact kk _ _ _ _ _ _ ⟨I2, ⟨la1, lb1, R1⟩, hL2, hT, hK1, EQ_of R Y⟩
  refine pv_aload_n (M := mL_law) 1 dL_law_273 274 rfl rfl rfl ?_
  refine pv_aloadS_n (M := mL_law) 0 dL_law_274 275 rfl rfl rfl ?_
  refine pv_iload_n (M := mL_law) 3 dL_law_275 276 rfl rfl rfl ?_
  refine pv_iconst (M := mL_law) (v := 1) dL_law_276 277 rfl (by decide) ?_
  refine iv_iadd (M := mL_law) (X := i.toInt) (Y := 1) dL_law_277 278 rfl rfl (by decide) (by omega) (by omega) (fun a1 ea1 => ?_)
  refine pv_sld (M := mL_law) dL_law_278 (iv_in (X := i.toInt + 1) ea1 (by omega) (by omega)) (sv_eq (k := 1) ea1) 279 rfl ?_
  refine pv_aloadS_n (M := mL_law) 0 dL_law_279 280 rfl rfl rfl ?_
  refine pv_iload_n (M := mL_law) 3 dL_law_280 281 rfl rfl rfl ?_
  refine pv_iconst (M := mL_law) (v := 2) dL_law_281 282 rfl (by decide) ?_
  refine iv_iadd (M := mL_law) (X := i.toInt) (Y := 2) dL_law_282 283 rfl rfl (by decide) (by omega) (by omega) (fun a2 ea2 => ?_)
  refine pv_sld (M := mL_law) dL_law_283 (iv_in (X := i.toInt + 2) ea2 (by omega) (by omega)) (sv_eq (k := 2) ea2) 284 rfl ?_
  rcases hK with hK | hK
  · refine pv_callv (M := mL_law) (as := [.int (sv xs i 1), .int (sv xs i 2)]) (st := []) (kc2 := kc) (ks2 := ks) dL_law_284 wd496 YX11_deed ⟨wd497, wd498⟩ (mk_get (tl0 hT)) rfl rfl (s_X11_deed_v0y g hT I R hK.2.1 (sv xs i 1) (sv xs i 2)) rfl rfl (Nat.le_of_ble_eq_true rfl) (by decide) (Nat.zero_add _) (Nat.zero_add _) 287 rfl (fun rv h1 q => ?_)
    obtain ⟨m2, n2, v, rfl, rfl, I2, K2, _, _, P2⟩ := q
    exact after _ _ _ _ _ _ _ ⟨I2, ⟨la, lb, R⟩, (LX_eq hL (K2 123 20 rfl) (fun j => K2 136 j rfl) (fun j => K2 138 j rfl) (fun j => K2 139 j rfl) (fun j => K2 140 j rfl)), hT, Or.inl hK⟩ ⟨P2, K2, rfl⟩
  · refine pv_callv (M := mL_law) (as := [.int (sv xs i 1), .int (sv xs i 2)]) (st := []) (kc2 := kc) (ks2 := ks) dL_law_284 wd496 YX11_deed ⟨wd497, wd498⟩ (mk_get (tl0 hT)) rfl rfl (s_X11_deed_vcy g hT I R hK.1 hK.2.1 (sv xs i 1) (sv xs i 2)) rfl rfl (Nat.le_of_ble_eq_true rfl) (by decide) (Nat.zero_add _) (Nat.zero_add _) 287 rfl (fun rv h1 q => ?_)
    obtain ⟨m2, n2, v, rfl, rfl, I2, K2, _, _, P2⟩ := q
    exact after _ _ _ _ _ _ _ ⟨I2, ⟨la, lb, R⟩, (LX_eq hL (K2 123 20 rfl) (fun j => K2 136 j rfl) (fun j => K2 138 j rfl) (fun j => K2 139 j rfl) (fun j => K2 140 j rfl)), hT, Or.inr hK⟩ ⟨P2, K2, rfl⟩

set_option maxHeartbeats 4000000 in
set_option maxRecDepth 20000 in
theorem lx_c4 (g : pv_G) {b LL : Nat} {xs : Nat → Int32} {i : Int32} (hLL : LL ≤ 3072) (hi0 : 0 ≤ i.toInt) (hi6 : i.toInt + 6 ≤ LL) {T : List mv_T} {m : Nat → Nat → Int32} {n : Nat → Nat → Int64} {r : Nat → Value} {kc ks : Nat} (S : ST T r m kc ks) (kk : ∀ (T : List mv_T) (m : Nat → Nat → Int32) (n : Nat → Nat → Int64) (r : Nat → Value) (kc ks : Nat), ST T r m kc ks → PV (some (b, LL, xs)) g mL_law (fun r _ => r = some (.int 1)) 30 kc ks 1191 [.retAddr (b + 1), .ref 0, .ref 123, .int i] [] (mk T m n r)) : PV (some (b, LL, xs)) g mL_law (fun r _ => r = some (.int 1)) 30 kc ks 306 [.retAddr (b + 1), .ref 0, .ref 123, .int i] [] (mk T m n r) := by
  obtain ⟨I, ⟨la, lb, R⟩, hL, hT, hK, hE⟩ := S
  have hA := hE la lb R.2.2.1 R.2.2.2.1
  have zR := R.2.2.2.2.1.1
  have zR2 := R.2.2.2.2.2.1
  have after : ∀ (T : List mv_T) (m1 : Nat → Nat → Int32) (n1 : Nat → Nat → Int64) (r1 : Nat → Value) (kc ks : Nat) (w : Int32), ST0 T r1 m1 kc ks → ((LWK (sv xs i 1).toInt (m 1 1).toInt (m1 1 1).toInt ∧ LWV (sv xs i 1).toInt (m 1 1).toInt (tK (m 2) (sv xs i 1).toInt) w.toInt ∧ LWZ m m1 la lb (tK (m 2) (sv xs i 1).toInt) r r1 w.toInt) ∧ fr wPl m m1) → PV (some (b, LL, xs)) g mL_law (fun r _ => r = some (.int 1)) 30 kc ks 315 [.retAddr (b + 1), .ref 0, .ref 123, .int i] [.int w] (mk T m1 n1 r1) := by
    intro T m1 n1 r1 kc ks w S1 hf
    obtain ⟨I1, ⟨la1, lb1, R1⟩, hL1, hT, hK1⟩ := S1
    refine pv_pop (M := mL_law) dL_law_315 316 rfl rfl ?_
    refine pv_aload_n (M := mL_law) 2 dL_law_316 317 rfl rfl rfl ?_
    refine pv_aloadS_n (M := mL_law) 0 dL_law_317 318 rfl rfl rfl ?_
    refine pv_iload_n (M := mL_law) 3 dL_law_318 319 rfl rfl rfl ?_
    refine pv_iconst (M := mL_law) (v := 1) dL_law_319 320 rfl (by decide) ?_
    refine iv_iadd (M := mL_law) (X := i.toInt) (Y := 1) dL_law_320 321 rfl rfl (by decide) (by omega) (by omega) (fun u1 eu1 => ?_)
    refine pv_sld (M := mL_law) dL_law_321 (iv_in (X := i.toInt + 1) eu1 (by omega) (by omega)) (sv_eq (k := 1) eu1) 322 rfl ?_
    refine pv_callv (M := mL_law) (as := [.int (sv xs i 1)]) (st := []) (kc2 := kc) (ks2 := ks) dL_law_322 wd1409 YX12_law ⟨wd1410, wd1411⟩ (mk_get (tl123 hT)) rfl rfl (s_X12_law_vz g hT I1 (sv xs i 1) hL1) rfl rfl (Nat.le_of_ble_eq_true rfl) (by decide) (Nat.zero_add _) (Nat.zero_add _) 325 rfl (fun rv h1 q => ?_)
    obtain ⟨m2, n2, v, rfl, rfl, I2, K2, _, _, P2⟩ := q
    have hL2 : LX m2 := P2.1
    have Z0 := (let Z := law_EQ hA.1.1 hf.1.1 P2.2.1 (hf.2 123 11 rfl) ((K2 0 7 rfl).trans (hf.2 0 7 rfl)) ((K2 123 1 rfl).trans (hf.2 123 1 rfl)) ((K2 0 2 rfl).trans (hf.2 0 2 rfl)) ((K2 123 0 rfl).trans (hf.2 123 0 rfl)) (K2 1 1 rfl) (fun j => (K2 2 j rfl).trans (hf.2 2 j rfl)) (fun j => (K2 129 j rfl).trans (hf.2 129 j rfl)); EQW_k I hA.1 Z (fun a j h => (K2 a j (wl_isW (by decide) h)).trans (hf.2 a j (wPl_isW h))) (fun j => (K2 124 j rfl).trans (hf.2 124 j rfl)) (fun j => (K2 125 j rfl).trans (hf.2 125 j rfl)) (fun j => (K2 126 j rfl).trans (hf.2 126 j rfl)) (fun j => (K2 127 j rfl).trans (hf.2 127 j rfl)) ((K2 123 4 rfl).trans (hf.2 123 4 rfl)) ((K2 0 2 rfl).trans (hf.2 0 2 rfl)))
    have Z := law_EA I zR zR2 hA Z0 R.2.2.1 R.2.2.2.1 hf.1.2.1 hf.1.2.2 P2.2.2.1 P2.2.2.2 hf.2 (fun a i q => K2 a i (wl_lo (by decide) q)) (fun j => K2 128 j rfl) (K2 123 3 rfl) (K2 123 2 rfl) (fun a i q1 q2 => K2 a i (wl_br (by decide) q1 q2))
    show PV _ _ _ _ _ _ _ 325 [.retAddr (b + 1), .ref 0, .ref 123, .int i] [.int v] _
    refine pv_pop (M := mL_law) dL_law_325 326 rfl rfl ?_
    refine pv_goto (M := mL_law) (tgt := 1191) dL_law_326 (by decide) ?_
    exact kk _ _ _ _ _ _ ⟨I2, ⟨la1, lb1, R1⟩, hL2, hT, hK1, Z.2⟩
  refine pv_aload_n (M := mL_law) 1 dL_law_306 307 rfl rfl rfl ?_
  refine pv_aloadS_n (M := mL_law) 0 dL_law_307 308 rfl rfl rfl ?_
  refine pv_iload_n (M := mL_law) 3 dL_law_308 309 rfl rfl rfl ?_
  refine pv_iconst (M := mL_law) (v := 1) dL_law_309 310 rfl (by decide) ?_
  refine iv_iadd (M := mL_law) (X := i.toInt) (Y := 1) dL_law_310 311 rfl rfl (by decide) (by omega) (by omega) (fun a1 ea1 => ?_)
  refine pv_sld (M := mL_law) dL_law_311 (iv_in (X := i.toInt + 1) ea1 (by omega) (by omega)) (sv_eq (k := 1) ea1) 312 rfl ?_
  have hTK : TK T := hK.elim (fun q => Or.inl q.1) (fun q => Or.inr q.1)
  refine pv_callv (M := mL_law) (as := [.int (sv xs i 1)]) (st := []) (kc2 := kc) (ks2 := ks) dL_law_312 wd504 YX11_law ⟨wd505, wd506⟩ (mk_get (tl0 hT)) rfl rfl (s_X11_law_vz g hT I R hTK (sv xs i 1) hA.2.2.2.2.2.2.1) rfl rfl (Nat.le_of_ble_eq_true rfl) (by decide) (Nat.zero_add _) (Nat.zero_add _) 315 rfl (fun rv h1 q => ?_)
  obtain ⟨m2, n2, r2, v, rfl, rfl, I2, K2, o2, _, _, P2⟩ := q
  exact after _ _ _ _ _ _ _ ⟨I2, P2.1, (LX_eq hL (K2 123 20 rfl) (fun j => K2 136 j rfl) (fun j => K2 138 j rfl) (fun j => K2 139 j rfl) (fun j => K2 140 j rfl)), hT, hK.elim (fun q => Or.inl ⟨q.1, (o2 2 (by decide) (by decide)).trans q.2.1, q.2.2⟩) (fun q => Or.inr ⟨q.1, (o2 2 (by decide) (by decide)).trans q.2.1, q.2.2⟩)⟩ ⟨P2.2, K2⟩

set_option maxHeartbeats 4000000 in
set_option maxRecDepth 20000 in
theorem lx_c5 (g : pv_G) {b LL : Nat} {xs : Nat → Int32} {i : Int32} (hLL : LL ≤ 3072) (hi0 : 0 ≤ i.toInt) (hi6 : i.toInt + 6 ≤ LL) {T : List mv_T} {m : Nat → Nat → Int32} {n : Nat → Nat → Int64} {r : Nat → Value} {kc ks : Nat} (S : ST T r m kc ks) (kk : ∀ (T : List mv_T) (m : Nat → Nat → Int32) (n : Nat → Nat → Int64) (r : Nat → Value) (kc ks : Nat), ST T r m kc ks → PV (some (b, LL, xs)) g mL_law (fun r _ => r = some (.int 1)) 30 kc ks 1191 [.retAddr (b + 1), .ref 0, .ref 123, .int i] [] (mk T m n r)) : PV (some (b, LL, xs)) g mL_law (fun r _ => r = some (.int 1)) 30 kc ks 329 [.retAddr (b + 1), .ref 0, .ref 123, .int i] [] (mk T m n r) := by
  obtain ⟨I, ⟨la, lb, R⟩, hL, hT, hK, hE⟩ := S
  have hA := hE la lb R.2.2.1 R.2.2.2.1
  have zR := R.2.2.2.2.1.1
  have zR2 := R.2.2.2.2.2.1
  have after : ∀ (T : List mv_T) (m1 : Nat → Nat → Int32) (n1 : Nat → Nat → Int64) (r1 : Nat → Value) (kc ks : Nat) (w : Int32), ST0 T r1 m1 kc ks → ((LFT ((0 ≤ (sv xs i 1).toInt ∧ (sv xs i 1).toInt < (m 0 2).toInt) ∧ 0 ≤ (sv xs i 2).toInt ∧ (sv xs i 2).toInt < (m (4 + 7 * (sv xs i 1).toInt.toNat + 3) 1).toInt) (sv xs i 3) (m (4 + 7 * (sv xs i 1).toInt.toNat + 4) (sv xs i 2).toInt.toNat) (m (4 + 7 * (sv xs i 1).toInt.toNat + 5) (sv xs i 2).toInt.toNat) w) ∧ fr (wl []) m m1 ∧ r1 = r) → PV (some (b, LL, xs)) g mL_law (fun r _ => r = some (.int 1)) 30 kc ks 348 [.retAddr (b + 1), .ref 0, .ref 123, .int i] [.int w] (mk T m1 n1 r1) := by
    intro T m1 n1 r1 kc ks w S1 hf
    obtain ⟨I1, ⟨la1, lb1, R1⟩, hL1, hT, hK1⟩ := S1
    have hr := hf.2.2
    subst hr
    refine pv_pop (M := mL_law) dL_law_348 349 rfl rfl ?_
    refine pv_aload_n (M := mL_law) 2 dL_law_349 350 rfl rfl rfl ?_
    refine pv_aloadS_n (M := mL_law) 0 dL_law_350 351 rfl rfl rfl ?_
    refine pv_iload_n (M := mL_law) 3 dL_law_351 352 rfl rfl rfl ?_
    refine pv_iconst (M := mL_law) (v := 1) dL_law_352 353 rfl (by decide) ?_
    refine iv_iadd (M := mL_law) (X := i.toInt) (Y := 1) dL_law_353 354 rfl rfl (by decide) (by omega) (by omega) (fun u1 eu1 => ?_)
    refine pv_sld (M := mL_law) dL_law_354 (iv_in (X := i.toInt + 1) eu1 (by omega) (by omega)) (sv_eq (k := 1) eu1) 355 rfl ?_
    refine pv_aloadS_n (M := mL_law) 0 dL_law_355 356 rfl rfl rfl ?_
    refine pv_iload_n (M := mL_law) 3 dL_law_356 357 rfl rfl rfl ?_
    refine pv_iconst (M := mL_law) (v := 2) dL_law_357 358 rfl (by decide) ?_
    refine iv_iadd (M := mL_law) (X := i.toInt) (Y := 2) dL_law_358 359 rfl rfl (by decide) (by omega) (by omega) (fun u2 eu2 => ?_)
    refine pv_sld (M := mL_law) dL_law_359 (iv_in (X := i.toInt + 2) eu2 (by omega) (by omega)) (sv_eq (k := 2) eu2) 360 rfl ?_
    refine pv_aloadS_n (M := mL_law) 0 dL_law_360 361 rfl rfl rfl ?_
    refine pv_iload_n (M := mL_law) 3 dL_law_361 362 rfl rfl rfl ?_
    refine pv_iconst (M := mL_law) (v := 3) dL_law_362 363 rfl (by decide) ?_
    refine iv_iadd (M := mL_law) (X := i.toInt) (Y := 3) dL_law_363 364 rfl rfl (by decide) (by omega) (by omega) (fun u3 eu3 => ?_)
    refine pv_sld (M := mL_law) dL_law_364 (iv_in (X := i.toInt + 3) eu3 (by omega) (by omega)) (sv_eq (k := 3) eu3) 365 rfl ?_
    refine pv_callv (M := mL_law) (as := [.int (sv xs i 1), .int (sv xs i 2), .int (sv xs i 3)]) (st := []) (kc2 := kc) (ks2 := ks) dL_law_365 wd1385 YX12_left ⟨wd1386, wd1387⟩ (mk_get (tl123 hT)) rfl rfl (s_X12_left_va g hT I1 (sv xs i 1) (sv xs i 2) (sv xs i 3)) rfl rfl (Nat.le_of_ble_eq_true rfl) (by decide) (Nat.zero_add _) (Nat.zero_add _) 368 rfl (fun rv h1 q => ?_)
    obtain ⟨v, rfl, rfl, _, _, P2⟩ := q
    have Z := left_EA I hA hf.1 P2 hf.2.1
    have Y := Z.2
    show PV _ _ _ _ _ _ _ 368 [.retAddr (b + 1), .ref 0, .ref 123, .int i] [.int v] _
    refine pv_pop (M := mL_law) dL_law_368 369 rfl rfl ?_
    refine pv_goto (M := mL_law) (tgt := 1191) dL_law_369 (by decide) ?_
    exact kk _ _ _ _ _ _ ⟨I1, ⟨la1, lb1, R1⟩, hL1, hT, hK1, EQ_of R Y⟩
  refine pv_aload_n (M := mL_law) 1 dL_law_329 330 rfl rfl rfl ?_
  refine pv_aloadS_n (M := mL_law) 0 dL_law_330 331 rfl rfl rfl ?_
  refine pv_iload_n (M := mL_law) 3 dL_law_331 332 rfl rfl rfl ?_
  refine pv_iconst (M := mL_law) (v := 1) dL_law_332 333 rfl (by decide) ?_
  refine iv_iadd (M := mL_law) (X := i.toInt) (Y := 1) dL_law_333 334 rfl rfl (by decide) (by omega) (by omega) (fun a1 ea1 => ?_)
  refine pv_sld (M := mL_law) dL_law_334 (iv_in (X := i.toInt + 1) ea1 (by omega) (by omega)) (sv_eq (k := 1) ea1) 335 rfl ?_
  refine pv_aloadS_n (M := mL_law) 0 dL_law_335 336 rfl rfl rfl ?_
  refine pv_iload_n (M := mL_law) 3 dL_law_336 337 rfl rfl rfl ?_
  refine pv_iconst (M := mL_law) (v := 2) dL_law_337 338 rfl (by decide) ?_
  refine iv_iadd (M := mL_law) (X := i.toInt) (Y := 2) dL_law_338 339 rfl rfl (by decide) (by omega) (by omega) (fun a2 ea2 => ?_)
  refine pv_sld (M := mL_law) dL_law_339 (iv_in (X := i.toInt + 2) ea2 (by omega) (by omega)) (sv_eq (k := 2) ea2) 340 rfl ?_
  refine pv_aloadS_n (M := mL_law) 0 dL_law_340 341 rfl rfl rfl ?_
  refine pv_iload_n (M := mL_law) 3 dL_law_341 342 rfl rfl rfl ?_
  refine pv_iconst (M := mL_law) (v := 3) dL_law_342 343 rfl (by decide) ?_
  refine iv_iadd (M := mL_law) (X := i.toInt) (Y := 3) dL_law_343 344 rfl rfl (by decide) (by omega) (by omega) (fun a3 ea3 => ?_)
  refine pv_sld (M := mL_law) dL_law_344 (iv_in (X := i.toInt + 3) ea3 (by omega) (by omega)) (sv_eq (k := 3) ea3) 345 rfl ?_
  refine pv_callv (M := mL_law) (as := [.int (sv xs i 1), .int (sv xs i 2), .int (sv xs i 3)]) (st := []) (kc2 := kc) (ks2 := ks) dL_law_345 wd692 YX11_left ⟨wd693, wd694⟩ (mk_get (tl0 hT)) rfl rfl (s_X11_left_va g hT I R (sv xs i 1) (sv xs i 2) (sv xs i 3)) rfl rfl (Nat.le_of_ble_eq_true rfl) (by decide) (Nat.zero_add _) (Nat.zero_add _) 348 rfl (fun rv h1 q => ?_)
  obtain ⟨v, rfl, rfl, _, _, P2⟩ := q
  exact after _ _ _ _ _ _ _ ⟨I, ⟨la, lb, R⟩, hL, hT, hK⟩ ⟨P2, fr.rf, rfl⟩

set_option maxHeartbeats 4000000 in
set_option maxRecDepth 20000 in
theorem lx_c6 (g : pv_G) {b LL : Nat} {xs : Nat → Int32} {i : Int32} (hLL : LL ≤ 3072) (hi0 : 0 ≤ i.toInt) (hi6 : i.toInt + 6 ≤ LL) {T : List mv_T} {m : Nat → Nat → Int32} {n : Nat → Nat → Int64} {r : Nat → Value} {kc ks : Nat} (S : ST T r m kc ks) (kk : ∀ (T : List mv_T) (m : Nat → Nat → Int32) (n : Nat → Nat → Int64) (r : Nat → Value) (kc ks : Nat), ST T r m kc ks → PV (some (b, LL, xs)) g mL_law (fun r _ => r = some (.int 1)) 30 kc ks 1191 [.retAddr (b + 1), .ref 0, .ref 123, .int i] [] (mk T m n r)) : PV (some (b, LL, xs)) g mL_law (fun r _ => r = some (.int 1)) 30 kc ks 372 [.retAddr (b + 1), .ref 0, .ref 123, .int i] [] (mk T m n r) := by
  obtain ⟨I, ⟨la, lb, R⟩, hL, hT, hK, hE⟩ := S
  have hA := hE la lb R.2.2.1 R.2.2.2.1
  have zR := R.2.2.2.2.1.1
  have zR2 := R.2.2.2.2.2.1
  obtain ⟨t, hLc, hLr, hLn⟩ := hA.2.2.2.2.2.1
  have hRS := hA.2.2.1
  have hBI := hA.2.2.2.2.1
  have after : ∀ (T : List mv_T) (m1 : Nat → Nat → Int32) (n1 : Nat → Nat → Int64) (r1 : Nat → Value) (kc ks : Nat) (w : Int32), ST0 T r1 m1 kc ks → ((MAY ((0 ≤ (sv xs i 1).toInt ∧ (sv xs i 1).toInt < (m 0 2).toInt) ∧ (0 ≤ (sv xs i 2).toInt ∧ (sv xs i 2).toInt < (m (4 + 7 * (sv xs i 1).toInt.toNat + 3) 1).toInt) ∧ (0 ≤ (sv xs i 3).toInt ∧ (sv xs i 3).toInt ≤ 7) ∧ 0 ≤ (sv xs i 4).toInt ∧ (sv xs i 4).toInt ≤ 1) (sv xs i 4) (FFc m la t (sv xs i 1).toInt.toNat (sv xs i 2).toInt.toNat (sv xs i 3).toInt) (FBc m la t (sv xs i 1).toInt.toNat (sv xs i 2).toInt.toNat (sv xs i 3).toInt) (fun w => PRc m la t (sv xs i 1).toInt.toNat (sv xs i 2).toInt.toNat (sv xs i 3).toInt w) w) ∧ fr wN m m1 ∧ r1 = r) → PV (some (b, LL, xs)) g mL_law (fun r _ => r = some (.int 1)) 30 kc ks 396 [.retAddr (b + 1), .ref 0, .ref 123, .int i] [.int w] (mk T m1 n1 r1) := by
    intro T m1 n1 r1 kc ks w S1 hf
    obtain ⟨I1, ⟨la1, lb1, R1⟩, hL1, hT, hK1⟩ := S1
    have hr := hf.2.2
    subst hr
    have hLr1 : LAWr m1 t (m1 123 20).toInt.toNat := by rw [hf.2.1 123 20 rfl]; exact LAWr_c hLr (fun a i q => hf.2.1 a i (wN_wO a i q))
    refine pv_aload_n (M := mL_law) 2 dL_law_396 397 rfl rfl rfl ?_
    refine pv_aloadS_n (M := mL_law) 0 dL_law_397 398 rfl rfl rfl ?_
    refine pv_iload_n (M := mL_law) 3 dL_law_398 399 rfl rfl rfl ?_
    refine pv_iconst (M := mL_law) (v := 1) dL_law_399 400 rfl (by decide) ?_
    refine iv_iadd (M := mL_law) (X := i.toInt) (Y := 1) dL_law_400 401 rfl rfl (by decide) (by omega) (by omega) (fun u1 eu1 => ?_)
    refine pv_sld (M := mL_law) dL_law_401 (iv_in (X := i.toInt + 1) eu1 (by omega) (by omega)) (sv_eq (k := 1) eu1) 402 rfl ?_
    refine pv_aloadS_n (M := mL_law) 0 dL_law_402 403 rfl rfl rfl ?_
    refine pv_iload_n (M := mL_law) 3 dL_law_403 404 rfl rfl rfl ?_
    refine pv_iconst (M := mL_law) (v := 2) dL_law_404 405 rfl (by decide) ?_
    refine iv_iadd (M := mL_law) (X := i.toInt) (Y := 2) dL_law_405 406 rfl rfl (by decide) (by omega) (by omega) (fun u2 eu2 => ?_)
    refine pv_sld (M := mL_law) dL_law_406 (iv_in (X := i.toInt + 2) eu2 (by omega) (by omega)) (sv_eq (k := 2) eu2) 407 rfl ?_
    refine pv_aloadS_n (M := mL_law) 0 dL_law_407 408 rfl rfl rfl ?_
    refine pv_iload_n (M := mL_law) 3 dL_law_408 409 rfl rfl rfl ?_
    refine pv_iconst (M := mL_law) (v := 3) dL_law_409 410 rfl (by decide) ?_
    refine iv_iadd (M := mL_law) (X := i.toInt) (Y := 3) dL_law_410 411 rfl rfl (by decide) (by omega) (by omega) (fun u3 eu3 => ?_)
    refine pv_sld (M := mL_law) dL_law_411 (iv_in (X := i.toInt + 3) eu3 (by omega) (by omega)) (sv_eq (k := 3) eu3) 412 rfl ?_
    refine pv_aloadS_n (M := mL_law) 0 dL_law_412 413 rfl rfl rfl ?_
    refine pv_iload_n (M := mL_law) 3 dL_law_413 414 rfl rfl rfl ?_
    refine pv_iconst (M := mL_law) (v := 4) dL_law_414 415 rfl (by decide) ?_
    refine iv_iadd (M := mL_law) (X := i.toInt) (Y := 4) dL_law_415 416 rfl rfl (by decide) (by omega) (by omega) (fun u4 eu4 => ?_)
    refine pv_sld (M := mL_law) dL_law_416 (iv_in (X := i.toInt + 4) eu4 (by omega) (by omega)) (sv_eq (k := 4) eu4) 417 rfl ?_
    refine pv_callv (M := mL_law) (as := [.int (sv xs i 1), .int (sv xs i 2), .int (sv xs i 3), .int (sv xs i 4)]) (st := [.int w]) (kc2 := kc) (ks2 := ks) dL_law_417 wd1492 YX12_may ⟨wd1493, wd1494⟩ (mk_get (tl123 hT)) rfl rfl (s_X12_may_va g hT I1 (sv xs i 1) (sv xs i 2) (sv xs i 3) (sv xs i 4) t hL1 hLr1) rfl rfl (Nat.le_of_ble_eq_true rfl) (by decide) (Nat.zero_add _) (Nat.zero_add _) 420 rfl (fun rv h1 q => ?_)
    obtain ⟨m2, n2, v, rfl, rfl, I2, K2, _, _, P2⟩ := q
    have hL2 : LX m2 := LX_eq hL1 (K2 123 20 rfl) (fun j => K2 136 j rfl) (fun j => K2 138 j rfl) (fun j => K2 139 j rfl) (fun j => K2 140 j rfl)
    have Z := may_EA I zR hA hf.1 P2 hf.2.1 (fun a i q => K2 a i (wl_nR (by decide) q)) (fun a i q => K2 a i (wl_nF (by decide) q))
    have Y := Z.2
    show PV _ _ _ _ _ _ _ 420 [.retAddr (b + 1), .ref 0, .ref 123, .int i] [.int v, .int w] _
    refine pv_icmp_eq (M := mL_law) (tgt := 1191) dL_law_420 423 rfl (by decide) (fun _ => ?_) (fun c => absurd (Int32.toInt_inj.mp (by have z := Z.1; first | omega | (subst z; rfl) | (rw [z]))) c)
    exact kk _ _ _ _ _ _ ⟨I2, ⟨la1, lb1, R1⟩, hL2, hT, hK1, EQ_of R Y⟩
  refine pv_aload_n (M := mL_law) 1 dL_law_372 373 rfl rfl rfl ?_
  refine pv_aloadS_n (M := mL_law) 0 dL_law_373 374 rfl rfl rfl ?_
  refine pv_iload_n (M := mL_law) 3 dL_law_374 375 rfl rfl rfl ?_
  refine pv_iconst (M := mL_law) (v := 1) dL_law_375 376 rfl (by decide) ?_
  refine iv_iadd (M := mL_law) (X := i.toInt) (Y := 1) dL_law_376 377 rfl rfl (by decide) (by omega) (by omega) (fun a1 ea1 => ?_)
  refine pv_sld (M := mL_law) dL_law_377 (iv_in (X := i.toInt + 1) ea1 (by omega) (by omega)) (sv_eq (k := 1) ea1) 378 rfl ?_
  refine pv_aloadS_n (M := mL_law) 0 dL_law_378 379 rfl rfl rfl ?_
  refine pv_iload_n (M := mL_law) 3 dL_law_379 380 rfl rfl rfl ?_
  refine pv_iconst (M := mL_law) (v := 2) dL_law_380 381 rfl (by decide) ?_
  refine iv_iadd (M := mL_law) (X := i.toInt) (Y := 2) dL_law_381 382 rfl rfl (by decide) (by omega) (by omega) (fun a2 ea2 => ?_)
  refine pv_sld (M := mL_law) dL_law_382 (iv_in (X := i.toInt + 2) ea2 (by omega) (by omega)) (sv_eq (k := 2) ea2) 383 rfl ?_
  refine pv_aloadS_n (M := mL_law) 0 dL_law_383 384 rfl rfl rfl ?_
  refine pv_iload_n (M := mL_law) 3 dL_law_384 385 rfl rfl rfl ?_
  refine pv_iconst (M := mL_law) (v := 3) dL_law_385 386 rfl (by decide) ?_
  refine iv_iadd (M := mL_law) (X := i.toInt) (Y := 3) dL_law_386 387 rfl rfl (by decide) (by omega) (by omega) (fun a3 ea3 => ?_)
  refine pv_sld (M := mL_law) dL_law_387 (iv_in (X := i.toInt + 3) ea3 (by omega) (by omega)) (sv_eq (k := 3) ea3) 388 rfl ?_
  refine pv_aloadS_n (M := mL_law) 0 dL_law_388 389 rfl rfl rfl ?_
  refine pv_iload_n (M := mL_law) 3 dL_law_389 390 rfl rfl rfl ?_
  refine pv_iconst (M := mL_law) (v := 4) dL_law_390 391 rfl (by decide) ?_
  refine iv_iadd (M := mL_law) (X := i.toInt) (Y := 4) dL_law_391 392 rfl rfl (by decide) (by omega) (by omega) (fun a4 ea4 => ?_)
  refine pv_sld (M := mL_law) dL_law_392 (iv_in (X := i.toInt + 4) ea4 (by omega) (by omega)) (sv_eq (k := 4) ea4) 393 rfl ?_
  refine pv_callv (M := mL_law) (as := [.int (sv xs i 1), .int (sv xs i 2), .int (sv xs i 3), .int (sv xs i 4)]) (st := []) (kc2 := kc) (ks2 := ks) dL_law_393 wd712 YX11_may ⟨wd713, wd714⟩ (mk_get (tl0 hT)) rfl rfl (s_X11_may_va g hT I R (sv xs i 1) (sv xs i 2) (sv xs i 3) (sv xs i 4) t hRS hLc) rfl rfl (Nat.le_of_ble_eq_true rfl) (by decide) (Nat.zero_add _) (Nat.zero_add _) 396 rfl (fun rv h1 q => ?_)
  obtain ⟨m2, n2, v, rfl, rfl, I2, K2, _, _, P2⟩ := q
  exact after _ _ _ _ _ _ _ ⟨I2, ⟨la, lb, R⟩, (LX_eq hL (K2 123 20 rfl) (fun j => K2 136 j rfl) (fun j => K2 138 j rfl) (fun j => K2 139 j rfl) (fun j => K2 140 j rfl)), hT, hK⟩ ⟨P2, K2, rfl⟩

set_option maxHeartbeats 4000000 in
set_option maxRecDepth 20000 in
theorem lx_c7 (g : pv_G) {b LL : Nat} {xs : Nat → Int32} {i : Int32} (hLL : LL ≤ 3072) (hi0 : 0 ≤ i.toInt) (hi6 : i.toInt + 6 ≤ LL) {T : List mv_T} {m : Nat → Nat → Int32} {n : Nat → Nat → Int64} {r : Nat → Value} {kc ks : Nat} (S : ST T r m kc ks) (kk : ∀ (T : List mv_T) (m : Nat → Nat → Int32) (n : Nat → Nat → Int64) (r : Nat → Value) (kc ks : Nat), ST T r m kc ks → PV (some (b, LL, xs)) g mL_law (fun r _ => r = some (.int 1)) 30 kc ks 1191 [.retAddr (b + 1), .ref 0, .ref 123, .int i] [] (mk T m n r)) : PV (some (b, LL, xs)) g mL_law (fun r _ => r = some (.int 1)) 30 kc ks 425 [.retAddr (b + 1), .ref 0, .ref 123, .int i] [] (mk T m n r) := by
  obtain ⟨I, ⟨la, lb, R⟩, hL, hT, hK, hE⟩ := S
  have hA := hE la lb R.2.2.1 R.2.2.2.1
  have zR := R.2.2.2.2.1.1
  have zR2 := R.2.2.2.2.2.1
  obtain ⟨t, hLc, hLr, hLn⟩ := hA.2.2.2.2.2.1
  have hRS := hA.2.2.1
  have hBI := hA.2.2.2.2.1
  have after : ∀ (T : List mv_T) (m1 : Nat → Nat → Int32) (n1 : Nat → Nat → Int64) (r1 : Nat → Value) (kc ks : Nat) (w : Int32), ST0 T r1 m1 kc ks → ((STRK ((0 ≤ (sv xs i 1).toInt ∧ (sv xs i 1).toInt < (m 0 2).toInt) ∧ (0 ≤ (sv xs i 4).toInt ∧ (sv xs i 4).toInt ≤ 7) ∧ (1 ≤ (sv xs i 3).toInt ∧ (sv xs i 3).toInt ≤ 9) ∧ 0 ≤ (sv xs i 2).toInt ∧ (sv xs i 2).toInt + (sv xs i 3).toInt ≤ (m (4 + 7 * (sv xs i 1).toInt.toNat + 3) 1).toInt) (fun k => FBc m la t (sv xs i 1).toInt.toNat ((sv xs i 2).toInt.toNat + k) (sv xs i 4).toInt) (fun k => FFc m la t (sv xs i 1).toInt.toNat ((sv xs i 2).toInt.toNat + k) (sv xs i 4).toInt) (fun k w => PRc m la t (sv xs i 1).toInt.toNat ((sv xs i 2).toInt.toNat + k) (sv xs i 4).toInt w) (60 ≤ (m 97 6).toInt) (sv xs i 3).toInt.toNat (fr wN m m1) (fun w => m1 0 8 = m 0 8 ∧ STKc m m1 (4 + 7 * (sv xs i 1).toInt.toNat) (sv xs i 1).toInt.toNat (sv xs i 2).toInt.toNat (sv xs i 3).toInt.toNat (sv xs i 4) w) w) ∧ fr wO m m1 ∧ r1 = r) → PV (some (b, LL, xs)) g mL_law (fun r _ => r = some (.int 1)) 30 kc ks 449 [.retAddr (b + 1), .ref 0, .ref 123, .int i] [.int w] (mk T m1 n1 r1) := by
    intro T m1 n1 r1 kc ks w S1 hf
    obtain ⟨I1, ⟨la1, lb1, R1⟩, hL1, hT, hK1⟩ := S1
    have hr := hf.2.2
    subst hr
    have hLr1 : LAWr m1 t (m1 123 20).toInt.toNat := by rw [hf.2.1 123 20 rfl]; exact LAWr_c hLr hf.2.1
    refine pv_pop (M := mL_law) dL_law_449 450 rfl rfl ?_
    refine pv_aload_n (M := mL_law) 2 dL_law_450 451 rfl rfl rfl ?_
    refine pv_aloadS_n (M := mL_law) 0 dL_law_451 452 rfl rfl rfl ?_
    refine pv_iload_n (M := mL_law) 3 dL_law_452 453 rfl rfl rfl ?_
    refine pv_iconst (M := mL_law) (v := 1) dL_law_453 454 rfl (by decide) ?_
    refine iv_iadd (M := mL_law) (X := i.toInt) (Y := 1) dL_law_454 455 rfl rfl (by decide) (by omega) (by omega) (fun u1 eu1 => ?_)
    refine pv_sld (M := mL_law) dL_law_455 (iv_in (X := i.toInt + 1) eu1 (by omega) (by omega)) (sv_eq (k := 1) eu1) 456 rfl ?_
    refine pv_aloadS_n (M := mL_law) 0 dL_law_456 457 rfl rfl rfl ?_
    refine pv_iload_n (M := mL_law) 3 dL_law_457 458 rfl rfl rfl ?_
    refine pv_iconst (M := mL_law) (v := 2) dL_law_458 459 rfl (by decide) ?_
    refine iv_iadd (M := mL_law) (X := i.toInt) (Y := 2) dL_law_459 460 rfl rfl (by decide) (by omega) (by omega) (fun u2 eu2 => ?_)
    refine pv_sld (M := mL_law) dL_law_460 (iv_in (X := i.toInt + 2) eu2 (by omega) (by omega)) (sv_eq (k := 2) eu2) 461 rfl ?_
    refine pv_aloadS_n (M := mL_law) 0 dL_law_461 462 rfl rfl rfl ?_
    refine pv_iload_n (M := mL_law) 3 dL_law_462 463 rfl rfl rfl ?_
    refine pv_iconst (M := mL_law) (v := 3) dL_law_463 464 rfl (by decide) ?_
    refine iv_iadd (M := mL_law) (X := i.toInt) (Y := 3) dL_law_464 465 rfl rfl (by decide) (by omega) (by omega) (fun u3 eu3 => ?_)
    refine pv_sld (M := mL_law) dL_law_465 (iv_in (X := i.toInt + 3) eu3 (by omega) (by omega)) (sv_eq (k := 3) eu3) 466 rfl ?_
    refine pv_aloadS_n (M := mL_law) 0 dL_law_466 467 rfl rfl rfl ?_
    refine pv_iload_n (M := mL_law) 3 dL_law_467 468 rfl rfl rfl ?_
    refine pv_iconst (M := mL_law) (v := 4) dL_law_468 469 rfl (by decide) ?_
    refine iv_iadd (M := mL_law) (X := i.toInt) (Y := 4) dL_law_469 470 rfl rfl (by decide) (by omega) (by omega) (fun u4 eu4 => ?_)
    refine pv_sld (M := mL_law) dL_law_470 (iv_in (X := i.toInt + 4) eu4 (by omega) (by omega)) (sv_eq (k := 4) eu4) 471 rfl ?_
    refine pv_callv (M := mL_law) (as := [.int (sv xs i 1), .int (sv xs i 2), .int (sv xs i 3), .int (sv xs i 4)]) (st := []) (kc2 := kc) (ks2 := ks) dL_law_471 wd1526 YX12_strike ⟨wd1527, wd1528⟩ (mk_get (tl123 hT)) rfl rfl (s_X12_strike_va g hT I1 (sv xs i 1) (sv xs i 2) (sv xs i 3) (sv xs i 4) t hL1 hLr1) rfl rfl (Nat.le_of_ble_eq_true rfl) (by decide) (Nat.zero_add _) (Nat.zero_add _) 474 rfl (fun rv h1 q => ?_)
    obtain ⟨m2, n2, v, rfl, rfl, I2, K2, _, _, P2⟩ := q
    have hL2 : LX m2 := LX_eq hL1 (K2 123 20 rfl) (fun j => K2 136 j rfl) (fun j => K2 138 j rfl) (fun j => K2 139 j rfl) (fun j => K2 140 j rfl)
    have Z := strike_EA (p := 0) (b := 0) I zR hA hf.1 P2 hf.2.1 (fun a i q => K2 a i (wl_lo (by decide) q)) (fun a i q => K2 a i (wl_nF (by decide) q)) (K2 123 0 rfl) (K2 123 2 rfl) (fun j => K2 124 j rfl) (fun a i q1 q2 => K2 a i (wl_cr (by decide) q1 q2)) (K2 123 20 rfl)
    have Y := Z.2
    show PV _ _ _ _ _ _ _ 474 [.retAddr (b + 1), .ref 0, .ref 123, .int i] [.int v] _
    refine pv_pop (M := mL_law) dL_law_474 475 rfl rfl ?_
    refine pv_goto (M := mL_law) (tgt := 1191) dL_law_475 (by decide) ?_
    exact kk _ _ _ _ _ _ ⟨I2, ⟨la1, lb1, R1⟩, hL2, hT, hK1, EQ_of R Y⟩
  refine pv_aload_n (M := mL_law) 1 dL_law_425 426 rfl rfl rfl ?_
  refine pv_aloadS_n (M := mL_law) 0 dL_law_426 427 rfl rfl rfl ?_
  refine pv_iload_n (M := mL_law) 3 dL_law_427 428 rfl rfl rfl ?_
  refine pv_iconst (M := mL_law) (v := 1) dL_law_428 429 rfl (by decide) ?_
  refine iv_iadd (M := mL_law) (X := i.toInt) (Y := 1) dL_law_429 430 rfl rfl (by decide) (by omega) (by omega) (fun a1 ea1 => ?_)
  refine pv_sld (M := mL_law) dL_law_430 (iv_in (X := i.toInt + 1) ea1 (by omega) (by omega)) (sv_eq (k := 1) ea1) 431 rfl ?_
  refine pv_aloadS_n (M := mL_law) 0 dL_law_431 432 rfl rfl rfl ?_
  refine pv_iload_n (M := mL_law) 3 dL_law_432 433 rfl rfl rfl ?_
  refine pv_iconst (M := mL_law) (v := 2) dL_law_433 434 rfl (by decide) ?_
  refine iv_iadd (M := mL_law) (X := i.toInt) (Y := 2) dL_law_434 435 rfl rfl (by decide) (by omega) (by omega) (fun a2 ea2 => ?_)
  refine pv_sld (M := mL_law) dL_law_435 (iv_in (X := i.toInt + 2) ea2 (by omega) (by omega)) (sv_eq (k := 2) ea2) 436 rfl ?_
  refine pv_aloadS_n (M := mL_law) 0 dL_law_436 437 rfl rfl rfl ?_
  refine pv_iload_n (M := mL_law) 3 dL_law_437 438 rfl rfl rfl ?_
  refine pv_iconst (M := mL_law) (v := 3) dL_law_438 439 rfl (by decide) ?_
  refine iv_iadd (M := mL_law) (X := i.toInt) (Y := 3) dL_law_439 440 rfl rfl (by decide) (by omega) (by omega) (fun a3 ea3 => ?_)
  refine pv_sld (M := mL_law) dL_law_440 (iv_in (X := i.toInt + 3) ea3 (by omega) (by omega)) (sv_eq (k := 3) ea3) 441 rfl ?_
  refine pv_aloadS_n (M := mL_law) 0 dL_law_441 442 rfl rfl rfl ?_
  refine pv_iload_n (M := mL_law) 3 dL_law_442 443 rfl rfl rfl ?_
  refine pv_iconst (M := mL_law) (v := 4) dL_law_443 444 rfl (by decide) ?_
  refine iv_iadd (M := mL_law) (X := i.toInt) (Y := 4) dL_law_444 445 rfl rfl (by decide) (by omega) (by omega) (fun a4 ea4 => ?_)
  refine pv_sld (M := mL_law) dL_law_445 (iv_in (X := i.toInt + 4) ea4 (by omega) (by omega)) (sv_eq (k := 4) ea4) 446 rfl ?_
  refine pv_callv (M := mL_law) (as := [.int (sv xs i 1), .int (sv xs i 2), .int (sv xs i 3), .int (sv xs i 4)]) (st := []) (kc2 := kc) (ks2 := ks) dL_law_446 wd769 YX11_strike ⟨wd770, wd771⟩ (mk_get (tl0 hT)) rfl rfl (s_X11_strike_va g hT I R (sv xs i 1) (sv xs i 2) (sv xs i 3) (sv xs i 4) t hRS hLc) rfl rfl (Nat.le_of_ble_eq_true rfl) (by decide) (Nat.zero_add _) (Nat.zero_add _) 449 rfl (fun rv h1 q => ?_)
  obtain ⟨m2, n2, v, rfl, rfl, I2, K2, _, _, P2⟩ := q
  exact after _ _ _ _ _ _ _ ⟨I2, ⟨la, lb, R⟩, (LX_eq hL (K2 123 20 rfl) (fun j => K2 136 j rfl) (fun j => K2 138 j rfl) (fun j => K2 139 j rfl) (fun j => K2 140 j rfl)), hT, hK⟩ ⟨P2, K2, rfl⟩

set_option maxHeartbeats 4000000 in
set_option maxRecDepth 20000 in
theorem lx_c8 (g : pv_G) {b LL : Nat} {xs : Nat → Int32} {i : Int32} (hLL : LL ≤ 3072) (hi0 : 0 ≤ i.toInt) (hi6 : i.toInt + 6 ≤ LL) {T : List mv_T} {m : Nat → Nat → Int32} {n : Nat → Nat → Int64} {r : Nat → Value} {kc ks : Nat} (S : ST T r m kc ks) (kk : ∀ (T : List mv_T) (m : Nat → Nat → Int32) (n : Nat → Nat → Int64) (r : Nat → Value) (kc ks : Nat), ST T r m kc ks → PV (some (b, LL, xs)) g mL_law (fun r _ => r = some (.int 1)) 30 kc ks 1191 [.retAddr (b + 1), .ref 0, .ref 123, .int i] [] (mk T m n r)) : PV (some (b, LL, xs)) g mL_law (fun r _ => r = some (.int 1)) 30 kc ks 478 [.retAddr (b + 1), .ref 0, .ref 123, .int i] [] (mk T m n r) := by
  obtain ⟨I, ⟨la, lb, R⟩, hL, hT, hK, hE⟩ := S
  have hA := hE la lb R.2.2.1 R.2.2.2.1
  have zR := R.2.2.2.2.1.1
  have zR2 := R.2.2.2.2.2.1
  obtain ⟨t, hLc, hLr, hLn⟩ := hA.2.2.2.2.2.1
  have hRS := hA.2.2.1
  have hBI := hA.2.2.2.2.1
  have after : ∀ (T : List mv_T) (m1 : Nat → Nat → Int32) (n1 : Nat → Nat → Int64) (r1 : Nat → Value) (kc ks : Nat) (w : Int32), ST0 T r1 m1 kc ks → ((BCKP ((0 ≤ (sv xs i 1).toInt ∧ (sv xs i 1).toInt < (m 0 2).toInt) ∧ ∃ iq : Nat, (iq : Int) < (m 97 6).toInt ∧ (m 98 iq).toInt = (sv xs i 1).toInt) (∀ a j, isR a j = true → m1 a j = m a j) (fun w => BCKc m m1 (4 + 7 * (sv xs i 1).toInt.toNat) (sv xs i 1).toInt.toNat w) w.toInt) ∧ fr wS3 m m1 ∧ r1 = r) → PV (some (b, LL, xs)) g mL_law (fun r _ => r = some (.int 1)) 30 kc ks 487 [.retAddr (b + 1), .ref 0, .ref 123, .int i] [.int w] (mk T m1 n1 r1) := by
    intro T m1 n1 r1 kc ks w S1 hf
    obtain ⟨I1, ⟨la1, lb1, R1⟩, hL1, hT, hK1⟩ := S1
    have hr := hf.2.2
    subst hr
    refine pv_pop (M := mL_law) dL_law_487 488 rfl rfl ?_
    refine pv_aload_n (M := mL_law) 2 dL_law_488 489 rfl rfl rfl ?_
    refine pv_aloadS_n (M := mL_law) 0 dL_law_489 490 rfl rfl rfl ?_
    refine pv_iload_n (M := mL_law) 3 dL_law_490 491 rfl rfl rfl ?_
    refine pv_iconst (M := mL_law) (v := 1) dL_law_491 492 rfl (by decide) ?_
    refine iv_iadd (M := mL_law) (X := i.toInt) (Y := 1) dL_law_492 493 rfl rfl (by decide) (by omega) (by omega) (fun u1 eu1 => ?_)
    refine pv_sld (M := mL_law) dL_law_493 (iv_in (X := i.toInt + 1) eu1 (by omega) (by omega)) (sv_eq (k := 1) eu1) 494 rfl ?_
    refine pv_callv (M := mL_law) (as := [.int (sv xs i 1)]) (st := []) (kc2 := kc) (ks2 := ks) dL_law_494 wd1538 YX12_back ⟨wd1539, wd1540⟩ (mk_get (tl123 hT)) rfl rfl (s_X12_back_va g hT I1 (sv xs i 1)) rfl rfl (Nat.le_of_ble_eq_true rfl) (by decide) (Nat.zero_add _) (Nat.zero_add _) 497 rfl (fun rv h1 q => ?_)
    obtain ⟨m2, n2, v, rfl, rfl, I2, K2, _, _, P2⟩ := q
    have hL2 : LX m2 := LX_eq hL1 (K2 123 20 rfl) (fun j => K2 136 j rfl) (fun j => K2 138 j rfl) (fun j => K2 139 j rfl) (fun j => K2 140 j rfl)
    have Z := back_EA I zR hA hf.1 P2 hf.2.1 (fun a i q => K2 a i (wl_lo (by decide) q)) (fun a i q => K2 a i (wl_nF (by decide) q)) (K2 123 0 rfl) (K2 123 2 rfl) (fun j => K2 124 j rfl) (fun a i q1 q2 => K2 a i (wl_cr (by decide) q1 q2)) (K2 123 20 rfl)
    have Y := Z.2
    show PV _ _ _ _ _ _ _ 497 [.retAddr (b + 1), .ref 0, .ref 123, .int i] [.int v] _
    refine pv_pop (M := mL_law) dL_law_497 498 rfl rfl ?_
    refine pv_goto (M := mL_law) (tgt := 1191) dL_law_498 (by decide) ?_
    exact kk _ _ _ _ _ _ ⟨I2, ⟨la1, lb1, R1⟩, hL2, hT, hK1, EQ_of R Y⟩
  refine pv_aload_n (M := mL_law) 1 dL_law_478 479 rfl rfl rfl ?_
  refine pv_aloadS_n (M := mL_law) 0 dL_law_479 480 rfl rfl rfl ?_
  refine pv_iload_n (M := mL_law) 3 dL_law_480 481 rfl rfl rfl ?_
  refine pv_iconst (M := mL_law) (v := 1) dL_law_481 482 rfl (by decide) ?_
  refine iv_iadd (M := mL_law) (X := i.toInt) (Y := 1) dL_law_482 483 rfl rfl (by decide) (by omega) (by omega) (fun a1 ea1 => ?_)
  refine pv_sld (M := mL_law) dL_law_483 (iv_in (X := i.toInt + 1) ea1 (by omega) (by omega)) (sv_eq (k := 1) ea1) 484 rfl ?_
  refine pv_callv (M := mL_law) (as := [.int (sv xs i 1)]) (st := []) (kc2 := kc) (ks2 := ks) dL_law_484 wd794 YX11_back ⟨wd795, wd796⟩ (mk_get (tl0 hT)) rfl rfl (s_X11_back_va g hT I R (sv xs i 1) hBI hRS) rfl rfl (Nat.le_of_ble_eq_true rfl) (by decide) (Nat.zero_add _) (Nat.zero_add _) 487 rfl (fun rv h1 q => ?_)
  obtain ⟨m2, n2, v, rfl, rfl, I2, K2, _, _, P2⟩ := q
  exact after _ _ _ _ _ _ _ ⟨I2, ⟨la, lb, R⟩, (LX_eq hL (K2 123 20 rfl) (fun j => K2 136 j rfl) (fun j => K2 138 j rfl) (fun j => K2 139 j rfl) (fun j => K2 140 j rfl)), hT, hK⟩ ⟨P2, K2, rfl⟩

set_option maxHeartbeats 4000000 in
set_option maxRecDepth 20000 in
theorem lx_c9 (g : pv_G) {b LL : Nat} {xs : Nat → Int32} {i : Int32} (hLL : LL ≤ 3072) (hi0 : 0 ≤ i.toInt) (hi6 : i.toInt + 6 ≤ LL) {T : List mv_T} {m : Nat → Nat → Int32} {n : Nat → Nat → Int64} {r : Nat → Value} {kc ks : Nat} (S : ST T r m kc ks) (kk : ∀ (T : List mv_T) (m : Nat → Nat → Int32) (n : Nat → Nat → Int64) (r : Nat → Value) (kc ks : Nat), ST T r m kc ks → PV (some (b, LL, xs)) g mL_law (fun r _ => r = some (.int 1)) 30 kc ks 1191 [.retAddr (b + 1), .ref 0, .ref 123, .int i] [] (mk T m n r)) : PV (some (b, LL, xs)) g mL_law (fun r _ => r = some (.int 1)) 30 kc ks 501 [.retAddr (b + 1), .ref 0, .ref 123, .int i] [] (mk T m n r) := by
  obtain ⟨I, ⟨la, lb, R⟩, hL, hT, hK, hE⟩ := S
  have hA := hE la lb R.2.2.1 R.2.2.2.1
  have zR := R.2.2.2.2.1.1
  have zR2 := R.2.2.2.2.2.1
  have after : ∀ (T : List mv_T) (m1 : Nat → Nat → Int32) (n1 : Nat → Nat → Int64) (r1 : Nat → Value) (kc ks : Nat) (w : Int32), ST0 T r1 m1 kc ks → ((BOK (m 97 6).toInt (fun q iq => m (98 + q) iq) (m 103) (sv xs i 1) (sv xs i 2) w) ∧ fr (wl []) m m1 ∧ r1 = r) → PV (some (b, LL, xs)) g mL_law (fun r _ => r = some (.int 1)) 30 kc ks 515 [.retAddr (b + 1), .ref 0, .ref 123, .int i] [.int w] (mk T m1 n1 r1) := by
    intro T m1 n1 r1 kc ks w S1 hf
    obtain ⟨I1, ⟨la1, lb1, R1⟩, hL1, hT, hK1⟩ := S1
    have hr := hf.2.2
    subst hr
    refine pv_pop (M := mL_law) dL_law_515 516 rfl rfl ?_
    refine pv_aload_n (M := mL_law) 2 dL_law_516 517 rfl rfl rfl ?_
    refine pv_aloadS_n (M := mL_law) 0 dL_law_517 518 rfl rfl rfl ?_
    refine pv_iload_n (M := mL_law) 3 dL_law_518 519 rfl rfl rfl ?_
    refine pv_iconst (M := mL_law) (v := 1) dL_law_519 520 rfl (by decide) ?_
    refine iv_iadd (M := mL_law) (X := i.toInt) (Y := 1) dL_law_520 521 rfl rfl (by decide) (by omega) (by omega) (fun u1 eu1 => ?_)
    refine pv_sld (M := mL_law) dL_law_521 (iv_in (X := i.toInt + 1) eu1 (by omega) (by omega)) (sv_eq (k := 1) eu1) 522 rfl ?_
    refine pv_aloadS_n (M := mL_law) 0 dL_law_522 523 rfl rfl rfl ?_
    refine pv_iload_n (M := mL_law) 3 dL_law_523 524 rfl rfl rfl ?_
    refine pv_iconst (M := mL_law) (v := 2) dL_law_524 525 rfl (by decide) ?_
    refine iv_iadd (M := mL_law) (X := i.toInt) (Y := 2) dL_law_525 526 rfl rfl (by decide) (by omega) (by omega) (fun u2 eu2 => ?_)
    refine pv_sld (M := mL_law) dL_law_526 (iv_in (X := i.toInt + 2) eu2 (by omega) (by omega)) (sv_eq (k := 2) eu2) 527 rfl ?_
    refine pv_callv (M := mL_law) (as := [.int (sv xs i 1), .int (sv xs i 2)]) (st := []) (kc2 := kc) (ks2 := ks) dL_law_527 wd1546 YX12_book ⟨wd1547, wd1548⟩ (mk_get (tl123 hT)) rfl rfl (s_X12_book_va g hT I1 (sv xs i 1) (sv xs i 2)) rfl rfl (Nat.le_of_ble_eq_true rfl) (by decide) (Nat.zero_add _) (Nat.zero_add _) 530 rfl (fun rv h1 q => ?_)
    obtain ⟨v, rfl, rfl, _, _, P2⟩ := q
    have Z := book_EA hA hf.1 P2 hf.2.1
    have Y := Z.2
    show PV _ _ _ _ _ _ _ 530 [.retAddr (b + 1), .ref 0, .ref 123, .int i] [.int v] _
    refine pv_pop (M := mL_law) dL_law_530 531 rfl rfl ?_
    refine pv_goto (M := mL_law) (tgt := 1191) dL_law_531 (by decide) ?_
    exact kk _ _ _ _ _ _ ⟨I1, ⟨la1, lb1, R1⟩, hL1, hT, hK1, EQ_of R Y⟩
  refine pv_aload_n (M := mL_law) 1 dL_law_501 502 rfl rfl rfl ?_
  refine pv_aloadS_n (M := mL_law) 0 dL_law_502 503 rfl rfl rfl ?_
  refine pv_iload_n (M := mL_law) 3 dL_law_503 504 rfl rfl rfl ?_
  refine pv_iconst (M := mL_law) (v := 1) dL_law_504 505 rfl (by decide) ?_
  refine iv_iadd (M := mL_law) (X := i.toInt) (Y := 1) dL_law_505 506 rfl rfl (by decide) (by omega) (by omega) (fun a1 ea1 => ?_)
  refine pv_sld (M := mL_law) dL_law_506 (iv_in (X := i.toInt + 1) ea1 (by omega) (by omega)) (sv_eq (k := 1) ea1) 507 rfl ?_
  refine pv_aloadS_n (M := mL_law) 0 dL_law_507 508 rfl rfl rfl ?_
  refine pv_iload_n (M := mL_law) 3 dL_law_508 509 rfl rfl rfl ?_
  refine pv_iconst (M := mL_law) (v := 2) dL_law_509 510 rfl (by decide) ?_
  refine iv_iadd (M := mL_law) (X := i.toInt) (Y := 2) dL_law_510 511 rfl rfl (by decide) (by omega) (by omega) (fun a2 ea2 => ?_)
  refine pv_sld (M := mL_law) dL_law_511 (iv_in (X := i.toInt + 2) ea2 (by omega) (by omega)) (sv_eq (k := 2) ea2) 512 rfl ?_
  refine pv_callv (M := mL_law) (as := [.int (sv xs i 1), .int (sv xs i 2)]) (st := []) (kc2 := kc) (ks2 := ks) dL_law_512 wd815 YX11_book ⟨wd816, wd817⟩ (mk_get (tl0 hT)) rfl rfl (s_X11_book_va g hT I R (sv xs i 1) (sv xs i 2)) rfl rfl (Nat.le_of_ble_eq_true rfl) (by decide) (Nat.zero_add _) (Nat.zero_add _) 515 rfl (fun rv h1 q => ?_)
  obtain ⟨v, rfl, rfl, _, _, P2⟩ := q
  exact after _ _ _ _ _ _ _ ⟨I, ⟨la, lb, R⟩, hL, hT, hK⟩ ⟨P2, fr.rf, rfl⟩

set_option maxHeartbeats 4000000 in
set_option maxRecDepth 20000 in
theorem lx_c10 (g : pv_G) {b LL : Nat} {xs : Nat → Int32} {i : Int32} (hLL : LL ≤ 3072) (hi0 : 0 ≤ i.toInt) (hi6 : i.toInt + 6 ≤ LL) {T : List mv_T} {m : Nat → Nat → Int32} {n : Nat → Nat → Int64} {r : Nat → Value} {kc ks : Nat} (S : ST T r m kc ks) (kk : ∀ (T : List mv_T) (m : Nat → Nat → Int32) (n : Nat → Nat → Int64) (r : Nat → Value) (kc ks : Nat), ST T r m kc ks → PV (some (b, LL, xs)) g mL_law (fun r _ => r = some (.int 1)) 30 kc ks 1191 [.retAddr (b + 1), .ref 0, .ref 123, .int i] [] (mk T m n r)) : PV (some (b, LL, xs)) g mL_law (fun r _ => r = some (.int 1)) 30 kc ks 534 [.retAddr (b + 1), .ref 0, .ref 123, .int i] [] (mk T m n r) := by
  have after : ∀ (T : List mv_T) (m : Nat → Nat → Int32) (n : Nat → Nat → Int64) (r : Nat → Value) (kc ks : Nat) (w : Int64), ST T r m kc ks → PV (some (b, LL, xs)) g mL_law (fun r _ => r = some (.int 1)) 30 kc ks 548 [.retAddr (b + 1), .ref 0, .ref 123, .int i] [.long w] (mk T m n r) := by
    intro T m n r kc ks w S
    obtain ⟨I, ⟨la, lb, R⟩, hL, hT, hK, hE⟩ := S
    refine pv_pop2 (M := mL_law) dL_law_548 549 rfl rfl ?_
    refine pv_aload_n (M := mL_law) 2 dL_law_549 550 rfl rfl rfl ?_
    refine pv_aloadS_n (M := mL_law) 0 dL_law_550 551 rfl rfl rfl ?_
    refine pv_iload_n (M := mL_law) 3 dL_law_551 552 rfl rfl rfl ?_
    refine pv_iconst (M := mL_law) (v := 1) dL_law_552 553 rfl (by decide) ?_
    refine iv_iadd (M := mL_law) (X := i.toInt) (Y := 1) dL_law_553 554 rfl rfl (by decide) (by omega) (by omega) (fun u1 eu1 => ?_)
    refine pv_sld (M := mL_law) dL_law_554 (iv_in (X := i.toInt + 1) eu1 (by omega) (by omega)) (sv_eq (k := 1) eu1) 555 rfl ?_
    refine pv_aloadS_n (M := mL_law) 0 dL_law_555 556 rfl rfl rfl ?_
    refine pv_iload_n (M := mL_law) 3 dL_law_556 557 rfl rfl rfl ?_
    refine pv_iconst (M := mL_law) (v := 2) dL_law_557 558 rfl (by decide) ?_
    refine iv_iadd (M := mL_law) (X := i.toInt) (Y := 2) dL_law_558 559 rfl rfl (by decide) (by omega) (by omega) (fun u2 eu2 => ?_)
    refine pv_sld (M := mL_law) dL_law_559 (iv_in (X := i.toInt + 2) eu2 (by omega) (by omega)) (sv_eq (k := 2) eu2) 560 rfl ?_
    refine pv_callv (M := mL_law) (as := [.int (sv xs i 1), .int (sv xs i 2)]) (st := []) (kc2 := kc) (ks2 := ks) dL_law_560 wd1550 YX12_ways ⟨wd1551, wd1552⟩ (mk_get (tl123 hT)) rfl rfl (s_X12_ways g hT I (sv xs i 1) (sv xs i 2)) rfl rfl (Nat.le_of_ble_eq_true rfl) (by decide) (Nat.zero_add _) (Nat.zero_add _) 563 rfl (fun rv h1 q => ?_)
    obtain ⟨m2, n2, v, rfl, rfl, I2, K2, _⟩ := q
    have hL2 : LX m2 := LX_eq hL (K2 123 20 rfl) (fun j => K2 136 j rfl) (fun j => K2 138 j rfl) (fun j => K2 139 j rfl) (fun j => K2 140 j rfl)
    show PV _ _ _ _ _ _ _ 563 [.retAddr (b + 1), .ref 0, .ref 123, .int i] [.long v] _
    refine pv_pop2 (M := mL_law) dL_law_563 564 rfl rfl ?_
    refine pv_goto (M := mL_law) (tgt := 1191) dL_law_564 (by decide) ?_
    exact kk _ _ _ _ _ _ ⟨I2, ⟨la, lb, R⟩, hL2, hT, hK, (EQ_kr I R hE K2 (by decide) (by decide))⟩
  obtain ⟨I, ⟨la, lb, R⟩, hL, hT, hK, hE⟩ := S
  refine pv_aload_n (M := mL_law) 1 dL_law_534 535 rfl rfl rfl ?_
  refine pv_aloadS_n (M := mL_law) 0 dL_law_535 536 rfl rfl rfl ?_
  refine pv_iload_n (M := mL_law) 3 dL_law_536 537 rfl rfl rfl ?_
  refine pv_iconst (M := mL_law) (v := 1) dL_law_537 538 rfl (by decide) ?_
  refine iv_iadd (M := mL_law) (X := i.toInt) (Y := 1) dL_law_538 539 rfl rfl (by decide) (by omega) (by omega) (fun a1 ea1 => ?_)
  refine pv_sld (M := mL_law) dL_law_539 (iv_in (X := i.toInt + 1) ea1 (by omega) (by omega)) (sv_eq (k := 1) ea1) 540 rfl ?_
  refine pv_aloadS_n (M := mL_law) 0 dL_law_540 541 rfl rfl rfl ?_
  refine pv_iload_n (M := mL_law) 3 dL_law_541 542 rfl rfl rfl ?_
  refine pv_iconst (M := mL_law) (v := 2) dL_law_542 543 rfl (by decide) ?_
  refine iv_iadd (M := mL_law) (X := i.toInt) (Y := 2) dL_law_543 544 rfl rfl (by decide) (by omega) (by omega) (fun a2 ea2 => ?_)
  refine pv_sld (M := mL_law) dL_law_544 (iv_in (X := i.toInt + 2) ea2 (by omega) (by omega)) (sv_eq (k := 2) ea2) 545 rfl ?_
  refine pv_callv (M := mL_law) (as := [.int (sv xs i 1), .int (sv xs i 2)]) (st := []) (kc2 := kc) (ks2 := ks) dL_law_545 wd824 YX11_ways ⟨wd825, wd826⟩ (mk_get (tl0 hT)) rfl rfl (s_X11_ways g hT I R (sv xs i 1) (sv xs i 2)) rfl rfl (Nat.le_of_ble_eq_true rfl) (by decide) (Nat.zero_add _) (Nat.zero_add _) 548 rfl (fun rv h1 q => ?_)
  obtain ⟨m2, n2, v, rfl, rfl, I2, K2, _⟩ := q
  exact after _ _ _ _ _ _ _ ⟨I2, ⟨la, lb, R⟩, (LX_eq hL (K2 123 20 rfl) (fun j => K2 136 j rfl) (fun j => K2 138 j rfl) (fun j => K2 139 j rfl) (fun j => K2 140 j rfl)), hT, hK, (EQ_kc I R R hE K2)⟩

set_option maxHeartbeats 4000000 in
set_option maxRecDepth 20000 in
theorem lx_c11 (g : pv_G) {b LL : Nat} {xs : Nat → Int32} {i : Int32} (hLL : LL ≤ 3072) (hi0 : 0 ≤ i.toInt) (hi6 : i.toInt + 6 ≤ LL) {T : List mv_T} {m : Nat → Nat → Int32} {n : Nat → Nat → Int64} {r : Nat → Value} {kc ks : Nat} (S : ST T r m kc ks) (kk : ∀ (T : List mv_T) (m : Nat → Nat → Int32) (n : Nat → Nat → Int64) (r : Nat → Value) (kc ks : Nat), ST T r m kc ks → PV (some (b, LL, xs)) g mL_law (fun r _ => r = some (.int 1)) 30 kc ks 1191 [.retAddr (b + 1), .ref 0, .ref 123, .int i] [] (mk T m n r)) : PV (some (b, LL, xs)) g mL_law (fun r _ => r = some (.int 1)) 30 kc ks 567 [.retAddr (b + 1), .ref 0, .ref 123, .int i] [] (mk T m n r) := by
  obtain ⟨I, ⟨la, lb, R⟩, hL, hT, hK, hE⟩ := S
  have hA := hE la lb R.2.2.1 R.2.2.2.1
  have zR := R.2.2.2.2.1.1
  have zR2 := R.2.2.2.2.2.1
  obtain ⟨t, hLc, hLr, hLn⟩ := hA.2.2.2.2.2.1
  have hRS := hA.2.2.1
  have hBI := hA.2.2.2.2.1
  have after : ∀ (T : List mv_T) (m1 : Nat → Nat → Int32) (n1 : Nat → Nat → Int64) (r1 : Nat → Value) (kc ks : Nat) (w : Int32), ST0 T r1 m1 kc ks → ((CHPc ((0 ≤ (sv xs i 1).toInt ∧ (sv xs i 1).toInt < (m 0 2).toInt) ∧ (ddv m (sv xs i 2)).toInt = 1 ∧ (0 ≤ (sv xs i 3).toInt ∧ (sv xs i 3).toInt ≤ 7) ∧ -1 ≤ (sv xs i 4).toInt ∧ (sv xs i 4).toInt < (m (61 + 2 * (sv xs i 2).toInt.toNat) 1).toInt) m la t (sv xs i 1).toInt.toNat (sv xs i 3).toInt (m (4 + 7 * (sv xs i 1).toInt.toNat + 4)) (m (62 + 2 * (sv xs i 2).toInt.toNat)) (m (4 + 7 * (sv xs i 1).toInt.toNat + 3) 1).toInt.toNat (m (61 + 2 * (sv xs i 2).toInt.toNat) 1).toInt.toNat (sv xs i 4) w.toInt) ∧ fr wN m m1 ∧ r1 = r) → PV (some (b, LL, xs)) g mL_law (fun r _ => r = some (.int 1)) 30 kc ks 591 [.retAddr (b + 1), .ref 0, .ref 123, .int i] [.int w] (mk T m1 n1 r1) := by
    intro T m1 n1 r1 kc ks w S1 hf
    obtain ⟨I1, ⟨la1, lb1, R1⟩, hL1, hT, hK1⟩ := S1
    have hr := hf.2.2
    subst hr
    have hLr1 : LAWr m1 t (m1 123 20).toInt.toNat := by rw [hf.2.1 123 20 rfl]; exact LAWr_c hLr (fun a i q => hf.2.1 a i (wN_wO a i q))
    refine pv_pop (M := mL_law) dL_law_591 592 rfl rfl ?_
    refine pv_aload_n (M := mL_law) 2 dL_law_592 593 rfl rfl rfl ?_
    refine pv_aloadS_n (M := mL_law) 0 dL_law_593 594 rfl rfl rfl ?_
    refine pv_iload_n (M := mL_law) 3 dL_law_594 595 rfl rfl rfl ?_
    refine pv_iconst (M := mL_law) (v := 1) dL_law_595 596 rfl (by decide) ?_
    refine iv_iadd (M := mL_law) (X := i.toInt) (Y := 1) dL_law_596 597 rfl rfl (by decide) (by omega) (by omega) (fun u1 eu1 => ?_)
    refine pv_sld (M := mL_law) dL_law_597 (iv_in (X := i.toInt + 1) eu1 (by omega) (by omega)) (sv_eq (k := 1) eu1) 598 rfl ?_
    refine pv_aloadS_n (M := mL_law) 0 dL_law_598 599 rfl rfl rfl ?_
    refine pv_iload_n (M := mL_law) 3 dL_law_599 600 rfl rfl rfl ?_
    refine pv_iconst (M := mL_law) (v := 2) dL_law_600 601 rfl (by decide) ?_
    refine iv_iadd (M := mL_law) (X := i.toInt) (Y := 2) dL_law_601 602 rfl rfl (by decide) (by omega) (by omega) (fun u2 eu2 => ?_)
    refine pv_sld (M := mL_law) dL_law_602 (iv_in (X := i.toInt + 2) eu2 (by omega) (by omega)) (sv_eq (k := 2) eu2) 603 rfl ?_
    refine pv_aloadS_n (M := mL_law) 0 dL_law_603 604 rfl rfl rfl ?_
    refine pv_iload_n (M := mL_law) 3 dL_law_604 605 rfl rfl rfl ?_
    refine pv_iconst (M := mL_law) (v := 3) dL_law_605 606 rfl (by decide) ?_
    refine iv_iadd (M := mL_law) (X := i.toInt) (Y := 3) dL_law_606 607 rfl rfl (by decide) (by omega) (by omega) (fun u3 eu3 => ?_)
    refine pv_sld (M := mL_law) dL_law_607 (iv_in (X := i.toInt + 3) eu3 (by omega) (by omega)) (sv_eq (k := 3) eu3) 608 rfl ?_
    refine pv_aloadS_n (M := mL_law) 0 dL_law_608 609 rfl rfl rfl ?_
    refine pv_iload_n (M := mL_law) 3 dL_law_609 610 rfl rfl rfl ?_
    refine pv_iconst (M := mL_law) (v := 4) dL_law_610 611 rfl (by decide) ?_
    refine iv_iadd (M := mL_law) (X := i.toInt) (Y := 4) dL_law_611 612 rfl rfl (by decide) (by omega) (by omega) (fun u4 eu4 => ?_)
    refine pv_sld (M := mL_law) dL_law_612 (iv_in (X := i.toInt + 4) eu4 (by omega) (by omega)) (sv_eq (k := 4) eu4) 613 rfl ?_
    refine pv_callv (M := mL_law) (as := [.int (sv xs i 1), .int (sv xs i 2), .int (sv xs i 3), .int (sv xs i 4)]) (st := []) (kc2 := kc) (ks2 := ks) dL_law_613 wd1571 YX12_cheapest ⟨wd1572, wd1573⟩ (mk_get (tl123 hT)) rfl rfl (s_X12_cheapest_va g hT I1 (sv xs i 1) (sv xs i 2) (sv xs i 3) (sv xs i 4) t hL1 hLr1) rfl rfl (Nat.le_of_ble_eq_true rfl) (by decide) (Nat.zero_add _) (Nat.zero_add _) 616 rfl (fun rv h1 q => ?_)
    obtain ⟨m2, n2, v, rfl, rfl, I2, K2, _, _, P2⟩ := q
    have hL2 : LX m2 := LX_eq hL1 (K2 123 20 rfl) (fun j => K2 136 j rfl) (fun j => K2 138 j rfl) (fun j => K2 139 j rfl) (fun j => K2 140 j rfl)
    have Z := cheapest_EA I zR hA hf.1 P2 hf.2.1 (fun a i q => K2 a i (wl_nR (by decide) q)) (fun a i q => K2 a i (wl_nF (by decide) q))
    have Y := Z.2
    show PV _ _ _ _ _ _ _ 616 [.retAddr (b + 1), .ref 0, .ref 123, .int i] [.int v] _
    refine pv_pop (M := mL_law) dL_law_616 617 rfl rfl ?_
    refine pv_goto (M := mL_law) (tgt := 1191) dL_law_617 (by decide) ?_
    exact kk _ _ _ _ _ _ ⟨I2, ⟨la1, lb1, R1⟩, hL2, hT, hK1, EQ_of R Y⟩
  refine pv_aload_n (M := mL_law) 1 dL_law_567 568 rfl rfl rfl ?_
  refine pv_aloadS_n (M := mL_law) 0 dL_law_568 569 rfl rfl rfl ?_
  refine pv_iload_n (M := mL_law) 3 dL_law_569 570 rfl rfl rfl ?_
  refine pv_iconst (M := mL_law) (v := 1) dL_law_570 571 rfl (by decide) ?_
  refine iv_iadd (M := mL_law) (X := i.toInt) (Y := 1) dL_law_571 572 rfl rfl (by decide) (by omega) (by omega) (fun a1 ea1 => ?_)
  refine pv_sld (M := mL_law) dL_law_572 (iv_in (X := i.toInt + 1) ea1 (by omega) (by omega)) (sv_eq (k := 1) ea1) 573 rfl ?_
  refine pv_aloadS_n (M := mL_law) 0 dL_law_573 574 rfl rfl rfl ?_
  refine pv_iload_n (M := mL_law) 3 dL_law_574 575 rfl rfl rfl ?_
  refine pv_iconst (M := mL_law) (v := 2) dL_law_575 576 rfl (by decide) ?_
  refine iv_iadd (M := mL_law) (X := i.toInt) (Y := 2) dL_law_576 577 rfl rfl (by decide) (by omega) (by omega) (fun a2 ea2 => ?_)
  refine pv_sld (M := mL_law) dL_law_577 (iv_in (X := i.toInt + 2) ea2 (by omega) (by omega)) (sv_eq (k := 2) ea2) 578 rfl ?_
  refine pv_aloadS_n (M := mL_law) 0 dL_law_578 579 rfl rfl rfl ?_
  refine pv_iload_n (M := mL_law) 3 dL_law_579 580 rfl rfl rfl ?_
  refine pv_iconst (M := mL_law) (v := 3) dL_law_580 581 rfl (by decide) ?_
  refine iv_iadd (M := mL_law) (X := i.toInt) (Y := 3) dL_law_581 582 rfl rfl (by decide) (by omega) (by omega) (fun a3 ea3 => ?_)
  refine pv_sld (M := mL_law) dL_law_582 (iv_in (X := i.toInt + 3) ea3 (by omega) (by omega)) (sv_eq (k := 3) ea3) 583 rfl ?_
  refine pv_aloadS_n (M := mL_law) 0 dL_law_583 584 rfl rfl rfl ?_
  refine pv_iload_n (M := mL_law) 3 dL_law_584 585 rfl rfl rfl ?_
  refine pv_iconst (M := mL_law) (v := 4) dL_law_585 586 rfl (by decide) ?_
  refine iv_iadd (M := mL_law) (X := i.toInt) (Y := 4) dL_law_586 587 rfl rfl (by decide) (by omega) (by omega) (fun a4 ea4 => ?_)
  refine pv_sld (M := mL_law) dL_law_587 (iv_in (X := i.toInt + 4) ea4 (by omega) (by omega)) (sv_eq (k := 4) ea4) 588 rfl ?_
  refine pv_callv (M := mL_law) (as := [.int (sv xs i 1), .int (sv xs i 2), .int (sv xs i 3), .int (sv xs i 4)]) (st := []) (kc2 := kc) (ks2 := ks) dL_law_588 wd845 YX11_cheapest ⟨wd846, wd847⟩ (mk_get (tl0 hT)) rfl rfl (s_X11_cheapest_va g hT I R (sv xs i 1) (sv xs i 2) (sv xs i 3) (sv xs i 4) t hRS hLc) rfl rfl (Nat.le_of_ble_eq_true rfl) (by decide) (Nat.zero_add _) (Nat.zero_add _) 591 rfl (fun rv h1 q => ?_)
  obtain ⟨m2, n2, v, rfl, rfl, I2, K2, _, _, P2⟩ := q
  exact after _ _ _ _ _ _ _ ⟨I2, ⟨la, lb, R⟩, (LX_eq hL (K2 123 20 rfl) (fun j => K2 136 j rfl) (fun j => K2 138 j rfl) (fun j => K2 139 j rfl) (fun j => K2 140 j rfl)), hT, hK⟩ ⟨P2, K2, rfl⟩

set_option maxHeartbeats 4000000 in
set_option maxRecDepth 20000 in
theorem lx_c12 (g : pv_G) {b LL : Nat} {xs : Nat → Int32} {i : Int32} (hLL : LL ≤ 3072) (hi0 : 0 ≤ i.toInt) (hi6 : i.toInt + 6 ≤ LL) {T : List mv_T} {m : Nat → Nat → Int32} {n : Nat → Nat → Int64} {r : Nat → Value} {kc ks : Nat} (S : ST T r m kc ks) (kk : ∀ (T : List mv_T) (m : Nat → Nat → Int32) (n : Nat → Nat → Int64) (r : Nat → Value) (kc ks : Nat), ST T r m kc ks → PV (some (b, LL, xs)) g mL_law (fun r _ => r = some (.int 1)) 30 kc ks 1191 [.retAddr (b + 1), .ref 0, .ref 123, .int i] [] (mk T m n r)) : PV (some (b, LL, xs)) g mL_law (fun r _ => r = some (.int 1)) 30 kc ks 620 [.retAddr (b + 1), .ref 0, .ref 123, .int i] [] (mk T m n r) := by
  obtain ⟨I, ⟨la, lb, R⟩, hL, hT, hK, hE⟩ := S
  have hA := hE la lb R.2.2.1 R.2.2.2.1
  have zR := R.2.2.2.2.1.1
  have zR2 := R.2.2.2.2.2.1
  obtain ⟨t, hLc, hLr, hLn⟩ := hA.2.2.2.2.2.1
  have hRS := hA.2.2.1
  have hBI := hA.2.2.2.2.1
  have after : ∀ (T : List mv_T) (m1 : Nat → Nat → Int32) (n1 : Nat → Nat → Int64) (r1 : Nat → Value) (kc ks : Nat) (w : Int32), ST0 T r1 m1 kc ks → ((DONc ((0 ≤ (sv xs i 1).toInt ∧ (sv xs i 1).toInt < (m 0 2).toInt) ∧ (ddv m (sv xs i 2)).toInt = 1 ∧ 0 ≤ (sv xs i 3).toInt ∧ (sv xs i 3).toInt ≤ 7) m m1 la t (sv xs i 1).toInt.toNat (sv xs i 3) (m (4 + 7 * (sv xs i 1).toInt.toNat + 4)) (m (62 + 2 * (sv xs i 2).toInt.toNat)) (m (4 + 7 * (sv xs i 1).toInt.toNat + 3) 1).toInt.toNat (m (61 + 2 * (sv xs i 2).toInt.toNat) 1).toInt.toNat w.toInt) ∧ fr wO m m1 ∧ r1 = r) → PV (some (b, LL, xs)) g mL_law (fun r _ => r = some (.int 1)) 30 kc ks 639 [.retAddr (b + 1), .ref 0, .ref 123, .int i] [.int w] (mk T m1 n1 r1) := by
    intro T m1 n1 r1 kc ks w S1 hf
    obtain ⟨I1, ⟨la1, lb1, R1⟩, hL1, hT, hK1⟩ := S1
    have hr := hf.2.2
    subst hr
    have hLr1 : LAWr m1 t (m1 123 20).toInt.toNat := by rw [hf.2.1 123 20 rfl]; exact LAWr_c hLr hf.2.1
    refine pv_pop (M := mL_law) dL_law_639 640 rfl rfl ?_
    refine pv_aload_n (M := mL_law) 2 dL_law_640 641 rfl rfl rfl ?_
    refine pv_aloadS_n (M := mL_law) 0 dL_law_641 642 rfl rfl rfl ?_
    refine pv_iload_n (M := mL_law) 3 dL_law_642 643 rfl rfl rfl ?_
    refine pv_iconst (M := mL_law) (v := 1) dL_law_643 644 rfl (by decide) ?_
    refine iv_iadd (M := mL_law) (X := i.toInt) (Y := 1) dL_law_644 645 rfl rfl (by decide) (by omega) (by omega) (fun u1 eu1 => ?_)
    refine pv_sld (M := mL_law) dL_law_645 (iv_in (X := i.toInt + 1) eu1 (by omega) (by omega)) (sv_eq (k := 1) eu1) 646 rfl ?_
    refine pv_aloadS_n (M := mL_law) 0 dL_law_646 647 rfl rfl rfl ?_
    refine pv_iload_n (M := mL_law) 3 dL_law_647 648 rfl rfl rfl ?_
    refine pv_iconst (M := mL_law) (v := 2) dL_law_648 649 rfl (by decide) ?_
    refine iv_iadd (M := mL_law) (X := i.toInt) (Y := 2) dL_law_649 650 rfl rfl (by decide) (by omega) (by omega) (fun u2 eu2 => ?_)
    refine pv_sld (M := mL_law) dL_law_650 (iv_in (X := i.toInt + 2) eu2 (by omega) (by omega)) (sv_eq (k := 2) eu2) 651 rfl ?_
    refine pv_aloadS_n (M := mL_law) 0 dL_law_651 652 rfl rfl rfl ?_
    refine pv_iload_n (M := mL_law) 3 dL_law_652 653 rfl rfl rfl ?_
    refine pv_iconst (M := mL_law) (v := 3) dL_law_653 654 rfl (by decide) ?_
    refine iv_iadd (M := mL_law) (X := i.toInt) (Y := 3) dL_law_654 655 rfl rfl (by decide) (by omega) (by omega) (fun u3 eu3 => ?_)
    refine pv_sld (M := mL_law) dL_law_655 (iv_in (X := i.toInt + 3) eu3 (by omega) (by omega)) (sv_eq (k := 3) eu3) 656 rfl ?_
    refine pv_callv (M := mL_law) (as := [.int (sv xs i 1), .int (sv xs i 2), .int (sv xs i 3)]) (st := []) (kc2 := kc) (ks2 := ks) dL_law_656 wd1595 YX12_done ⟨wd1596, wd1597⟩ (mk_get (tl123 hT)) rfl rfl (s_X12_done_va g hT I1 (sv xs i 1) (sv xs i 2) (sv xs i 3) t hL1 hLr1) rfl rfl (Nat.le_of_ble_eq_true rfl) (by decide) (Nat.zero_add _) (Nat.zero_add _) 659 rfl (fun rv h1 q => ?_)
    obtain ⟨m2, n2, v, rfl, rfl, I2, K2, _, _, P2⟩ := q
    have hL2 : LX m2 := LX_eq hL1 (K2 123 20 rfl) (fun j => K2 136 j rfl) (fun j => K2 138 j rfl) (fun j => K2 139 j rfl) (fun j => K2 140 j rfl)
    have Z := done_EA I zR hA hf.1 P2 hf.2.1 (fun a i q => K2 a i (wl_lo (by decide) q)) (fun a i q => K2 a i (wl_nF (by decide) q)) (K2 123 0 rfl) (fun j => K2 124 j rfl)
    have Y := Z.2
    show PV _ _ _ _ _ _ _ 659 [.retAddr (b + 1), .ref 0, .ref 123, .int i] [.int v] _
    refine pv_pop (M := mL_law) dL_law_659 660 rfl rfl ?_
    refine pv_goto (M := mL_law) (tgt := 1191) dL_law_660 (by decide) ?_
    exact kk _ _ _ _ _ _ ⟨I2, ⟨la1, lb1, R1⟩, hL2, hT, hK1, EQ_of R Y⟩
  refine pv_aload_n (M := mL_law) 1 dL_law_620 621 rfl rfl rfl ?_
  refine pv_aloadS_n (M := mL_law) 0 dL_law_621 622 rfl rfl rfl ?_
  refine pv_iload_n (M := mL_law) 3 dL_law_622 623 rfl rfl rfl ?_
  refine pv_iconst (M := mL_law) (v := 1) dL_law_623 624 rfl (by decide) ?_
  refine iv_iadd (M := mL_law) (X := i.toInt) (Y := 1) dL_law_624 625 rfl rfl (by decide) (by omega) (by omega) (fun a1 ea1 => ?_)
  refine pv_sld (M := mL_law) dL_law_625 (iv_in (X := i.toInt + 1) ea1 (by omega) (by omega)) (sv_eq (k := 1) ea1) 626 rfl ?_
  refine pv_aloadS_n (M := mL_law) 0 dL_law_626 627 rfl rfl rfl ?_
  refine pv_iload_n (M := mL_law) 3 dL_law_627 628 rfl rfl rfl ?_
  refine pv_iconst (M := mL_law) (v := 2) dL_law_628 629 rfl (by decide) ?_
  refine iv_iadd (M := mL_law) (X := i.toInt) (Y := 2) dL_law_629 630 rfl rfl (by decide) (by omega) (by omega) (fun a2 ea2 => ?_)
  refine pv_sld (M := mL_law) dL_law_630 (iv_in (X := i.toInt + 2) ea2 (by omega) (by omega)) (sv_eq (k := 2) ea2) 631 rfl ?_
  refine pv_aloadS_n (M := mL_law) 0 dL_law_631 632 rfl rfl rfl ?_
  refine pv_iload_n (M := mL_law) 3 dL_law_632 633 rfl rfl rfl ?_
  refine pv_iconst (M := mL_law) (v := 3) dL_law_633 634 rfl (by decide) ?_
  refine iv_iadd (M := mL_law) (X := i.toInt) (Y := 3) dL_law_634 635 rfl rfl (by decide) (by omega) (by omega) (fun a3 ea3 => ?_)
  refine pv_sld (M := mL_law) dL_law_635 (iv_in (X := i.toInt + 3) ea3 (by omega) (by omega)) (sv_eq (k := 3) ea3) 636 rfl ?_
  refine pv_callv (M := mL_law) (as := [.int (sv xs i 1), .int (sv xs i 2), .int (sv xs i 3)]) (st := []) (kc2 := kc) (ks2 := ks) dL_law_636 wd867 YX11_done ⟨wd868, wd869⟩ (mk_get (tl0 hT)) rfl rfl (s_X11_done_va g hT I R (sv xs i 1) (sv xs i 2) (sv xs i 3) t hRS hLc) rfl rfl (Nat.le_of_ble_eq_true rfl) (by decide) (Nat.zero_add _) (Nat.zero_add _) 639 rfl (fun rv h1 q => ?_)
  obtain ⟨m2, n2, v, rfl, rfl, I2, K2, _, _, P2⟩ := q
  exact after _ _ _ _ _ _ _ ⟨I2, ⟨la, lb, R⟩, (LX_eq hL (K2 123 20 rfl) (fun j => K2 136 j rfl) (fun j => K2 138 j rfl) (fun j => K2 139 j rfl) (fun j => K2 140 j rfl)), hT, hK⟩ ⟨P2, K2, rfl⟩

set_option maxHeartbeats 4000000 in
set_option maxRecDepth 20000 in
theorem lx_c13 (g : pv_G) {b LL : Nat} {xs : Nat → Int32} {i : Int32} (hLL : LL ≤ 3072) (hi0 : 0 ≤ i.toInt) (hi6 : i.toInt + 6 ≤ LL) {T : List mv_T} {m : Nat → Nat → Int32} {n : Nat → Nat → Int64} {r : Nat → Value} {kc ks : Nat} (S : ST T r m kc ks) (kk : ∀ (T : List mv_T) (m : Nat → Nat → Int32) (n : Nat → Nat → Int64) (r : Nat → Value) (kc ks : Nat), ST T r m kc ks → PV (some (b, LL, xs)) g mL_law (fun r _ => r = some (.int 1)) 30 kc ks 1191 [.retAddr (b + 1), .ref 0, .ref 123, .int i] [] (mk T m n r)) : PV (some (b, LL, xs)) g mL_law (fun r _ => r = some (.int 1)) 30 kc ks 663 [.retAddr (b + 1), .ref 0, .ref 123, .int i] [] (mk T m n r) := by
  have after : ∀ (T : List mv_T) (m : Nat → Nat → Int32) (n : Nat → Nat → Int64) (r : Nat → Value) (kc ks : Nat) (w : Int32), ST T r m kc ks → PV (some (b, LL, xs)) g mL_law (fun r _ => r = some (.int 1)) 30 kc ks 682 [.retAddr (b + 1), .ref 0, .ref 123, .int i] [.int w] (mk T m n r) := by
    intro T m n r kc ks w S
    obtain ⟨I, ⟨la, lb, R⟩, hL, hT, hK, hE⟩ := S
    refine pv_pop (M := mL_law) dL_law_682 683 rfl rfl ?_
    refine pv_aload_n (M := mL_law) 2 dL_law_683 684 rfl rfl rfl ?_
    refine pv_aloadS_n (M := mL_law) 0 dL_law_684 685 rfl rfl rfl ?_
    refine pv_iload_n (M := mL_law) 3 dL_law_685 686 rfl rfl rfl ?_
    refine pv_iconst (M := mL_law) (v := 1) dL_law_686 687 rfl (by decide) ?_
    refine iv_iadd (M := mL_law) (X := i.toInt) (Y := 1) dL_law_687 688 rfl rfl (by decide) (by omega) (by omega) (fun u1 eu1 => ?_)
    refine pv_sld (M := mL_law) dL_law_688 (iv_in (X := i.toInt + 1) eu1 (by omega) (by omega)) (sv_eq (k := 1) eu1) 689 rfl ?_
    refine pv_aloadS_n (M := mL_law) 0 dL_law_689 690 rfl rfl rfl ?_
    refine pv_iload_n (M := mL_law) 3 dL_law_690 691 rfl rfl rfl ?_
    refine pv_iconst (M := mL_law) (v := 2) dL_law_691 692 rfl (by decide) ?_
    refine iv_iadd (M := mL_law) (X := i.toInt) (Y := 2) dL_law_692 693 rfl rfl (by decide) (by omega) (by omega) (fun u2 eu2 => ?_)
    refine pv_sld (M := mL_law) dL_law_693 (iv_in (X := i.toInt + 2) eu2 (by omega) (by omega)) (sv_eq (k := 2) eu2) 694 rfl ?_
    refine pv_aloadS_n (M := mL_law) 0 dL_law_694 695 rfl rfl rfl ?_
    refine pv_iload_n (M := mL_law) 3 dL_law_695 696 rfl rfl rfl ?_
    refine pv_iconst (M := mL_law) (v := 3) dL_law_696 697 rfl (by decide) ?_
    refine iv_iadd (M := mL_law) (X := i.toInt) (Y := 3) dL_law_697 698 rfl rfl (by decide) (by omega) (by omega) (fun u3 eu3 => ?_)
    refine pv_sld (M := mL_law) dL_law_698 (iv_in (X := i.toInt + 3) eu3 (by omega) (by omega)) (sv_eq (k := 3) eu3) 699 rfl ?_
    refine pv_callv (M := mL_law) (as := [.int (sv xs i 1), .int (sv xs i 2), .int (sv xs i 3)]) (st := []) (kc2 := kc) (ks2 := ks) dL_law_699 wd1603 YX12_strokes ⟨wd1604, wd1605⟩ (mk_get (tl123 hT)) rfl rfl (s_X12_strokes g hT I (sv xs i 1) (sv xs i 2) (sv xs i 3)) rfl rfl (Nat.le_of_ble_eq_true rfl) (by decide) (Nat.zero_add _) (Nat.zero_add _) 702 rfl (fun rv h1 q => ?_)
    obtain ⟨m2, n2, v, rfl, rfl, I2, K2, _, _, P2⟩ := q
    have hL2 : LX m2 := LX_eq hL (K2 123 20 rfl) (fun j => K2 136 j rfl) (fun j => K2 138 j rfl) (fun j => K2 139 j rfl) (fun j => K2 140 j rfl)
    show PV _ _ _ _ _ _ _ 702 [.retAddr (b + 1), .ref 0, .ref 123, .int i] [.int v] _
    refine pv_pop (M := mL_law) dL_law_702 703 rfl rfl ?_
    refine pv_goto (M := mL_law) (tgt := 1191) dL_law_703 (by decide) ?_
    exact kk _ _ _ _ _ _ ⟨I2, ⟨la, lb, R⟩, hL2, hT, hK, (EQ_kr I R hE K2 (by decide) (by decide))⟩
  obtain ⟨I, ⟨la, lb, R⟩, hL, hT, hK, hE⟩ := S
  refine pv_aload_n (M := mL_law) 1 dL_law_663 664 rfl rfl rfl ?_
  refine pv_aloadS_n (M := mL_law) 0 dL_law_664 665 rfl rfl rfl ?_
  refine pv_iload_n (M := mL_law) 3 dL_law_665 666 rfl rfl rfl ?_
  refine pv_iconst (M := mL_law) (v := 1) dL_law_666 667 rfl (by decide) ?_
  refine iv_iadd (M := mL_law) (X := i.toInt) (Y := 1) dL_law_667 668 rfl rfl (by decide) (by omega) (by omega) (fun a1 ea1 => ?_)
  refine pv_sld (M := mL_law) dL_law_668 (iv_in (X := i.toInt + 1) ea1 (by omega) (by omega)) (sv_eq (k := 1) ea1) 669 rfl ?_
  refine pv_aloadS_n (M := mL_law) 0 dL_law_669 670 rfl rfl rfl ?_
  refine pv_iload_n (M := mL_law) 3 dL_law_670 671 rfl rfl rfl ?_
  refine pv_iconst (M := mL_law) (v := 2) dL_law_671 672 rfl (by decide) ?_
  refine iv_iadd (M := mL_law) (X := i.toInt) (Y := 2) dL_law_672 673 rfl rfl (by decide) (by omega) (by omega) (fun a2 ea2 => ?_)
  refine pv_sld (M := mL_law) dL_law_673 (iv_in (X := i.toInt + 2) ea2 (by omega) (by omega)) (sv_eq (k := 2) ea2) 674 rfl ?_
  refine pv_aloadS_n (M := mL_law) 0 dL_law_674 675 rfl rfl rfl ?_
  refine pv_iload_n (M := mL_law) 3 dL_law_675 676 rfl rfl rfl ?_
  refine pv_iconst (M := mL_law) (v := 3) dL_law_676 677 rfl (by decide) ?_
  refine iv_iadd (M := mL_law) (X := i.toInt) (Y := 3) dL_law_677 678 rfl rfl (by decide) (by omega) (by omega) (fun a3 ea3 => ?_)
  refine pv_sld (M := mL_law) dL_law_678 (iv_in (X := i.toInt + 3) ea3 (by omega) (by omega)) (sv_eq (k := 3) ea3) 679 rfl ?_
  refine pv_callv (M := mL_law) (as := [.int (sv xs i 1), .int (sv xs i 2), .int (sv xs i 3)]) (st := []) (kc2 := kc) (ks2 := ks) dL_law_679 wd884 YX11_strokes ⟨wd885, wd886⟩ (mk_get (tl0 hT)) rfl rfl (s_X11_strokes g hT I R (sv xs i 1) (sv xs i 2) (sv xs i 3)) rfl rfl (Nat.le_of_ble_eq_true rfl) (by decide) (Nat.zero_add _) (Nat.zero_add _) 682 rfl (fun rv h1 q => ?_)
  obtain ⟨m2, n2, v, rfl, rfl, I2, K2, _, _, P2⟩ := q
  exact after _ _ _ _ _ _ _ ⟨I2, ⟨la, lb, R⟩, (LX_eq hL (K2 123 20 rfl) (fun j => K2 136 j rfl) (fun j => K2 138 j rfl) (fun j => K2 139 j rfl) (fun j => K2 140 j rfl)), hT, hK, (EQ_kc I R R hE K2)⟩

set_option maxHeartbeats 4000000 in
set_option maxRecDepth 20000 in
theorem lx_c14 (g : pv_G) {b LL : Nat} {xs : Nat → Int32} {i : Int32} (hLL : LL ≤ 3072) (hi0 : 0 ≤ i.toInt) (hi6 : i.toInt + 6 ≤ LL) {T : List mv_T} {m : Nat → Nat → Int32} {n : Nat → Nat → Int64} {r : Nat → Value} {kc ks : Nat} (S : ST T r m kc ks) (kk : ∀ (T : List mv_T) (m : Nat → Nat → Int32) (n : Nat → Nat → Int64) (r : Nat → Value) (kc ks : Nat), ST T r m kc ks → PV (some (b, LL, xs)) g mL_law (fun r _ => r = some (.int 1)) 30 kc ks 1191 [.retAddr (b + 1), .ref 0, .ref 123, .int i] [] (mk T m n r)) : PV (some (b, LL, xs)) g mL_law (fun r _ => r = some (.int 1)) 30 kc ks 706 [.retAddr (b + 1), .ref 0, .ref 123, .int i] [] (mk T m n r) := by
  have after : ∀ (T : List mv_T) (m : Nat → Nat → Int32) (n : Nat → Nat → Int64) (r : Nat → Value) (kc ks : Nat) (w : Int64), ST T r m kc ks → PV (some (b, LL, xs)) g mL_law (fun r _ => r = some (.int 1)) 30 kc ks 725 [.retAddr (b + 1), .ref 0, .ref 123, .int i] [.long w] (mk T m n r) := by
    intro T m n r kc ks w S
    obtain ⟨I, ⟨la, lb, R⟩, hL, hT, hK, hE⟩ := S
    refine pv_pop2 (M := mL_law) dL_law_725 726 rfl rfl ?_
    refine pv_aload_n (M := mL_law) 2 dL_law_726 727 rfl rfl rfl ?_
    refine pv_aloadS_n (M := mL_law) 0 dL_law_727 728 rfl rfl rfl ?_
    refine pv_iload_n (M := mL_law) 3 dL_law_728 729 rfl rfl rfl ?_
    refine pv_iconst (M := mL_law) (v := 1) dL_law_729 730 rfl (by decide) ?_
    refine iv_iadd (M := mL_law) (X := i.toInt) (Y := 1) dL_law_730 731 rfl rfl (by decide) (by omega) (by omega) (fun u1 eu1 => ?_)
    refine pv_sld (M := mL_law) dL_law_731 (iv_in (X := i.toInt + 1) eu1 (by omega) (by omega)) (sv_eq (k := 1) eu1) 732 rfl ?_
    refine pv_aloadS_n (M := mL_law) 0 dL_law_732 733 rfl rfl rfl ?_
    refine pv_iload_n (M := mL_law) 3 dL_law_733 734 rfl rfl rfl ?_
    refine pv_iconst (M := mL_law) (v := 2) dL_law_734 735 rfl (by decide) ?_
    refine iv_iadd (M := mL_law) (X := i.toInt) (Y := 2) dL_law_735 736 rfl rfl (by decide) (by omega) (by omega) (fun u2 eu2 => ?_)
    refine pv_sld (M := mL_law) dL_law_736 (iv_in (X := i.toInt + 2) eu2 (by omega) (by omega)) (sv_eq (k := 2) eu2) 737 rfl ?_
    refine pv_aloadS_n (M := mL_law) 0 dL_law_737 738 rfl rfl rfl ?_
    refine pv_iload_n (M := mL_law) 3 dL_law_738 739 rfl rfl rfl ?_
    refine pv_iconst (M := mL_law) (v := 3) dL_law_739 740 rfl (by decide) ?_
    refine iv_iadd (M := mL_law) (X := i.toInt) (Y := 3) dL_law_740 741 rfl rfl (by decide) (by omega) (by omega) (fun u3 eu3 => ?_)
    refine pv_sld (M := mL_law) dL_law_741 (iv_in (X := i.toInt + 3) eu3 (by omega) (by omega)) (sv_eq (k := 3) eu3) 742 rfl ?_
    refine pv_callv (M := mL_law) (as := [.int (sv xs i 1), .int (sv xs i 2), .int (sv xs i 3)]) (st := []) (kc2 := kc) (ks2 := ks) dL_law_742 wd1614 YX12_even ⟨wd1615, wd1616⟩ (mk_get (tl123 hT)) rfl rfl (s_X12_even g hT I (sv xs i 1) (sv xs i 2) (sv xs i 3)) rfl rfl (Nat.le_of_ble_eq_true rfl) (by decide) (Nat.zero_add _) (Nat.zero_add _) 745 rfl (fun rv h1 q => ?_)
    obtain ⟨m2, n2, v, rfl, rfl, I2, K2, _⟩ := q
    have hL2 : LX m2 := LX_eq hL (K2 123 20 rfl) (fun j => K2 136 j rfl) (fun j => K2 138 j rfl) (fun j => K2 139 j rfl) (fun j => K2 140 j rfl)
    show PV _ _ _ _ _ _ _ 745 [.retAddr (b + 1), .ref 0, .ref 123, .int i] [.long v] _
    refine pv_pop2 (M := mL_law) dL_law_745 746 rfl rfl ?_
    refine pv_goto (M := mL_law) (tgt := 1191) dL_law_746 (by decide) ?_
    exact kk _ _ _ _ _ _ ⟨I2, ⟨la, lb, R⟩, hL2, hT, hK, (EQ_kr I R hE K2 (by decide) (by decide))⟩
  obtain ⟨I, ⟨la, lb, R⟩, hL, hT, hK, hE⟩ := S
  refine pv_aload_n (M := mL_law) 1 dL_law_706 707 rfl rfl rfl ?_
  refine pv_aloadS_n (M := mL_law) 0 dL_law_707 708 rfl rfl rfl ?_
  refine pv_iload_n (M := mL_law) 3 dL_law_708 709 rfl rfl rfl ?_
  refine pv_iconst (M := mL_law) (v := 1) dL_law_709 710 rfl (by decide) ?_
  refine iv_iadd (M := mL_law) (X := i.toInt) (Y := 1) dL_law_710 711 rfl rfl (by decide) (by omega) (by omega) (fun a1 ea1 => ?_)
  refine pv_sld (M := mL_law) dL_law_711 (iv_in (X := i.toInt + 1) ea1 (by omega) (by omega)) (sv_eq (k := 1) ea1) 712 rfl ?_
  refine pv_aloadS_n (M := mL_law) 0 dL_law_712 713 rfl rfl rfl ?_
  refine pv_iload_n (M := mL_law) 3 dL_law_713 714 rfl rfl rfl ?_
  refine pv_iconst (M := mL_law) (v := 2) dL_law_714 715 rfl (by decide) ?_
  refine iv_iadd (M := mL_law) (X := i.toInt) (Y := 2) dL_law_715 716 rfl rfl (by decide) (by omega) (by omega) (fun a2 ea2 => ?_)
  refine pv_sld (M := mL_law) dL_law_716 (iv_in (X := i.toInt + 2) ea2 (by omega) (by omega)) (sv_eq (k := 2) ea2) 717 rfl ?_
  refine pv_aloadS_n (M := mL_law) 0 dL_law_717 718 rfl rfl rfl ?_
  refine pv_iload_n (M := mL_law) 3 dL_law_718 719 rfl rfl rfl ?_
  refine pv_iconst (M := mL_law) (v := 3) dL_law_719 720 rfl (by decide) ?_
  refine iv_iadd (M := mL_law) (X := i.toInt) (Y := 3) dL_law_720 721 rfl rfl (by decide) (by omega) (by omega) (fun a3 ea3 => ?_)
  refine pv_sld (M := mL_law) dL_law_721 (iv_in (X := i.toInt + 3) ea3 (by omega) (by omega)) (sv_eq (k := 3) ea3) 722 rfl ?_
  refine pv_callv (M := mL_law) (as := [.int (sv xs i 1), .int (sv xs i 2), .int (sv xs i 3)]) (st := []) (kc2 := kc) (ks2 := ks) dL_law_722 wd905 YX11_even ⟨wd906, wd907⟩ (mk_get (tl0 hT)) rfl rfl (s_X11_even g hT I R (sv xs i 1) (sv xs i 2) (sv xs i 3)) rfl rfl (Nat.le_of_ble_eq_true rfl) (by decide) (Nat.zero_add _) (Nat.zero_add _) 725 rfl (fun rv h1 q => ?_)
  obtain ⟨m2, n2, v, rfl, rfl, I2, K2, _⟩ := q
  exact after _ _ _ _ _ _ _ ⟨I2, ⟨la, lb, R⟩, (LX_eq hL (K2 123 20 rfl) (fun j => K2 136 j rfl) (fun j => K2 138 j rfl) (fun j => K2 139 j rfl) (fun j => K2 140 j rfl)), hT, hK, (EQ_kc I R R hE K2)⟩

set_option maxHeartbeats 4000000 in
set_option maxRecDepth 20000 in
theorem lx_c15 (g : pv_G) {b LL : Nat} {xs : Nat → Int32} {i : Int32} (hLL : LL ≤ 3072) (hi0 : 0 ≤ i.toInt) (hi6 : i.toInt + 6 ≤ LL) {T : List mv_T} {m : Nat → Nat → Int32} {n : Nat → Nat → Int64} {r : Nat → Value} {kc ks : Nat} (S : ST T r m kc ks) (kk : ∀ (T : List mv_T) (m : Nat → Nat → Int32) (n : Nat → Nat → Int64) (r : Nat → Value) (kc ks : Nat), ST T r m kc ks → PV (some (b, LL, xs)) g mL_law (fun r _ => r = some (.int 1)) 30 kc ks 1191 [.retAddr (b + 1), .ref 0, .ref 123, .int i] [] (mk T m n r)) : PV (some (b, LL, xs)) g mL_law (fun r _ => r = some (.int 1)) 30 kc ks 749 [.retAddr (b + 1), .ref 0, .ref 123, .int i] [] (mk T m n r) := by
  have after : ∀ (T : List mv_T) (m : Nat → Nat → Int32) (n : Nat → Nat → Int64) (r : Nat → Value) (kc ks : Nat) (w : Int32), ST T r m kc ks → PV (some (b, LL, xs)) g mL_law (fun r _ => r = some (.int 1)) 30 kc ks 763 [.retAddr (b + 1), .ref 0, .ref 123, .int i] [.int w] (mk T m n r) := by
    intro T m n r kc ks w S
    obtain ⟨I, ⟨la, lb, R⟩, hL, hT, hK, hE⟩ := S
    refine pv_pop (M := mL_law) dL_law_763 764 rfl rfl ?_
    refine pv_aload_n (M := mL_law) 2 dL_law_764 765 rfl rfl rfl ?_
    refine pv_aloadS_n (M := mL_law) 0 dL_law_765 766 rfl rfl rfl ?_
    refine pv_iload_n (M := mL_law) 3 dL_law_766 767 rfl rfl rfl ?_
    refine pv_iconst (M := mL_law) (v := 1) dL_law_767 768 rfl (by decide) ?_
    refine iv_iadd (M := mL_law) (X := i.toInt) (Y := 1) dL_law_768 769 rfl rfl (by decide) (by omega) (by omega) (fun u1 eu1 => ?_)
    refine pv_sld (M := mL_law) dL_law_769 (iv_in (X := i.toInt + 1) eu1 (by omega) (by omega)) (sv_eq (k := 1) eu1) 770 rfl ?_
    refine pv_aloadS_n (M := mL_law) 0 dL_law_770 771 rfl rfl rfl ?_
    refine pv_iload_n (M := mL_law) 3 dL_law_771 772 rfl rfl rfl ?_
    refine pv_iconst (M := mL_law) (v := 2) dL_law_772 773 rfl (by decide) ?_
    refine iv_iadd (M := mL_law) (X := i.toInt) (Y := 2) dL_law_773 774 rfl rfl (by decide) (by omega) (by omega) (fun u2 eu2 => ?_)
    refine pv_sld (M := mL_law) dL_law_774 (iv_in (X := i.toInt + 2) eu2 (by omega) (by omega)) (sv_eq (k := 2) eu2) 775 rfl ?_
    refine pv_callv (M := mL_law) (as := [.int (sv xs i 1), .int (sv xs i 2)]) (st := []) (kc2 := kc) (ks2 := ks) dL_law_775 wd1618 YX12_hidden ⟨wd1619, wd1620⟩ (mk_get (tl123 hT)) rfl rfl (s_X12_hidden g hT I (sv xs i 1) (sv xs i 2)) rfl rfl (Nat.le_of_ble_eq_true rfl) (by decide) (Nat.zero_add _) (Nat.zero_add _) 778 rfl (fun rv h1 q => ?_)
    obtain ⟨m2, n2, v, rfl, rfl, I2, K2, _, _, P2⟩ := q
    have hL2 : LX m2 := LX_eq hL (K2 123 20 rfl) (fun j => K2 136 j rfl) (fun j => K2 138 j rfl) (fun j => K2 139 j rfl) (fun j => K2 140 j rfl)
    show PV _ _ _ _ _ _ _ 778 [.retAddr (b + 1), .ref 0, .ref 123, .int i] [.int v] _
    refine pv_pop (M := mL_law) dL_law_778 779 rfl rfl ?_
    refine pv_goto (M := mL_law) (tgt := 1191) dL_law_779 (by decide) ?_
    exact kk _ _ _ _ _ _ ⟨I2, ⟨la, lb, R⟩, hL2, hT, hK, (EQ_kr I R hE K2 (by decide) (by decide))⟩
  obtain ⟨I, ⟨la, lb, R⟩, hL, hT, hK, hE⟩ := S
  refine pv_aload_n (M := mL_law) 1 dL_law_749 750 rfl rfl rfl ?_
  refine pv_aloadS_n (M := mL_law) 0 dL_law_750 751 rfl rfl rfl ?_
  refine pv_iload_n (M := mL_law) 3 dL_law_751 752 rfl rfl rfl ?_
  refine pv_iconst (M := mL_law) (v := 1) dL_law_752 753 rfl (by decide) ?_
  refine iv_iadd (M := mL_law) (X := i.toInt) (Y := 1) dL_law_753 754 rfl rfl (by decide) (by omega) (by omega) (fun a1 ea1 => ?_)
  refine pv_sld (M := mL_law) dL_law_754 (iv_in (X := i.toInt + 1) ea1 (by omega) (by omega)) (sv_eq (k := 1) ea1) 755 rfl ?_
  refine pv_aloadS_n (M := mL_law) 0 dL_law_755 756 rfl rfl rfl ?_
  refine pv_iload_n (M := mL_law) 3 dL_law_756 757 rfl rfl rfl ?_
  refine pv_iconst (M := mL_law) (v := 2) dL_law_757 758 rfl (by decide) ?_
  refine iv_iadd (M := mL_law) (X := i.toInt) (Y := 2) dL_law_758 759 rfl rfl (by decide) (by omega) (by omega) (fun a2 ea2 => ?_)
  refine pv_sld (M := mL_law) dL_law_759 (iv_in (X := i.toInt + 2) ea2 (by omega) (by omega)) (sv_eq (k := 2) ea2) 760 rfl ?_
  refine pv_callv (M := mL_law) (as := [.int (sv xs i 1), .int (sv xs i 2)]) (st := []) (kc2 := kc) (ks2 := ks) dL_law_760 wd909 YX11_hidden ⟨wd910, wd911⟩ (mk_get (tl0 hT)) rfl rfl (s_X11_hidden g hT I R (sv xs i 1) (sv xs i 2)) rfl rfl (Nat.le_of_ble_eq_true rfl) (by decide) (Nat.zero_add _) (Nat.zero_add _) 763 rfl (fun rv h1 q => ?_)
  obtain ⟨m2, n2, v, rfl, rfl, I2, K2, _, _, P2⟩ := q
  exact after _ _ _ _ _ _ _ ⟨I2, ⟨la, lb, R⟩, (LX_eq hL (K2 123 20 rfl) (fun j => K2 136 j rfl) (fun j => K2 138 j rfl) (fun j => K2 139 j rfl) (fun j => K2 140 j rfl)), hT, hK, (EQ_kc I R R hE K2)⟩

set_option maxHeartbeats 4000000 in
set_option maxRecDepth 20000 in
theorem lx_c16 (g : pv_G) {b LL : Nat} {xs : Nat → Int32} {i : Int32} (hLL : LL ≤ 3072) (hi0 : 0 ≤ i.toInt) (hi6 : i.toInt + 6 ≤ LL) {T : List mv_T} {m : Nat → Nat → Int32} {n : Nat → Nat → Int64} {r : Nat → Value} {kc ks : Nat} (S : ST T r m kc ks) (kk : ∀ (T : List mv_T) (m : Nat → Nat → Int32) (n : Nat → Nat → Int64) (r : Nat → Value) (kc ks : Nat), ST T r m kc ks → PV (some (b, LL, xs)) g mL_law (fun r _ => r = some (.int 1)) 30 kc ks 1191 [.retAddr (b + 1), .ref 0, .ref 123, .int i] [] (mk T m n r)) : PV (some (b, LL, xs)) g mL_law (fun r _ => r = some (.int 1)) 30 kc ks 782 [.retAddr (b + 1), .ref 0, .ref 123, .int i] [] (mk T m n r) := by
  have after : ∀ (T : List mv_T) (m : Nat → Nat → Int32) (n : Nat → Nat → Int64) (r : Nat → Value) (kc ks : Nat) (w : Int32), ST T r m kc ks → PV (some (b, LL, xs)) g mL_law (fun r _ => r = some (.int 1)) 30 kc ks 796 [.retAddr (b + 1), .ref 0, .ref 123, .int i] [.int w] (mk T m n r) := by
    intro T m n r kc ks w S
    obtain ⟨I, ⟨la, lb, R⟩, hL, hT, hK, hE⟩ := S
    refine pv_pop (M := mL_law) dL_law_796 797 rfl rfl ?_
    refine pv_aload_n (M := mL_law) 2 dL_law_797 798 rfl rfl rfl ?_
    refine pv_aloadS_n (M := mL_law) 0 dL_law_798 799 rfl rfl rfl ?_
    refine pv_iload_n (M := mL_law) 3 dL_law_799 800 rfl rfl rfl ?_
    refine pv_iconst (M := mL_law) (v := 1) dL_law_800 801 rfl (by decide) ?_
    refine iv_iadd (M := mL_law) (X := i.toInt) (Y := 1) dL_law_801 802 rfl rfl (by decide) (by omega) (by omega) (fun u1 eu1 => ?_)
    refine pv_sld (M := mL_law) dL_law_802 (iv_in (X := i.toInt + 1) eu1 (by omega) (by omega)) (sv_eq (k := 1) eu1) 803 rfl ?_
    refine pv_aloadS_n (M := mL_law) 0 dL_law_803 804 rfl rfl rfl ?_
    refine pv_iload_n (M := mL_law) 3 dL_law_804 805 rfl rfl rfl ?_
    refine pv_iconst (M := mL_law) (v := 2) dL_law_805 806 rfl (by decide) ?_
    refine iv_iadd (M := mL_law) (X := i.toInt) (Y := 2) dL_law_806 807 rfl rfl (by decide) (by omega) (by omega) (fun u2 eu2 => ?_)
    refine pv_sld (M := mL_law) dL_law_807 (iv_in (X := i.toInt + 2) eu2 (by omega) (by omega)) (sv_eq (k := 2) eu2) 808 rfl ?_
    refine pv_callv (M := mL_law) (as := [.int (sv xs i 1), .int (sv xs i 2)]) (st := []) (kc2 := kc) (ks2 := ks) dL_law_808 wd1656 YX12_shortest ⟨wd1657, wd1658⟩ (mk_get (tl123 hT)) rfl rfl (s_X12_shortest g hT I (sv xs i 1) (sv xs i 2)) rfl rfl (Nat.le_of_ble_eq_true rfl) (by decide) (Nat.zero_add _) (Nat.zero_add _) 811 rfl (fun rv h1 q => ?_)
    obtain ⟨m2, n2, v, rfl, rfl, I2, K2, _, _, P2⟩ := q
    have hL2 : LX m2 := LX_eq hL (K2 123 20 rfl) (fun j => K2 136 j rfl) (fun j => K2 138 j rfl) (fun j => K2 139 j rfl) (fun j => K2 140 j rfl)
    show PV _ _ _ _ _ _ _ 811 [.retAddr (b + 1), .ref 0, .ref 123, .int i] [.int v] _
    refine pv_pop (M := mL_law) dL_law_811 812 rfl rfl ?_
    refine pv_goto (M := mL_law) (tgt := 1191) dL_law_812 (by decide) ?_
    exact kk _ _ _ _ _ _ ⟨I2, ⟨la, lb, R⟩, hL2, hT, hK, (EQ_kr I R hE K2 (by decide) (by decide))⟩
  obtain ⟨I, ⟨la, lb, R⟩, hL, hT, hK, hE⟩ := S
  refine pv_aload_n (M := mL_law) 1 dL_law_782 783 rfl rfl rfl ?_
  refine pv_aloadS_n (M := mL_law) 0 dL_law_783 784 rfl rfl rfl ?_
  refine pv_iload_n (M := mL_law) 3 dL_law_784 785 rfl rfl rfl ?_
  refine pv_iconst (M := mL_law) (v := 1) dL_law_785 786 rfl (by decide) ?_
  refine iv_iadd (M := mL_law) (X := i.toInt) (Y := 1) dL_law_786 787 rfl rfl (by decide) (by omega) (by omega) (fun a1 ea1 => ?_)
  refine pv_sld (M := mL_law) dL_law_787 (iv_in (X := i.toInt + 1) ea1 (by omega) (by omega)) (sv_eq (k := 1) ea1) 788 rfl ?_
  refine pv_aloadS_n (M := mL_law) 0 dL_law_788 789 rfl rfl rfl ?_
  refine pv_iload_n (M := mL_law) 3 dL_law_789 790 rfl rfl rfl ?_
  refine pv_iconst (M := mL_law) (v := 2) dL_law_790 791 rfl (by decide) ?_
  refine iv_iadd (M := mL_law) (X := i.toInt) (Y := 2) dL_law_791 792 rfl rfl (by decide) (by omega) (by omega) (fun a2 ea2 => ?_)
  refine pv_sld (M := mL_law) dL_law_792 (iv_in (X := i.toInt + 2) ea2 (by omega) (by omega)) (sv_eq (k := 2) ea2) 793 rfl ?_
  rcases hK with hK | hK
  · by_cases cc : (sv xs i 2).toInt < -1 ∨ ¬ cOK m (sv xs i 1)
    · have hKK := (Or.inl hK : KS T r kc ks)
      refine pv_callv (M := mL_law) (as := [.int (sv xs i 1), .int (sv xs i 2)]) (st := []) (kc2 := kc) (ks2 := ks) dL_law_793 wd955 YX11_shortest ⟨wd956, wd957⟩ (mk_get (tl0 hT)) rfl rfl (s_X11_shortest_vr g hT I R (sv xs i 1) (sv xs i 2) cc) rfl rfl (Nat.le_of_ble_eq_true rfl) (by decide) (Nat.zero_add _) (Nat.zero_add _) 796 rfl (fun rv h1 q => ?_)
      obtain ⟨v, rfl, rfl, _, _, P2⟩ := q
      exact after _ _ _ _ _ _ _ ⟨I, ⟨la, lb, R⟩, hL, hT, hKK, hE⟩
    · obtain ⟨hTL, hc0, rfl, rfl⟩ := hK
      have cc1 : -1 ≤ (sv xs i 2).toInt := Int.not_lt.mp (fun z => cc (Or.inl z))
      have cc2 : cOK m (sv xs i 1) := Classical.byContradiction (fun z => cc (Or.inr z))
      refine pv_callv (M := mL_law) (as := [.int (sv xs i 1), .int (sv xs i 2)]) (st := []) (kc2 := 0) (ks2 := 0) dL_law_793 wd955 YX11_shortest ⟨wd956, wd957⟩ (mk_get (tl0 hT)) rfl rfl (s_X11_shortest_vn g hT I R hTL hc0 (sv xs i 1) (sv xs i 2) cc1 cc2) rfl rfl (Nat.le_of_ble_eq_true rfl) (by decide) rfl rfl 796 rfl (fun rv h1 q => ?_)
      generalize hG : TL2 = T2 at q
      obtain ⟨m2, n2, r2, v, rfl, rfl, I2, K2, o2, _, _, P2⟩ := q
      have R2 := RX_rnT R o2
      rw [hG] at R2
      have hC : TC T2 := hG.symm
      exact after _ _ _ _ _ _ _ ⟨I2, ⟨la, lb, R2⟩, (LX_eq hL (K2 123 20 rfl) (fun j => K2 136 j rfl) (fun j => K2 138 j rfl) (fun j => K2 139 j rfl) (fun j => K2 140 j rfl)), TC_TX hC, Or.inr ⟨hC, o2.1, rfl, rfl⟩, (EQ_kc I R R2 hE K2)⟩
  · refine pv_callv (M := mL_law) (as := [.int (sv xs i 1), .int (sv xs i 2)]) (st := []) (kc2 := kc) (ks2 := ks) dL_law_793 wd955 YX11_shortest ⟨wd956, wd957⟩ (mk_get (tl0 hT)) rfl rfl (s_X11_shortest_vc g hT I R hK.1 hK.2.1 (sv xs i 1) (sv xs i 2)) rfl rfl (Nat.le_of_ble_eq_true rfl) (by decide) (Nat.zero_add _) (Nat.zero_add _) 796 rfl (fun rv h1 q => ?_)
    obtain ⟨m2, n2, r2, v, rfl, rfl, I2, K2, o2, _, _, P2⟩ := q
    exact after _ _ _ _ _ _ _ ⟨I2, ⟨la, lb, RX_rn R o2⟩, (LX_eq hL (K2 123 20 rfl) (fun j => K2 136 j rfl) (fun j => K2 138 j rfl) (fun j => K2 139 j rfl) (fun j => K2 140 j rfl)), hT, Or.inr ⟨hK.1, o2.1, hK.2.2.1, hK.2.2.2⟩, (EQ_kc I R (RX_rn R o2) hE K2)⟩

set_option maxHeartbeats 4000000 in
set_option maxRecDepth 20000 in
theorem lx_c17 (g : pv_G) {b LL : Nat} {xs : Nat → Int32} {i : Int32} (hLL : LL ≤ 3072) (hi0 : 0 ≤ i.toInt) (hi6 : i.toInt + 6 ≤ LL) {T : List mv_T} {m : Nat → Nat → Int32} {n : Nat → Nat → Int64} {r : Nat → Value} {kc ks : Nat} (S : ST T r m kc ks) (kk : ∀ (T : List mv_T) (m : Nat → Nat → Int32) (n : Nat → Nat → Int64) (r : Nat → Value) (kc ks : Nat), ST T r m kc ks → PV (some (b, LL, xs)) g mL_law (fun r _ => r = some (.int 1)) 30 kc ks 1191 [.retAddr (b + 1), .ref 0, .ref 123, .int i] [] (mk T m n r)) : PV (some (b, LL, xs)) g mL_law (fun r _ => r = some (.int 1)) 30 kc ks 815 [.retAddr (b + 1), .ref 0, .ref 123, .int i] [] (mk T m n r) := by
  have after : ∀ (T : List mv_T) (m : Nat → Nat → Int32) (n : Nat → Nat → Int64) (r : Nat → Value) (kc ks : Nat) (w : Int64), ST T r m kc ks → PV (some (b, LL, xs)) g mL_law (fun r _ => r = some (.int 1)) 30 kc ks 824 [.retAddr (b + 1), .ref 0, .ref 123, .int i] [.long w] (mk T m n r) := by
    intro T m n r kc ks w S
    obtain ⟨I, ⟨la, lb, R⟩, hL, hT, hK, hE⟩ := S
    refine pv_pop2 (M := mL_law) dL_law_824 825 rfl rfl ?_
    refine pv_aload_n (M := mL_law) 2 dL_law_825 826 rfl rfl rfl ?_
    refine pv_aloadS_n (M := mL_law) 0 dL_law_826 827 rfl rfl rfl ?_
    refine pv_iload_n (M := mL_law) 3 dL_law_827 828 rfl rfl rfl ?_
    refine pv_iconst (M := mL_law) (v := 1) dL_law_828 829 rfl (by decide) ?_
    refine iv_iadd (M := mL_law) (X := i.toInt) (Y := 1) dL_law_829 830 rfl rfl (by decide) (by omega) (by omega) (fun u1 eu1 => ?_)
    refine pv_sld (M := mL_law) dL_law_830 (iv_in (X := i.toInt + 1) eu1 (by omega) (by omega)) (sv_eq (k := 1) eu1) 831 rfl ?_
    refine pv_callv (M := mL_law) (as := [.int (sv xs i 1)]) (st := []) (kc2 := kc) (ks2 := ks) dL_law_831 wd1683 YX12_shortestMany ⟨wd1684, wd1685⟩ (mk_get (tl123 hT)) rfl rfl (s_X12_shortestMany g hT I (sv xs i 1)) rfl rfl (Nat.le_of_ble_eq_true rfl) (by decide) (Nat.zero_add _) (Nat.zero_add _) 834 rfl (fun rv h1 q => ?_)
    obtain ⟨m2, n2, v, rfl, rfl, I2, K2, _⟩ := q
    have hL2 : LX m2 := LX_eq hL (K2 123 20 rfl) (fun j => K2 136 j rfl) (fun j => K2 138 j rfl) (fun j => K2 139 j rfl) (fun j => K2 140 j rfl)
    show PV _ _ _ _ _ _ _ 834 [.retAddr (b + 1), .ref 0, .ref 123, .int i] [.long v] _
    refine pv_pop2 (M := mL_law) dL_law_834 835 rfl rfl ?_
    refine pv_goto (M := mL_law) (tgt := 1191) dL_law_835 (by decide) ?_
    exact kk _ _ _ _ _ _ ⟨I2, ⟨la, lb, R⟩, hL2, hT, hK, (EQ_kr I R hE K2 (by decide) (by decide))⟩
  obtain ⟨I, ⟨la, lb, R⟩, hL, hT, hK, hE⟩ := S
  refine pv_aload_n (M := mL_law) 1 dL_law_815 816 rfl rfl rfl ?_
  refine pv_aloadS_n (M := mL_law) 0 dL_law_816 817 rfl rfl rfl ?_
  refine pv_iload_n (M := mL_law) 3 dL_law_817 818 rfl rfl rfl ?_
  refine pv_iconst (M := mL_law) (v := 1) dL_law_818 819 rfl (by decide) ?_
  refine iv_iadd (M := mL_law) (X := i.toInt) (Y := 1) dL_law_819 820 rfl rfl (by decide) (by omega) (by omega) (fun a1 ea1 => ?_)
  refine pv_sld (M := mL_law) dL_law_820 (iv_in (X := i.toInt + 1) ea1 (by omega) (by omega)) (sv_eq (k := 1) ea1) 821 rfl ?_
  rcases hK with hK | hK
  · by_cases cc : ¬ cOK m (sv xs i 1)
    · have hKK := (Or.inl hK : KS T r kc ks)
      refine pv_callv (M := mL_law) (as := [.int (sv xs i 1)]) (st := []) (kc2 := kc) (ks2 := ks) dL_law_821 wd1044 YX11_shortestMany ⟨wd1045, wd1046⟩ (mk_get (tl0 hT)) rfl rfl (s_X11_shortestMany_vr g hT I R (sv xs i 1) cc) rfl rfl (Nat.le_of_ble_eq_true rfl) (by decide) (Nat.zero_add _) (Nat.zero_add _) 824 rfl (fun rv h1 q => ?_)
      obtain ⟨v, rfl, rfl⟩ := q
      exact after _ _ _ _ _ _ _ ⟨I, ⟨la, lb, R⟩, hL, hT, hKK, hE⟩
    · obtain ⟨hTL, hc0, rfl, rfl⟩ := hK
      have cc2 : cOK m (sv xs i 1) := Classical.byContradiction cc
      refine pv_callv (M := mL_law) (as := [.int (sv xs i 1)]) (st := []) (kc2 := 0) (ks2 := 0) dL_law_821 wd1044 YX11_shortestMany ⟨wd1045, wd1046⟩ (mk_get (tl0 hT)) rfl rfl (s_X11_shortestMany_vn g hT I R hTL hc0 (sv xs i 1) cc2) rfl rfl (Nat.le_of_ble_eq_true rfl) (by decide) rfl rfl 824 rfl (fun rv h1 q => ?_)
      generalize hG : TL2 = T2 at q
      obtain ⟨m2, n2, r2, v, rfl, rfl, I2, K2, o2, _⟩ := q
      have R2 := RX_rnT R o2
      rw [hG] at R2
      have hC : TC T2 := hG.symm
      exact after _ _ _ _ _ _ _ ⟨I2, ⟨la, lb, R2⟩, (LX_eq hL (K2 123 20 rfl) (fun j => K2 136 j rfl) (fun j => K2 138 j rfl) (fun j => K2 139 j rfl) (fun j => K2 140 j rfl)), TC_TX hC, Or.inr ⟨hC, o2.1, rfl, rfl⟩, (EQ_kc I R R2 hE K2)⟩
  · refine pv_callv (M := mL_law) (as := [.int (sv xs i 1)]) (st := []) (kc2 := kc) (ks2 := ks) dL_law_821 wd1044 YX11_shortestMany ⟨wd1045, wd1046⟩ (mk_get (tl0 hT)) rfl rfl (s_X11_shortestMany_vc g hT I R hK.1 hK.2.1 (sv xs i 1)) rfl rfl (Nat.le_of_ble_eq_true rfl) (by decide) (Nat.zero_add _) (Nat.zero_add _) 824 rfl (fun rv h1 q => ?_)
    obtain ⟨m2, n2, r2, v, rfl, rfl, I2, K2, o2, _⟩ := q
    exact after _ _ _ _ _ _ _ ⟨I2, ⟨la, lb, RX_rn R o2⟩, (LX_eq hL (K2 123 20 rfl) (fun j => K2 136 j rfl) (fun j => K2 138 j rfl) (fun j => K2 139 j rfl) (fun j => K2 140 j rfl)), hT, Or.inr ⟨hK.1, o2.1, hK.2.2.1, hK.2.2.2⟩, (EQ_kc I R (RX_rn R o2) hE K2)⟩

set_option maxHeartbeats 4000000 in
set_option maxRecDepth 20000 in
theorem lx_c18 (g : pv_G) {b LL : Nat} {xs : Nat → Int32} {i : Int32} (hLL : LL ≤ 3072) (hi0 : 0 ≤ i.toInt) (hi6 : i.toInt + 6 ≤ LL) {T : List mv_T} {m : Nat → Nat → Int32} {n : Nat → Nat → Int64} {r : Nat → Value} {kc ks : Nat} (S : ST T r m kc ks) (kk : ∀ (T : List mv_T) (m : Nat → Nat → Int32) (n : Nat → Nat → Int64) (r : Nat → Value) (kc ks : Nat), ST T r m kc ks → PV (some (b, LL, xs)) g mL_law (fun r _ => r = some (.int 1)) 30 kc ks 1191 [.retAddr (b + 1), .ref 0, .ref 123, .int i] [] (mk T m n r)) : PV (some (b, LL, xs)) g mL_law (fun r _ => r = some (.int 1)) 30 kc ks 838 [.retAddr (b + 1), .ref 0, .ref 123, .int i] [] (mk T m n r) := by
  have after : ∀ (T : List mv_T) (m : Nat → Nat → Int32) (n : Nat → Nat → Int64) (r : Nat → Value) (kc ks : Nat) (w : Int32), ST T r m kc ks → PV (some (b, LL, xs)) g mL_law (fun r _ => r = some (.int 1)) 30 kc ks 847 [.retAddr (b + 1), .ref 0, .ref 123, .int i] [.int w] (mk T m n r) := by
    intro T m n r kc ks w S
    obtain ⟨I, ⟨la, lb, R⟩, hL, hT, hK, hE⟩ := S
    refine pv_pop (M := mL_law) dL_law_847 848 rfl rfl ?_
    refine pv_aload_n (M := mL_law) 2 dL_law_848 849 rfl rfl rfl ?_
    refine pv_aloadS_n (M := mL_law) 0 dL_law_849 850 rfl rfl rfl ?_
    refine pv_iload_n (M := mL_law) 3 dL_law_850 851 rfl rfl rfl ?_
    refine pv_iconst (M := mL_law) (v := 1) dL_law_851 852 rfl (by decide) ?_
    refine iv_iadd (M := mL_law) (X := i.toInt) (Y := 1) dL_law_852 853 rfl rfl (by decide) (by omega) (by omega) (fun u1 eu1 => ?_)
    refine pv_sld (M := mL_law) dL_law_853 (iv_in (X := i.toInt + 1) eu1 (by omega) (by omega)) (sv_eq (k := 1) eu1) 854 rfl ?_
    refine pv_callv (M := mL_law) (as := [.int (sv xs i 1)]) (st := []) (kc2 := kc) (ks2 := ks) dL_law_854 wd1688 YX12_bound ⟨wd1689, wd1690⟩ (mk_get (tl123 hT)) rfl rfl (s_X12_bound g hT I (sv xs i 1)) rfl rfl (Nat.le_of_ble_eq_true rfl) (by decide) (Nat.zero_add _) (Nat.zero_add _) 857 rfl (fun rv h1 q => ?_)
    obtain ⟨m2, n2, v, rfl, rfl, I2, K2, _, _, P2⟩ := q
    have hL2 : LX m2 := LX_eq hL (K2 123 20 rfl) (fun j => K2 136 j rfl) (fun j => K2 138 j rfl) (fun j => K2 139 j rfl) (fun j => K2 140 j rfl)
    show PV _ _ _ _ _ _ _ 857 [.retAddr (b + 1), .ref 0, .ref 123, .int i] [.int v] _
    refine pv_pop (M := mL_law) dL_law_857 858 rfl rfl ?_
    refine pv_goto (M := mL_law) (tgt := 1191) dL_law_858 (by decide) ?_
    exact kk _ _ _ _ _ _ ⟨I2, ⟨la, lb, R⟩, hL2, hT, hK, (EQ_kr I R hE K2 (by decide) (by decide))⟩
  obtain ⟨I, ⟨la, lb, R⟩, hL, hT, hK, hE⟩ := S
  refine pv_aload_n (M := mL_law) 1 dL_law_838 839 rfl rfl rfl ?_
  refine pv_aloadS_n (M := mL_law) 0 dL_law_839 840 rfl rfl rfl ?_
  refine pv_iload_n (M := mL_law) 3 dL_law_840 841 rfl rfl rfl ?_
  refine pv_iconst (M := mL_law) (v := 1) dL_law_841 842 rfl (by decide) ?_
  refine iv_iadd (M := mL_law) (X := i.toInt) (Y := 1) dL_law_842 843 rfl rfl (by decide) (by omega) (by omega) (fun a1 ea1 => ?_)
  refine pv_sld (M := mL_law) dL_law_843 (iv_in (X := i.toInt + 1) ea1 (by omega) (by omega)) (sv_eq (k := 1) ea1) 844 rfl ?_
  rcases hK with hK | hK
  · by_cases cc : cOK m (sv xs i 1) → (∀ i2 j : Nat, i2 < j → j < 8 → (amv (sv xs i 1) (Int32.ofInt i2)).toInt = 0 ∨ (amv (sv xs i 1) (Int32.ofInt j)).toInt = 0)
    · have hKK := (Or.inl hK : KS T r kc ks)
      refine pv_callv (M := mL_law) (as := [.int (sv xs i 1)]) (st := []) (kc2 := kc) (ks2 := ks) dL_law_844 wd1052 YX11_bound ⟨wd1053, wd1054⟩ (mk_get (tl0 hT)) rfl rfl (s_X11_bound_vr g hT I R (sv xs i 1) cc) rfl rfl (Nat.le_of_ble_eq_true rfl) (by decide) (Nat.zero_add _) (Nat.zero_add _) 847 rfl (fun rv h1 q => ?_)
      obtain ⟨v, rfl, rfl, _, _, P2⟩ := q
      exact after _ _ _ _ _ _ _ ⟨I, ⟨la, lb, R⟩, hL, hT, hKK, hE⟩
    · obtain ⟨hTL, hc0, rfl, rfl⟩ := hK
      have cc2 : cOK m (sv xs i 1) := Classical.byContradiction (fun z => cc (fun w => absurd w z))
      have cc3 : ¬ (∀ i2 j : Nat, i2 < j → j < 8 → (amv (sv xs i 1) (Int32.ofInt i2)).toInt = 0 ∨ (amv (sv xs i 1) (Int32.ofInt j)).toInt = 0) := fun z => cc (fun _ => z)
      refine pv_callv (M := mL_law) (as := [.int (sv xs i 1)]) (st := []) (kc2 := 0) (ks2 := 0) dL_law_844 wd1052 YX11_bound ⟨wd1053, wd1054⟩ (mk_get (tl0 hT)) rfl rfl (s_X11_bound_vn g hT I R hTL hc0 (sv xs i 1) cc2 cc3) rfl rfl (Nat.le_of_ble_eq_true rfl) (by decide) rfl rfl 847 rfl (fun rv h1 q => ?_)
      generalize hG : TL2 = T2 at q
      obtain ⟨m2, n2, r2, v, rfl, rfl, I2, K2, o2, _, _, P2⟩ := q
      have R2 := RX_rnT R o2
      rw [hG] at R2
      have hC : TC T2 := hG.symm
      exact after _ _ _ _ _ _ _ ⟨I2, ⟨la, lb, R2⟩, (LX_eq hL (K2 123 20 rfl) (fun j => K2 136 j rfl) (fun j => K2 138 j rfl) (fun j => K2 139 j rfl) (fun j => K2 140 j rfl)), TC_TX hC, Or.inr ⟨hC, o2.1, rfl, rfl⟩, (EQ_kc I R R2 hE K2)⟩
  · refine pv_callv (M := mL_law) (as := [.int (sv xs i 1)]) (st := []) (kc2 := kc) (ks2 := ks) dL_law_844 wd1052 YX11_bound ⟨wd1053, wd1054⟩ (mk_get (tl0 hT)) rfl rfl (s_X11_bound_vc g hT I R hK.1 hK.2.1 (sv xs i 1)) rfl rfl (Nat.le_of_ble_eq_true rfl) (by decide) (Nat.zero_add _) (Nat.zero_add _) 847 rfl (fun rv h1 q => ?_)
    obtain ⟨m2, n2, r2, v, rfl, rfl, I2, K2, o2, _, _, P2⟩ := q
    exact after _ _ _ _ _ _ _ ⟨I2, ⟨la, lb, RX_rn R o2⟩, (LX_eq hL (K2 123 20 rfl) (fun j => K2 136 j rfl) (fun j => K2 138 j rfl) (fun j => K2 139 j rfl) (fun j => K2 140 j rfl)), hT, Or.inr ⟨hK.1, o2.1, hK.2.2.1, hK.2.2.2⟩, (EQ_kc I R (RX_rn R o2) hE K2)⟩

set_option maxHeartbeats 4000000 in
set_option maxRecDepth 20000 in
theorem lx_c19 (g : pv_G) {b LL : Nat} {xs : Nat → Int32} {i : Int32} (hLL : LL ≤ 3072) (hi0 : 0 ≤ i.toInt) (hi6 : i.toInt + 6 ≤ LL) {T : List mv_T} {m : Nat → Nat → Int32} {n : Nat → Nat → Int64} {r : Nat → Value} {kc ks : Nat} (S : ST T r m kc ks) (kk : ∀ (T : List mv_T) (m : Nat → Nat → Int32) (n : Nat → Nat → Int64) (r : Nat → Value) (kc ks : Nat), ST T r m kc ks → PV (some (b, LL, xs)) g mL_law (fun r _ => r = some (.int 1)) 30 kc ks 1191 [.retAddr (b + 1), .ref 0, .ref 123, .int i] [] (mk T m n r)) : PV (some (b, LL, xs)) g mL_law (fun r _ => r = some (.int 1)) 30 kc ks 861 [.retAddr (b + 1), .ref 0, .ref 123, .int i] [] (mk T m n r) := by
  have after : ∀ (T : List mv_T) (m : Nat → Nat → Int32) (n : Nat → Nat → Int64) (r : Nat → Value) (kc ks : Nat) (w : Int32), ST T r m kc ks → PV (some (b, LL, xs)) g mL_law (fun r _ => r = some (.int 1)) 30 kc ks 870 [.retAddr (b + 1), .ref 0, .ref 123, .int i] [.int w] (mk T m n r) := by
    intro T m n r kc ks w S
    obtain ⟨I, ⟨la, lb, R⟩, hL, hT, hK, hE⟩ := S
    refine pv_pop (M := mL_law) dL_law_870 871 rfl rfl ?_
    refine pv_aload_n (M := mL_law) 2 dL_law_871 872 rfl rfl rfl ?_
    refine pv_aloadS_n (M := mL_law) 0 dL_law_872 873 rfl rfl rfl ?_
    refine pv_iload_n (M := mL_law) 3 dL_law_873 874 rfl rfl rfl ?_
    refine pv_iconst (M := mL_law) (v := 1) dL_law_874 875 rfl (by decide) ?_
    refine iv_iadd (M := mL_law) (X := i.toInt) (Y := 1) dL_law_875 876 rfl rfl (by decide) (by omega) (by omega) (fun u1 eu1 => ?_)
    refine pv_sld (M := mL_law) dL_law_876 (iv_in (X := i.toInt + 1) eu1 (by omega) (by omega)) (sv_eq (k := 1) eu1) 877 rfl ?_
    refine pv_callv (M := mL_law) (as := [.int (sv xs i 1)]) (st := []) (kc2 := kc) (ks2 := ks) dL_law_877 wd1692 YX12_forged ⟨wd1693, wd1694⟩ (mk_get (tl123 hT)) rfl rfl (s_X12_forged g hT I (sv xs i 1)) rfl rfl (Nat.le_of_ble_eq_true rfl) (by decide) (Nat.zero_add _) (Nat.zero_add _) 880 rfl (fun rv h1 q => ?_)
    obtain ⟨m2, n2, v, rfl, rfl, I2, K2, _, _, P2⟩ := q
    have hL2 : LX m2 := LX_eq hL (K2 123 20 rfl) (fun j => K2 136 j rfl) (fun j => K2 138 j rfl) (fun j => K2 139 j rfl) (fun j => K2 140 j rfl)
    show PV _ _ _ _ _ _ _ 880 [.retAddr (b + 1), .ref 0, .ref 123, .int i] [.int v] _
    refine pv_pop (M := mL_law) dL_law_880 881 rfl rfl ?_
    refine pv_goto (M := mL_law) (tgt := 1191) dL_law_881 (by decide) ?_
    exact kk _ _ _ _ _ _ ⟨I2, ⟨la, lb, R⟩, hL2, hT, hK, (EQ_kr I R hE K2 (by decide) (by decide))⟩
  obtain ⟨I, ⟨la, lb, R⟩, hL, hT, hK, hE⟩ := S
  refine pv_aload_n (M := mL_law) 1 dL_law_861 862 rfl rfl rfl ?_
  refine pv_aloadS_n (M := mL_law) 0 dL_law_862 863 rfl rfl rfl ?_
  refine pv_iload_n (M := mL_law) 3 dL_law_863 864 rfl rfl rfl ?_
  refine pv_iconst (M := mL_law) (v := 1) dL_law_864 865 rfl (by decide) ?_
  refine iv_iadd (M := mL_law) (X := i.toInt) (Y := 1) dL_law_865 866 rfl rfl (by decide) (by omega) (by omega) (fun a1 ea1 => ?_)
  refine pv_sld (M := mL_law) dL_law_866 (iv_in (X := i.toInt + 1) ea1 (by omega) (by omega)) (sv_eq (k := 1) ea1) 867 rfl ?_
  refine pv_callv (M := mL_law) (as := [.int (sv xs i 1)]) (st := []) (kc2 := kc) (ks2 := ks) dL_law_867 wd1056 YX11_forged ⟨wd1057, wd1058⟩ (mk_get (tl0 hT)) rfl rfl (s_X11_forged g hT I R (sv xs i 1)) rfl rfl (Nat.le_of_ble_eq_true rfl) (by decide) (Nat.zero_add _) (Nat.zero_add _) 870 rfl (fun rv h1 q => ?_)
  obtain ⟨v, rfl, rfl, _, _, P2⟩ := q
  exact after _ _ _ _ _ _ _ ⟨I, ⟨la, lb, R⟩, hL, hT, hK, hE⟩

set_option maxHeartbeats 4000000 in
set_option maxRecDepth 20000 in
theorem lx_c20 (g : pv_G) {b LL : Nat} {xs : Nat → Int32} {i : Int32} (hLL : LL ≤ 3072) (hi0 : 0 ≤ i.toInt) (hi6 : i.toInt + 6 ≤ LL) {T : List mv_T} {m : Nat → Nat → Int32} {n : Nat → Nat → Int64} {r : Nat → Value} {kc ks : Nat} (S : ST T r m kc ks) (kk : ∀ (T : List mv_T) (m : Nat → Nat → Int32) (n : Nat → Nat → Int64) (r : Nat → Value) (kc ks : Nat), ST T r m kc ks → PV (some (b, LL, xs)) g mL_law (fun r _ => r = some (.int 1)) 30 kc ks 1191 [.retAddr (b + 1), .ref 0, .ref 123, .int i] [] (mk T m n r)) : PV (some (b, LL, xs)) g mL_law (fun r _ => r = some (.int 1)) 30 kc ks 884 [.retAddr (b + 1), .ref 0, .ref 123, .int i] [] (mk T m n r) := by
  have after : ∀ (T : List mv_T) (m : Nat → Nat → Int32) (n : Nat → Nat → Int64) (r : Nat → Value) (kc ks : Nat) (w : Int64), ST T r m kc ks → PV (some (b, LL, xs)) g mL_law (fun r _ => r = some (.int 1)) 30 kc ks 898 [.retAddr (b + 1), .ref 0, .ref 123, .int i] [.long w] (mk T m n r) := by
    intro T m n r kc ks w S
    obtain ⟨I, ⟨la, lb, R⟩, hL, hT, hK, hE⟩ := S
    refine pv_pop2 (M := mL_law) dL_law_898 899 rfl rfl ?_
    refine pv_aload_n (M := mL_law) 2 dL_law_899 900 rfl rfl rfl ?_
    refine pv_aloadS_n (M := mL_law) 0 dL_law_900 901 rfl rfl rfl ?_
    refine pv_iload_n (M := mL_law) 3 dL_law_901 902 rfl rfl rfl ?_
    refine pv_iconst (M := mL_law) (v := 1) dL_law_902 903 rfl (by decide) ?_
    refine iv_iadd (M := mL_law) (X := i.toInt) (Y := 1) dL_law_903 904 rfl rfl (by decide) (by omega) (by omega) (fun u1 eu1 => ?_)
    refine pv_sld (M := mL_law) dL_law_904 (iv_in (X := i.toInt + 1) eu1 (by omega) (by omega)) (sv_eq (k := 1) eu1) 905 rfl ?_
    refine pv_aloadS_n (M := mL_law) 0 dL_law_905 906 rfl rfl rfl ?_
    refine pv_iload_n (M := mL_law) 3 dL_law_906 907 rfl rfl rfl ?_
    refine pv_iconst (M := mL_law) (v := 2) dL_law_907 908 rfl (by decide) ?_
    refine iv_iadd (M := mL_law) (X := i.toInt) (Y := 2) dL_law_908 909 rfl rfl (by decide) (by omega) (by omega) (fun u2 eu2 => ?_)
    refine pv_sld (M := mL_law) dL_law_909 (iv_in (X := i.toInt + 2) eu2 (by omega) (by omega)) (sv_eq (k := 2) eu2) 910 rfl ?_
    refine pv_callv (M := mL_law) (as := [.int (sv xs i 1), .int (sv xs i 2)]) (st := []) (kc2 := kc) (ks2 := ks) dL_law_910 wd1700 YX12_spare ⟨wd1701, wd1702⟩ (mk_get (tl123 hT)) rfl rfl (s_X12_spare g hT I (sv xs i 1) (sv xs i 2)) rfl rfl (Nat.le_of_ble_eq_true rfl) (by decide) (Nat.zero_add _) (Nat.zero_add _) 913 rfl (fun rv h1 q => ?_)
    obtain ⟨m2, n2, v, rfl, rfl, I2, K2, _⟩ := q
    have hL2 : LX m2 := LX_eq hL (K2 123 20 rfl) (fun j => K2 136 j rfl) (fun j => K2 138 j rfl) (fun j => K2 139 j rfl) (fun j => K2 140 j rfl)
    show PV _ _ _ _ _ _ _ 913 [.retAddr (b + 1), .ref 0, .ref 123, .int i] [.long v] _
    refine pv_pop2 (M := mL_law) dL_law_913 914 rfl rfl ?_
    refine pv_goto (M := mL_law) (tgt := 1191) dL_law_914 (by decide) ?_
    exact kk _ _ _ _ _ _ ⟨I2, ⟨la, lb, R⟩, hL2, hT, hK, (EQ_kr I R hE K2 (by decide) (by decide))⟩
  obtain ⟨I, ⟨la, lb, R⟩, hL, hT, hK, hE⟩ := S
  refine pv_aload_n (M := mL_law) 1 dL_law_884 885 rfl rfl rfl ?_
  refine pv_aloadS_n (M := mL_law) 0 dL_law_885 886 rfl rfl rfl ?_
  refine pv_iload_n (M := mL_law) 3 dL_law_886 887 rfl rfl rfl ?_
  refine pv_iconst (M := mL_law) (v := 1) dL_law_887 888 rfl (by decide) ?_
  refine iv_iadd (M := mL_law) (X := i.toInt) (Y := 1) dL_law_888 889 rfl rfl (by decide) (by omega) (by omega) (fun a1 ea1 => ?_)
  refine pv_sld (M := mL_law) dL_law_889 (iv_in (X := i.toInt + 1) ea1 (by omega) (by omega)) (sv_eq (k := 1) ea1) 890 rfl ?_
  refine pv_aloadS_n (M := mL_law) 0 dL_law_890 891 rfl rfl rfl ?_
  refine pv_iload_n (M := mL_law) 3 dL_law_891 892 rfl rfl rfl ?_
  refine pv_iconst (M := mL_law) (v := 2) dL_law_892 893 rfl (by decide) ?_
  refine iv_iadd (M := mL_law) (X := i.toInt) (Y := 2) dL_law_893 894 rfl rfl (by decide) (by omega) (by omega) (fun a2 ea2 => ?_)
  refine pv_sld (M := mL_law) dL_law_894 (iv_in (X := i.toInt + 2) ea2 (by omega) (by omega)) (sv_eq (k := 2) ea2) 895 rfl ?_
  refine pv_callv (M := mL_law) (as := [.int (sv xs i 1), .int (sv xs i 2)]) (st := []) (kc2 := kc) (ks2 := ks) dL_law_895 wd1068 YX11_spare ⟨wd1069, wd1070⟩ (mk_get (tl0 hT)) rfl rfl (s_X11_spare g hT I R (sv xs i 1) (sv xs i 2)) rfl rfl (Nat.le_of_ble_eq_true rfl) (by decide) (Nat.zero_add _) (Nat.zero_add _) 898 rfl (fun rv h1 q => ?_)
  obtain ⟨v, rfl, rfl⟩ := q
  exact after _ _ _ _ _ _ _ ⟨I, ⟨la, lb, R⟩, hL, hT, hK, hE⟩

set_option maxHeartbeats 4000000 in
set_option maxRecDepth 20000 in
theorem lx_c21 (g : pv_G) {b LL : Nat} {xs : Nat → Int32} {i : Int32} (hLL : LL ≤ 3072) (hi0 : 0 ≤ i.toInt) (hi6 : i.toInt + 6 ≤ LL) {T : List mv_T} {m : Nat → Nat → Int32} {n : Nat → Nat → Int64} {r : Nat → Value} {kc ks : Nat} (S : ST T r m kc ks) (kk : ∀ (T : List mv_T) (m : Nat → Nat → Int32) (n : Nat → Nat → Int64) (r : Nat → Value) (kc ks : Nat), ST T r m kc ks → PV (some (b, LL, xs)) g mL_law (fun r _ => r = some (.int 1)) 30 kc ks 1191 [.retAddr (b + 1), .ref 0, .ref 123, .int i] [] (mk T m n r)) : PV (some (b, LL, xs)) g mL_law (fun r _ => r = some (.int 1)) 30 kc ks 917 [.retAddr (b + 1), .ref 0, .ref 123, .int i] [] (mk T m n r) := by
  have after : ∀ (T : List mv_T) (m : Nat → Nat → Int32) (n : Nat → Nat → Int64) (r : Nat → Value) (kc ks : Nat) (w : Int32), ST T r m kc ks → PV (some (b, LL, xs)) g mL_law (fun r _ => r = some (.int 1)) 30 kc ks 931 [.retAddr (b + 1), .ref 0, .ref 123, .int i] [.int w] (mk T m n r) := by
    intro T m n r kc ks w S
    obtain ⟨I, ⟨la, lb, R⟩, hL, hT, hK, hE⟩ := S
    refine pv_pop (M := mL_law) dL_law_931 932 rfl rfl ?_
    refine pv_aload_n (M := mL_law) 2 dL_law_932 933 rfl rfl rfl ?_
    refine pv_aloadS_n (M := mL_law) 0 dL_law_933 934 rfl rfl rfl ?_
    refine pv_iload_n (M := mL_law) 3 dL_law_934 935 rfl rfl rfl ?_
    refine pv_iconst (M := mL_law) (v := 1) dL_law_935 936 rfl (by decide) ?_
    refine iv_iadd (M := mL_law) (X := i.toInt) (Y := 1) dL_law_936 937 rfl rfl (by decide) (by omega) (by omega) (fun u1 eu1 => ?_)
    refine pv_sld (M := mL_law) dL_law_937 (iv_in (X := i.toInt + 1) eu1 (by omega) (by omega)) (sv_eq (k := 1) eu1) 938 rfl ?_
    refine pv_aloadS_n (M := mL_law) 0 dL_law_938 939 rfl rfl rfl ?_
    refine pv_iload_n (M := mL_law) 3 dL_law_939 940 rfl rfl rfl ?_
    refine pv_iconst (M := mL_law) (v := 2) dL_law_940 941 rfl (by decide) ?_
    refine iv_iadd (M := mL_law) (X := i.toInt) (Y := 2) dL_law_941 942 rfl rfl (by decide) (by omega) (by omega) (fun u2 eu2 => ?_)
    refine pv_sld (M := mL_law) dL_law_942 (iv_in (X := i.toInt + 2) eu2 (by omega) (by omega)) (sv_eq (k := 2) eu2) 943 rfl ?_
    refine pv_callv (M := mL_law) (as := [.int (sv xs i 1), .int (sv xs i 2)]) (st := []) (kc2 := kc) (ks2 := ks) dL_law_943 wd1712 YX12_dayEnd ⟨wd1713, wd1714⟩ (mk_get (tl123 hT)) rfl rfl (s_X12_dayEnd g hT I (sv xs i 1) (sv xs i 2)) rfl rfl (Nat.le_of_ble_eq_true rfl) (by decide) (Nat.zero_add _) (Nat.zero_add _) 946 rfl (fun rv h1 q => ?_)
    obtain ⟨m2, n2, v, rfl, rfl, I2, K2, _, _, P2⟩ := q
    have hL2 : LX m2 := LX_eq hL (K2 123 20 rfl) (fun j => K2 136 j rfl) (fun j => K2 138 j rfl) (fun j => K2 139 j rfl) (fun j => K2 140 j rfl)
    show PV _ _ _ _ _ _ _ 946 [.retAddr (b + 1), .ref 0, .ref 123, .int i] [.int v] _
    refine pv_pop (M := mL_law) dL_law_946 947 rfl rfl ?_
    refine pv_goto (M := mL_law) (tgt := 1191) dL_law_947 (by decide) ?_
    exact kk _ _ _ _ _ _ ⟨I2, ⟨la, lb, R⟩, hL2, hT, hK, (EQ_kr I R hE K2 (by decide) (by decide))⟩
  obtain ⟨I, ⟨la, lb, R⟩, hL, hT, hK, hE⟩ := S
  refine pv_aload_n (M := mL_law) 1 dL_law_917 918 rfl rfl rfl ?_
  refine pv_aloadS_n (M := mL_law) 0 dL_law_918 919 rfl rfl rfl ?_
  refine pv_iload_n (M := mL_law) 3 dL_law_919 920 rfl rfl rfl ?_
  refine pv_iconst (M := mL_law) (v := 1) dL_law_920 921 rfl (by decide) ?_
  refine iv_iadd (M := mL_law) (X := i.toInt) (Y := 1) dL_law_921 922 rfl rfl (by decide) (by omega) (by omega) (fun a1 ea1 => ?_)
  refine pv_sld (M := mL_law) dL_law_922 (iv_in (X := i.toInt + 1) ea1 (by omega) (by omega)) (sv_eq (k := 1) ea1) 923 rfl ?_
  refine pv_aloadS_n (M := mL_law) 0 dL_law_923 924 rfl rfl rfl ?_
  refine pv_iload_n (M := mL_law) 3 dL_law_924 925 rfl rfl rfl ?_
  refine pv_iconst (M := mL_law) (v := 2) dL_law_925 926 rfl (by decide) ?_
  refine iv_iadd (M := mL_law) (X := i.toInt) (Y := 2) dL_law_926 927 rfl rfl (by decide) (by omega) (by omega) (fun a2 ea2 => ?_)
  refine pv_sld (M := mL_law) dL_law_927 (iv_in (X := i.toInt + 2) ea2 (by omega) (by omega)) (sv_eq (k := 2) ea2) 928 rfl ?_
  refine pv_callv (M := mL_law) (as := [.int (sv xs i 1), .int (sv xs i 2)]) (st := []) (kc2 := kc) (ks2 := ks) dL_law_928 wd1078 YX11_dayEnd ⟨wd1079, wd1080⟩ (mk_get (tl0 hT)) rfl rfl (s_X11_dayEnd g hT I R (sv xs i 1) (sv xs i 2)) rfl rfl (Nat.le_of_ble_eq_true rfl) (by decide) (Nat.zero_add _) (Nat.zero_add _) 931 rfl (fun rv h1 q => ?_)
  obtain ⟨m2, n2, v, rfl, rfl, I2, K2, _, _, P2⟩ := q
  exact after _ _ _ _ _ _ _ ⟨I2, ⟨la, lb, R⟩, (LX_eq hL (K2 123 20 rfl) (fun j => K2 136 j rfl) (fun j => K2 138 j rfl) (fun j => K2 139 j rfl) (fun j => K2 140 j rfl)), hT, hK, (EQ_kc I R R hE K2)⟩

set_option maxHeartbeats 4000000 in
set_option maxRecDepth 20000 in
theorem lx_c22 (g : pv_G) {b LL : Nat} {xs : Nat → Int32} {i : Int32} (hLL : LL ≤ 3072) (hi0 : 0 ≤ i.toInt) (hi6 : i.toInt + 6 ≤ LL) {T : List mv_T} {m : Nat → Nat → Int32} {n : Nat → Nat → Int64} {r : Nat → Value} {kc ks : Nat} (S : ST T r m kc ks) (kk : ∀ (T : List mv_T) (m : Nat → Nat → Int32) (n : Nat → Nat → Int64) (r : Nat → Value) (kc ks : Nat), ST T r m kc ks → PV (some (b, LL, xs)) g mL_law (fun r _ => r = some (.int 1)) 30 kc ks 1191 [.retAddr (b + 1), .ref 0, .ref 123, .int i] [] (mk T m n r)) : PV (some (b, LL, xs)) g mL_law (fun r _ => r = some (.int 1)) 30 kc ks 950 [.retAddr (b + 1), .ref 0, .ref 123, .int i] [] (mk T m n r) := by
  have after : ∀ (T : List mv_T) (m : Nat → Nat → Int32) (n : Nat → Nat → Int64) (r : Nat → Value) (kc ks : Nat) (w : Int32), ST T r m kc ks → PV (some (b, LL, xs)) g mL_law (fun r _ => r = some (.int 1)) 30 kc ks 969 [.retAddr (b + 1), .ref 0, .ref 123, .int i] [.int w] (mk T m n r) := by
    intro T m n r kc ks w S
    obtain ⟨I, ⟨la, lb, R⟩, hL, hT, hK, hE⟩ := S
    refine pv_pop (M := mL_law) dL_law_969 970 rfl rfl ?_
    refine pv_aload_n (M := mL_law) 2 dL_law_970 971 rfl rfl rfl ?_
    refine pv_aloadS_n (M := mL_law) 0 dL_law_971 972 rfl rfl rfl ?_
    refine pv_iload_n (M := mL_law) 3 dL_law_972 973 rfl rfl rfl ?_
    refine pv_iconst (M := mL_law) (v := 1) dL_law_973 974 rfl (by decide) ?_
    refine iv_iadd (M := mL_law) (X := i.toInt) (Y := 1) dL_law_974 975 rfl rfl (by decide) (by omega) (by omega) (fun u1 eu1 => ?_)
    refine pv_sld (M := mL_law) dL_law_975 (iv_in (X := i.toInt + 1) eu1 (by omega) (by omega)) (sv_eq (k := 1) eu1) 976 rfl ?_
    refine pv_aloadS_n (M := mL_law) 0 dL_law_976 977 rfl rfl rfl ?_
    refine pv_iload_n (M := mL_law) 3 dL_law_977 978 rfl rfl rfl ?_
    refine pv_iconst (M := mL_law) (v := 2) dL_law_978 979 rfl (by decide) ?_
    refine iv_iadd (M := mL_law) (X := i.toInt) (Y := 2) dL_law_979 980 rfl rfl (by decide) (by omega) (by omega) (fun u2 eu2 => ?_)
    refine pv_sld (M := mL_law) dL_law_980 (iv_in (X := i.toInt + 2) eu2 (by omega) (by omega)) (sv_eq (k := 2) eu2) 981 rfl ?_
    refine pv_aloadS_n (M := mL_law) 0 dL_law_981 982 rfl rfl rfl ?_
    refine pv_iload_n (M := mL_law) 3 dL_law_982 983 rfl rfl rfl ?_
    refine pv_iconst (M := mL_law) (v := 3) dL_law_983 984 rfl (by decide) ?_
    refine iv_iadd (M := mL_law) (X := i.toInt) (Y := 3) dL_law_984 985 rfl rfl (by decide) (by omega) (by omega) (fun u3 eu3 => ?_)
    refine pv_sld (M := mL_law) dL_law_985 (iv_in (X := i.toInt + 3) eu3 (by omega) (by omega)) (sv_eq (k := 3) eu3) 986 rfl ?_
    refine pv_callv (M := mL_law) (as := [.int (sv xs i 1), .int (sv xs i 2), .int (sv xs i 3)]) (st := []) (kc2 := kc) (ks2 := ks) dL_law_986 wd1741 YX12_worth ⟨wd1742, wd1743⟩ (mk_get (tl123 hT)) rfl rfl (s_X12_worth g hT I (sv xs i 1) (sv xs i 2) (sv xs i 3)) rfl rfl (Nat.le_of_ble_eq_true rfl) (by decide) (Nat.zero_add _) (Nat.zero_add _) 989 rfl (fun rv h1 q => ?_)
    obtain ⟨m2, n2, v, rfl, rfl, I2, K2, _, _, P2⟩ := q
    have hL2 : LX m2 := LX_eq hL (K2 123 20 rfl) (fun j => K2 136 j rfl) (fun j => K2 138 j rfl) (fun j => K2 139 j rfl) (fun j => K2 140 j rfl)
    show PV _ _ _ _ _ _ _ 989 [.retAddr (b + 1), .ref 0, .ref 123, .int i] [.int v] _
    refine pv_pop (M := mL_law) dL_law_989 990 rfl rfl ?_
    refine pv_goto (M := mL_law) (tgt := 1191) dL_law_990 (by decide) ?_
    exact kk _ _ _ _ _ _ ⟨I2, ⟨la, lb, R⟩, hL2, hT, hK, (EQ_kr I R hE K2 (by decide) (by decide))⟩
  obtain ⟨I, ⟨la, lb, R⟩, hL, hT, hK, hE⟩ := S
  refine pv_aload_n (M := mL_law) 1 dL_law_950 951 rfl rfl rfl ?_
  refine pv_aloadS_n (M := mL_law) 0 dL_law_951 952 rfl rfl rfl ?_
  refine pv_iload_n (M := mL_law) 3 dL_law_952 953 rfl rfl rfl ?_
  refine pv_iconst (M := mL_law) (v := 1) dL_law_953 954 rfl (by decide) ?_
  refine iv_iadd (M := mL_law) (X := i.toInt) (Y := 1) dL_law_954 955 rfl rfl (by decide) (by omega) (by omega) (fun a1 ea1 => ?_)
  refine pv_sld (M := mL_law) dL_law_955 (iv_in (X := i.toInt + 1) ea1 (by omega) (by omega)) (sv_eq (k := 1) ea1) 956 rfl ?_
  refine pv_aloadS_n (M := mL_law) 0 dL_law_956 957 rfl rfl rfl ?_
  refine pv_iload_n (M := mL_law) 3 dL_law_957 958 rfl rfl rfl ?_
  refine pv_iconst (M := mL_law) (v := 2) dL_law_958 959 rfl (by decide) ?_
  refine iv_iadd (M := mL_law) (X := i.toInt) (Y := 2) dL_law_959 960 rfl rfl (by decide) (by omega) (by omega) (fun a2 ea2 => ?_)
  refine pv_sld (M := mL_law) dL_law_960 (iv_in (X := i.toInt + 2) ea2 (by omega) (by omega)) (sv_eq (k := 2) ea2) 961 rfl ?_
  refine pv_aloadS_n (M := mL_law) 0 dL_law_961 962 rfl rfl rfl ?_
  refine pv_iload_n (M := mL_law) 3 dL_law_962 963 rfl rfl rfl ?_
  refine pv_iconst (M := mL_law) (v := 3) dL_law_963 964 rfl (by decide) ?_
  refine iv_iadd (M := mL_law) (X := i.toInt) (Y := 3) dL_law_964 965 rfl rfl (by decide) (by omega) (by omega) (fun a3 ea3 => ?_)
  refine pv_sld (M := mL_law) dL_law_965 (iv_in (X := i.toInt + 3) ea3 (by omega) (by omega)) (sv_eq (k := 3) ea3) 966 rfl ?_
  refine pv_callv (M := mL_law) (as := [.int (sv xs i 1), .int (sv xs i 2), .int (sv xs i 3)]) (st := []) (kc2 := kc) (ks2 := ks) dL_law_966 wd1104 YX11_worth ⟨wd1105, wd1106⟩ (mk_get (tl0 hT)) rfl rfl (s_X11_worth g hT I R (sv xs i 1) (sv xs i 2) (sv xs i 3)) rfl rfl (Nat.le_of_ble_eq_true rfl) (by decide) (Nat.zero_add _) (Nat.zero_add _) 969 rfl (fun rv h1 q => ?_)
  obtain ⟨m2, n2, v, rfl, rfl, I2, K2, _, _, P2⟩ := q
  exact after _ _ _ _ _ _ _ ⟨I2, ⟨la, lb, R⟩, (LX_eq hL (K2 123 20 rfl) (fun j => K2 136 j rfl) (fun j => K2 138 j rfl) (fun j => K2 139 j rfl) (fun j => K2 140 j rfl)), hT, hK, (EQ_kc I R R hE K2)⟩

set_option maxHeartbeats 4000000 in
set_option maxRecDepth 20000 in
theorem lx_c23 (g : pv_G) {b LL : Nat} {xs : Nat → Int32} {i : Int32} (hLL : LL ≤ 3072) (hi0 : 0 ≤ i.toInt) (hi6 : i.toInt + 6 ≤ LL) {T : List mv_T} {m : Nat → Nat → Int32} {n : Nat → Nat → Int64} {r : Nat → Value} {kc ks : Nat} (S : ST T r m kc ks) (kk : ∀ (T : List mv_T) (m : Nat → Nat → Int32) (n : Nat → Nat → Int64) (r : Nat → Value) (kc ks : Nat), ST T r m kc ks → PV (some (b, LL, xs)) g mL_law (fun r _ => r = some (.int 1)) 30 kc ks 1191 [.retAddr (b + 1), .ref 0, .ref 123, .int i] [] (mk T m n r)) : PV (some (b, LL, xs)) g mL_law (fun r _ => r = some (.int 1)) 30 kc ks 993 [.retAddr (b + 1), .ref 0, .ref 123, .int i] [] (mk T m n r) := by
  have after : ∀ (T : List mv_T) (m : Nat → Nat → Int32) (n : Nat → Nat → Int64) (r : Nat → Value) (kc ks : Nat) (w : Int32), ST T r m kc ks → PV (some (b, LL, xs)) g mL_law (fun r _ => r = some (.int 1)) 30 kc ks 1017 [.retAddr (b + 1), .ref 0, .ref 123, .int i] [.int w] (mk T m n r) := by
    intro T m n r kc ks w S
    obtain ⟨I, ⟨la, lb, R⟩, hL, hT, hK, hE⟩ := S
    refine pv_pop (M := mL_law) dL_law_1017 1018 rfl rfl ?_
    refine pv_aload_n (M := mL_law) 2 dL_law_1018 1019 rfl rfl rfl ?_
    refine pv_aloadS_n (M := mL_law) 0 dL_law_1019 1020 rfl rfl rfl ?_
    refine pv_iload_n (M := mL_law) 3 dL_law_1020 1021 rfl rfl rfl ?_
    refine pv_iconst (M := mL_law) (v := 1) dL_law_1021 1022 rfl (by decide) ?_
    refine iv_iadd (M := mL_law) (X := i.toInt) (Y := 1) dL_law_1022 1023 rfl rfl (by decide) (by omega) (by omega) (fun u1 eu1 => ?_)
    refine pv_sld (M := mL_law) dL_law_1023 (iv_in (X := i.toInt + 1) eu1 (by omega) (by omega)) (sv_eq (k := 1) eu1) 1024 rfl ?_
    refine pv_aloadS_n (M := mL_law) 0 dL_law_1024 1025 rfl rfl rfl ?_
    refine pv_iload_n (M := mL_law) 3 dL_law_1025 1026 rfl rfl rfl ?_
    refine pv_iconst (M := mL_law) (v := 2) dL_law_1026 1027 rfl (by decide) ?_
    refine iv_iadd (M := mL_law) (X := i.toInt) (Y := 2) dL_law_1027 1028 rfl rfl (by decide) (by omega) (by omega) (fun u2 eu2 => ?_)
    refine pv_sld (M := mL_law) dL_law_1028 (iv_in (X := i.toInt + 2) eu2 (by omega) (by omega)) (sv_eq (k := 2) eu2) 1029 rfl ?_
    refine pv_aloadS_n (M := mL_law) 0 dL_law_1029 1030 rfl rfl rfl ?_
    refine pv_iload_n (M := mL_law) 3 dL_law_1030 1031 rfl rfl rfl ?_
    refine pv_iconst (M := mL_law) (v := 3) dL_law_1031 1032 rfl (by decide) ?_
    refine iv_iadd (M := mL_law) (X := i.toInt) (Y := 3) dL_law_1032 1033 rfl rfl (by decide) (by omega) (by omega) (fun u3 eu3 => ?_)
    refine pv_sld (M := mL_law) dL_law_1033 (iv_in (X := i.toInt + 3) eu3 (by omega) (by omega)) (sv_eq (k := 3) eu3) 1034 rfl ?_
    refine pv_aloadS_n (M := mL_law) 0 dL_law_1034 1035 rfl rfl rfl ?_
    refine pv_iload_n (M := mL_law) 3 dL_law_1035 1036 rfl rfl rfl ?_
    refine pv_iconst (M := mL_law) (v := 4) dL_law_1036 1037 rfl (by decide) ?_
    refine iv_iadd (M := mL_law) (X := i.toInt) (Y := 4) dL_law_1037 1038 rfl rfl (by decide) (by omega) (by omega) (fun u4 eu4 => ?_)
    refine pv_sld (M := mL_law) dL_law_1038 (iv_in (X := i.toInt + 4) eu4 (by omega) (by omega)) (sv_eq (k := 4) eu4) 1039 rfl ?_
    refine pv_callv (M := mL_law) (as := [.int (sv xs i 1), .int (sv xs i 2), .int (sv xs i 3), .int (sv xs i 4)]) (st := []) (kc2 := kc) (ks2 := ks) dL_law_1039 wd1745 YX12_family ⟨wd1746, wd1747⟩ (mk_get (tl123 hT)) rfl rfl (s_X12_family g hT I (sv xs i 1) (sv xs i 2) (sv xs i 3) (sv xs i 4)) rfl rfl (Nat.le_of_ble_eq_true rfl) (by decide) (Nat.zero_add _) (Nat.zero_add _) 1042 rfl (fun rv h1 q => ?_)
    obtain ⟨m2, n2, v, rfl, rfl, I2, K2, _, _, P2⟩ := q
    have hL2 : LX m2 := LX_eq hL (K2 123 20 rfl) (fun j => K2 136 j rfl) (fun j => K2 138 j rfl) (fun j => K2 139 j rfl) (fun j => K2 140 j rfl)
    show PV _ _ _ _ _ _ _ 1042 [.retAddr (b + 1), .ref 0, .ref 123, .int i] [.int v] _
    refine pv_pop (M := mL_law) dL_law_1042 1043 rfl rfl ?_
    refine pv_goto (M := mL_law) (tgt := 1191) dL_law_1043 (by decide) ?_
    exact kk _ _ _ _ _ _ ⟨I2, ⟨la, lb, R⟩, hL2, hT, hK, (EQ_kr I R hE K2 (by decide) (by decide))⟩
  obtain ⟨I, ⟨la, lb, R⟩, hL, hT, hK, hE⟩ := S
  refine pv_aload_n (M := mL_law) 1 dL_law_993 994 rfl rfl rfl ?_
  refine pv_aloadS_n (M := mL_law) 0 dL_law_994 995 rfl rfl rfl ?_
  refine pv_iload_n (M := mL_law) 3 dL_law_995 996 rfl rfl rfl ?_
  refine pv_iconst (M := mL_law) (v := 1) dL_law_996 997 rfl (by decide) ?_
  refine iv_iadd (M := mL_law) (X := i.toInt) (Y := 1) dL_law_997 998 rfl rfl (by decide) (by omega) (by omega) (fun a1 ea1 => ?_)
  refine pv_sld (M := mL_law) dL_law_998 (iv_in (X := i.toInt + 1) ea1 (by omega) (by omega)) (sv_eq (k := 1) ea1) 999 rfl ?_
  refine pv_aloadS_n (M := mL_law) 0 dL_law_999 1000 rfl rfl rfl ?_
  refine pv_iload_n (M := mL_law) 3 dL_law_1000 1001 rfl rfl rfl ?_
  refine pv_iconst (M := mL_law) (v := 2) dL_law_1001 1002 rfl (by decide) ?_
  refine iv_iadd (M := mL_law) (X := i.toInt) (Y := 2) dL_law_1002 1003 rfl rfl (by decide) (by omega) (by omega) (fun a2 ea2 => ?_)
  refine pv_sld (M := mL_law) dL_law_1003 (iv_in (X := i.toInt + 2) ea2 (by omega) (by omega)) (sv_eq (k := 2) ea2) 1004 rfl ?_
  refine pv_aloadS_n (M := mL_law) 0 dL_law_1004 1005 rfl rfl rfl ?_
  refine pv_iload_n (M := mL_law) 3 dL_law_1005 1006 rfl rfl rfl ?_
  refine pv_iconst (M := mL_law) (v := 3) dL_law_1006 1007 rfl (by decide) ?_
  refine iv_iadd (M := mL_law) (X := i.toInt) (Y := 3) dL_law_1007 1008 rfl rfl (by decide) (by omega) (by omega) (fun a3 ea3 => ?_)
  refine pv_sld (M := mL_law) dL_law_1008 (iv_in (X := i.toInt + 3) ea3 (by omega) (by omega)) (sv_eq (k := 3) ea3) 1009 rfl ?_
  refine pv_aloadS_n (M := mL_law) 0 dL_law_1009 1010 rfl rfl rfl ?_
  refine pv_iload_n (M := mL_law) 3 dL_law_1010 1011 rfl rfl rfl ?_
  refine pv_iconst (M := mL_law) (v := 4) dL_law_1011 1012 rfl (by decide) ?_
  refine iv_iadd (M := mL_law) (X := i.toInt) (Y := 4) dL_law_1012 1013 rfl rfl (by decide) (by omega) (by omega) (fun a4 ea4 => ?_)
  refine pv_sld (M := mL_law) dL_law_1013 (iv_in (X := i.toInt + 4) ea4 (by omega) (by omega)) (sv_eq (k := 4) ea4) 1014 rfl ?_
  refine pv_callv (M := mL_law) (as := [.int (sv xs i 1), .int (sv xs i 2), .int (sv xs i 3), .int (sv xs i 4)]) (st := []) (kc2 := kc) (ks2 := ks) dL_law_1014 wd1108 YX11_family ⟨wd1109, wd1110⟩ (mk_get (tl0 hT)) rfl rfl (s_X11_family g hT I R (sv xs i 1) (sv xs i 2) (sv xs i 3) (sv xs i 4)) rfl rfl (Nat.le_of_ble_eq_true rfl) (by decide) (Nat.zero_add _) (Nat.zero_add _) 1017 rfl (fun rv h1 q => ?_)
  obtain ⟨m2, n2, v, rfl, rfl, I2, K2, _, _, P2⟩ := q
  exact after _ _ _ _ _ _ _ ⟨I2, ⟨la, lb, R⟩, (LX_eq hL (K2 123 20 rfl) (fun j => K2 136 j rfl) (fun j => K2 138 j rfl) (fun j => K2 139 j rfl) (fun j => K2 140 j rfl)), hT, hK, (EQ_kc I R R hE K2)⟩

set_option maxHeartbeats 4000000 in
set_option maxRecDepth 20000 in
theorem lx_c24 (g : pv_G) {b LL : Nat} {xs : Nat → Int32} {i : Int32} (hLL : LL ≤ 3072) (hi0 : 0 ≤ i.toInt) (hi6 : i.toInt + 6 ≤ LL) {T : List mv_T} {m : Nat → Nat → Int32} {n : Nat → Nat → Int64} {r : Nat → Value} {kc ks : Nat} (S : ST T r m kc ks) (kk : ∀ (T : List mv_T) (m : Nat → Nat → Int32) (n : Nat → Nat → Int64) (r : Nat → Value) (kc ks : Nat), ST T r m kc ks → PV (some (b, LL, xs)) g mL_law (fun r _ => r = some (.int 1)) 30 kc ks 1191 [.retAddr (b + 1), .ref 0, .ref 123, .int i] [] (mk T m n r)) : PV (some (b, LL, xs)) g mL_law (fun r _ => r = some (.int 1)) 30 kc ks 1046 [.retAddr (b + 1), .ref 0, .ref 123, .int i] [] (mk T m n r) := by
  have after : ∀ (T : List mv_T) (m : Nat → Nat → Int32) (n : Nat → Nat → Int64) (r : Nat → Value) (kc ks : Nat) (w : Int32), ST T r m kc ks → PV (some (b, LL, xs)) g mL_law (fun r _ => r = some (.int 1)) 30 kc ks 1060 [.retAddr (b + 1), .ref 0, .ref 123, .int i] [.int w] (mk T m n r) := by
    intro T m n r kc ks w S
    obtain ⟨I, ⟨la, lb, R⟩, hL, hT, hK, hE⟩ := S
    refine pv_pop (M := mL_law) dL_law_1060 1061 rfl rfl ?_
    refine pv_aload_n (M := mL_law) 2 dL_law_1061 1062 rfl rfl rfl ?_
    refine pv_aloadS_n (M := mL_law) 0 dL_law_1062 1063 rfl rfl rfl ?_
    refine pv_iload_n (M := mL_law) 3 dL_law_1063 1064 rfl rfl rfl ?_
    refine pv_iconst (M := mL_law) (v := 1) dL_law_1064 1065 rfl (by decide) ?_
    refine iv_iadd (M := mL_law) (X := i.toInt) (Y := 1) dL_law_1065 1066 rfl rfl (by decide) (by omega) (by omega) (fun u1 eu1 => ?_)
    refine pv_sld (M := mL_law) dL_law_1066 (iv_in (X := i.toInt + 1) eu1 (by omega) (by omega)) (sv_eq (k := 1) eu1) 1067 rfl ?_
    refine pv_aloadS_n (M := mL_law) 0 dL_law_1067 1068 rfl rfl rfl ?_
    refine pv_iload_n (M := mL_law) 3 dL_law_1068 1069 rfl rfl rfl ?_
    refine pv_iconst (M := mL_law) (v := 2) dL_law_1069 1070 rfl (by decide) ?_
    refine iv_iadd (M := mL_law) (X := i.toInt) (Y := 2) dL_law_1070 1071 rfl rfl (by decide) (by omega) (by omega) (fun u2 eu2 => ?_)
    refine pv_sld (M := mL_law) dL_law_1071 (iv_in (X := i.toInt + 2) eu2 (by omega) (by omega)) (sv_eq (k := 2) eu2) 1072 rfl ?_
    refine pv_callv (M := mL_law) (as := [.int (sv xs i 1), .int (sv xs i 2)]) (st := []) (kc2 := kc) (ks2 := ks) dL_law_1072 wd1757 YX12_chain ⟨wd1758, wd1759⟩ (mk_get (tl123 hT)) rfl rfl (s_X12_chain g hT I (sv xs i 1) (sv xs i 2)) rfl rfl (Nat.le_of_ble_eq_true rfl) (by decide) (Nat.zero_add _) (Nat.zero_add _) 1075 rfl (fun rv h1 q => ?_)
    obtain ⟨m2, n2, v, rfl, rfl, I2, K2, _, _, P2⟩ := q
    have hL2 : LX m2 := LX_eq hL (K2 123 20 rfl) (fun j => K2 136 j rfl) (fun j => K2 138 j rfl) (fun j => K2 139 j rfl) (fun j => K2 140 j rfl)
    show PV _ _ _ _ _ _ _ 1075 [.retAddr (b + 1), .ref 0, .ref 123, .int i] [.int v] _
    refine pv_pop (M := mL_law) dL_law_1075 1076 rfl rfl ?_
    refine pv_goto (M := mL_law) (tgt := 1191) dL_law_1076 (by decide) ?_
    exact kk _ _ _ _ _ _ ⟨I2, ⟨la, lb, R⟩, hL2, hT, hK, (EQ_kr I R hE K2 (by decide) (by decide))⟩
  obtain ⟨I, ⟨la, lb, R⟩, hL, hT, hK, hE⟩ := S
  refine pv_aload_n (M := mL_law) 1 dL_law_1046 1047 rfl rfl rfl ?_
  refine pv_aloadS_n (M := mL_law) 0 dL_law_1047 1048 rfl rfl rfl ?_
  refine pv_iload_n (M := mL_law) 3 dL_law_1048 1049 rfl rfl rfl ?_
  refine pv_iconst (M := mL_law) (v := 1) dL_law_1049 1050 rfl (by decide) ?_
  refine iv_iadd (M := mL_law) (X := i.toInt) (Y := 1) dL_law_1050 1051 rfl rfl (by decide) (by omega) (by omega) (fun a1 ea1 => ?_)
  refine pv_sld (M := mL_law) dL_law_1051 (iv_in (X := i.toInt + 1) ea1 (by omega) (by omega)) (sv_eq (k := 1) ea1) 1052 rfl ?_
  refine pv_aloadS_n (M := mL_law) 0 dL_law_1052 1053 rfl rfl rfl ?_
  refine pv_iload_n (M := mL_law) 3 dL_law_1053 1054 rfl rfl rfl ?_
  refine pv_iconst (M := mL_law) (v := 2) dL_law_1054 1055 rfl (by decide) ?_
  refine iv_iadd (M := mL_law) (X := i.toInt) (Y := 2) dL_law_1055 1056 rfl rfl (by decide) (by omega) (by omega) (fun a2 ea2 => ?_)
  refine pv_sld (M := mL_law) dL_law_1056 (iv_in (X := i.toInt + 2) ea2 (by omega) (by omega)) (sv_eq (k := 2) ea2) 1057 rfl ?_
  refine pv_callv (M := mL_law) (as := [.int (sv xs i 1), .int (sv xs i 2)]) (st := []) (kc2 := kc) (ks2 := ks) dL_law_1057 wd1120 YX11_chain ⟨wd1121, wd1122⟩ (mk_get (tl0 hT)) rfl rfl (s_X11_chain g hT I R (sv xs i 1) (sv xs i 2)) rfl rfl (Nat.le_of_ble_eq_true rfl) (by decide) (Nat.zero_add _) (Nat.zero_add _) 1060 rfl (fun rv h1 q => ?_)
  obtain ⟨m2, n2, v, rfl, rfl, I2, K2, _, _, P2⟩ := q
  exact after _ _ _ _ _ _ _ ⟨I2, ⟨la, lb, R⟩, (LX_eq hL (K2 123 20 rfl) (fun j => K2 136 j rfl) (fun j => K2 138 j rfl) (fun j => K2 139 j rfl) (fun j => K2 140 j rfl)), hT, hK, (EQ_kc I R R hE K2)⟩

set_option maxHeartbeats 4000000 in
set_option maxRecDepth 20000 in
theorem lx_c25 (g : pv_G) {b LL : Nat} {xs : Nat → Int32} {i : Int32} (hLL : LL ≤ 3072) (hi0 : 0 ≤ i.toInt) (hi6 : i.toInt + 6 ≤ LL) {T : List mv_T} {m : Nat → Nat → Int32} {n : Nat → Nat → Int64} {r : Nat → Value} {kc ks : Nat} (S : ST T r m kc ks) (kk : ∀ (T : List mv_T) (m : Nat → Nat → Int32) (n : Nat → Nat → Int64) (r : Nat → Value) (kc ks : Nat), ST T r m kc ks → PV (some (b, LL, xs)) g mL_law (fun r _ => r = some (.int 1)) 30 kc ks 1191 [.retAddr (b + 1), .ref 0, .ref 123, .int i] [] (mk T m n r)) : PV (some (b, LL, xs)) g mL_law (fun r _ => r = some (.int 1)) 30 kc ks 1079 [.retAddr (b + 1), .ref 0, .ref 123, .int i] [] (mk T m n r) := by
  obtain ⟨I, ⟨la, lb, R⟩, hL, hT, hK, hE⟩ := S
  have hA := hE la lb R.2.2.1 R.2.2.2.1
  have zR := R.2.2.2.2.1.1
  have zR2 := R.2.2.2.2.2.1
  have after : ∀ (T : List mv_T) (m1 : Nat → Nat → Int32) (n1 : Nat → Nat → Int64) (r1 : Nat → Value) (kc ks : Nat) (w : Int32), ST0 T r1 m1 kc ks → (((w.toInt = 1 ∧ 0 ≤ (sv xs i 1).toInt ∧ (sv xs i 1).toInt ≤ 65535 ∧ m1 0 8 = (sv xs i 1)) ∨ (w.toInt = 0 ∧ ((sv xs i 1).toInt < 0 ∨ 65535 < (sv xs i 1).toInt) ∧ m1 0 8 = m 0 8)) ∧ fr (wl [(0, 0, some 8)]) m m1 ∧ r1 = r) → PV (some (b, LL, xs)) g mL_law (fun r _ => r = some (.int 1)) 30 kc ks 1088 [.retAddr (b + 1), .ref 0, .ref 123, .int i] [.int w] (mk T m1 n1 r1) := by
    intro T m1 n1 r1 kc ks w S1 hf
    obtain ⟨I1, ⟨la1, lb1, R1⟩, hL1, hT, hK1⟩ := S1
    have hr := hf.2.2
    subst hr
    refine pv_pop (M := mL_law) dL_law_1088 1089 rfl rfl ?_
    refine pv_aload_n (M := mL_law) 2 dL_law_1089 1090 rfl rfl rfl ?_
    refine pv_aloadS_n (M := mL_law) 0 dL_law_1090 1091 rfl rfl rfl ?_
    refine pv_iload_n (M := mL_law) 3 dL_law_1091 1092 rfl rfl rfl ?_
    refine pv_iconst (M := mL_law) (v := 1) dL_law_1092 1093 rfl (by decide) ?_
    refine iv_iadd (M := mL_law) (X := i.toInt) (Y := 1) dL_law_1093 1094 rfl rfl (by decide) (by omega) (by omega) (fun u1 eu1 => ?_)
    refine pv_sld (M := mL_law) dL_law_1094 (iv_in (X := i.toInt + 1) eu1 (by omega) (by omega)) (sv_eq (k := 1) eu1) 1095 rfl ?_
    refine pv_callv (M := mL_law) (as := [.int (sv xs i 1)]) (st := []) (kc2 := kc) (ks2 := ks) dL_law_1095 wd1773 YX12_seed ⟨wd1774, wd1775⟩ (mk_get (tl123 hT)) rfl rfl (s_X12_seed_va g hT I1 (sv xs i 1)) rfl rfl (Nat.le_of_ble_eq_true rfl) (by decide) (Nat.zero_add _) (Nat.zero_add _) 1098 rfl (fun rv h1 q => ?_)
    obtain ⟨m2, n2, v, rfl, rfl, I2, K2, _, _, P2⟩ := q
    have hL2 : LX m2 := LX_eq hL1 (K2 123 20 rfl) (fun j => K2 136 j rfl) (fun j => K2 138 j rfl) (fun j => K2 139 j rfl) (fun j => K2 140 j rfl)
    have Z := seed_EA I zR hA hf.1 P2 (fun a i q => hf.2.1 a i (wl_1 q)) (fun a i q => K2 a i (wl_1 q))
    have Y := Z.2
    show PV _ _ _ _ _ _ _ 1098 [.retAddr (b + 1), .ref 0, .ref 123, .int i] [.int v] _
    refine pv_pop (M := mL_law) dL_law_1098 1099 rfl rfl ?_
    refine pv_goto (M := mL_law) (tgt := 1191) dL_law_1099 (by decide) ?_
    exact kk _ _ _ _ _ _ ⟨I2, ⟨la1, lb1, R1⟩, hL2, hT, hK1, EQ_of R Y⟩
  refine pv_aload_n (M := mL_law) 1 dL_law_1079 1080 rfl rfl rfl ?_
  refine pv_aloadS_n (M := mL_law) 0 dL_law_1080 1081 rfl rfl rfl ?_
  refine pv_iload_n (M := mL_law) 3 dL_law_1081 1082 rfl rfl rfl ?_
  refine pv_iconst (M := mL_law) (v := 1) dL_law_1082 1083 rfl (by decide) ?_
  refine iv_iadd (M := mL_law) (X := i.toInt) (Y := 1) dL_law_1083 1084 rfl rfl (by decide) (by omega) (by omega) (fun a1 ea1 => ?_)
  refine pv_sld (M := mL_law) dL_law_1084 (iv_in (X := i.toInt + 1) ea1 (by omega) (by omega)) (sv_eq (k := 1) ea1) 1085 rfl ?_
  refine pv_callv (M := mL_law) (as := [.int (sv xs i 1)]) (st := []) (kc2 := kc) (ks2 := ks) dL_law_1085 wd1141 YX11_seed ⟨wd1142, wd1143⟩ (mk_get (tl0 hT)) rfl rfl (s_X11_seed_va g hT I R (sv xs i 1)) rfl rfl (Nat.le_of_ble_eq_true rfl) (by decide) (Nat.zero_add _) (Nat.zero_add _) 1088 rfl (fun rv h1 q => ?_)
  obtain ⟨m2, n2, v, rfl, rfl, I2, K2, _, _, P2⟩ := q
  exact after _ _ _ _ _ _ _ ⟨I2, ⟨la, lb, R⟩, (LX_eq hL (K2 123 20 rfl) (fun j => K2 136 j rfl) (fun j => K2 138 j rfl) (fun j => K2 139 j rfl) (fun j => K2 140 j rfl)), hT, hK⟩ ⟨P2, K2, rfl⟩

set_option maxHeartbeats 4000000 in
set_option maxRecDepth 20000 in
theorem lx_c26 (g : pv_G) {b LL : Nat} {xs : Nat → Int32} {i : Int32} (hLL : LL ≤ 3072) (hi0 : 0 ≤ i.toInt) (hi6 : i.toInt + 6 ≤ LL) {T : List mv_T} {m : Nat → Nat → Int32} {n : Nat → Nat → Int64} {r : Nat → Value} {kc ks : Nat} (S : ST T r m kc ks) (kk : ∀ (T : List mv_T) (m : Nat → Nat → Int32) (n : Nat → Nat → Int64) (r : Nat → Value) (kc ks : Nat), ST T r m kc ks → PV (some (b, LL, xs)) g mL_law (fun r _ => r = some (.int 1)) 30 kc ks 1191 [.retAddr (b + 1), .ref 0, .ref 123, .int i] [] (mk T m n r)) : PV (some (b, LL, xs)) g mL_law (fun r _ => r = some (.int 1)) 30 kc ks 1102 [.retAddr (b + 1), .ref 0, .ref 123, .int i] [] (mk T m n r) := by
  obtain ⟨I, ⟨la, lb, R⟩, hL, hT, hK, hE⟩ := S
  have hA := hE la lb R.2.2.1 R.2.2.2.1
  have zR := R.2.2.2.2.1.1
  have zR2 := R.2.2.2.2.2.1
  obtain ⟨t, hLc, hLr, hLn⟩ := hA.2.2.2.2.2.1
  have hRS := hA.2.2.1
  have hBI := hA.2.2.2.2.1
  have after : ∀ (T : List mv_T) (m1 : Nat → Nat → Int32) (n1 : Nat → Nat → Int64) (r1 : Nat → Value) (kc ks : Nat) (w : Int32), ST0 T r1 m1 kc ks → ((DRWP ((0 ≤ (sv xs i 1).toInt ∧ (sv xs i 1).toInt < (m 0 2).toInt) ∧ 1 ≤ (sv xs i 2).toInt ∧ (sv xs i 2).toInt ≤ 40) (sv xs i 2).toInt (fun M => (M ((4 + 7 * (sv xs i 1).toInt.toNat) + 3) 1).toInt ≤ 1) (fun k M w => DCc la t (sv xs i 1).toInt.toNat k m M w) (∀ a j, isR a j = true → m1 a j = m a j) m1 w.toInt) ∧ fr wO m m1 ∧ r1 = r) → PV (some (b, LL, xs)) g mL_law (fun r _ => r = some (.int 1)) 30 kc ks 1116 [.retAddr (b + 1), .ref 0, .ref 123, .int i] [.int w] (mk T m1 n1 r1) := by
    intro T m1 n1 r1 kc ks w S1 hf
    obtain ⟨I1, ⟨la1, lb1, R1⟩, hL1, hT, hK1⟩ := S1
    have hr := hf.2.2
    subst hr
    have hLr1 : LAWr m1 t (m1 123 20).toInt.toNat := by rw [hf.2.1 123 20 rfl]; exact LAWr_c hLr hf.2.1
    refine pv_pop (M := mL_law) dL_law_1116 1117 rfl rfl ?_
    refine pv_aload_n (M := mL_law) 2 dL_law_1117 1118 rfl rfl rfl ?_
    refine pv_aloadS_n (M := mL_law) 0 dL_law_1118 1119 rfl rfl rfl ?_
    refine pv_iload_n (M := mL_law) 3 dL_law_1119 1120 rfl rfl rfl ?_
    refine pv_iconst (M := mL_law) (v := 1) dL_law_1120 1121 rfl (by decide) ?_
    refine iv_iadd (M := mL_law) (X := i.toInt) (Y := 1) dL_law_1121 1122 rfl rfl (by decide) (by omega) (by omega) (fun u1 eu1 => ?_)
    refine pv_sld (M := mL_law) dL_law_1122 (iv_in (X := i.toInt + 1) eu1 (by omega) (by omega)) (sv_eq (k := 1) eu1) 1123 rfl ?_
    refine pv_aloadS_n (M := mL_law) 0 dL_law_1123 1124 rfl rfl rfl ?_
    refine pv_iload_n (M := mL_law) 3 dL_law_1124 1125 rfl rfl rfl ?_
    refine pv_iconst (M := mL_law) (v := 2) dL_law_1125 1126 rfl (by decide) ?_
    refine iv_iadd (M := mL_law) (X := i.toInt) (Y := 2) dL_law_1126 1127 rfl rfl (by decide) (by omega) (by omega) (fun u2 eu2 => ?_)
    refine pv_sld (M := mL_law) dL_law_1127 (iv_in (X := i.toInt + 2) eu2 (by omega) (by omega)) (sv_eq (k := 2) eu2) 1128 rfl ?_
    refine pv_callv (M := mL_law) (as := [.int (sv xs i 1), .int (sv xs i 2)]) (st := []) (kc2 := kc) (ks2 := ks) dL_law_1128 wd1778 YX12_draw ⟨wd1779, wd1780⟩ (mk_get (tl123 hT)) rfl rfl (s_X12_draw_va g hT I1 (sv xs i 1) (sv xs i 2) t hL1 hLr1) rfl rfl (Nat.le_of_ble_eq_true rfl) (by decide) (Nat.zero_add _) (Nat.zero_add _) 1131 rfl (fun rv h1 q => ?_)
    obtain ⟨m2, n2, v, rfl, rfl, I2, K2, _, _, P2⟩ := q
    have hL2 : LX m2 := LX_eq hL1 (K2 123 20 rfl) (fun j => K2 136 j rfl) (fun j => K2 138 j rfl) (fun j => K2 139 j rfl) (fun j => K2 140 j rfl)
    have Z := draw_EA I zR hA hf.1 P2 hf.2.1 (fun a i q => K2 a i (wl_lo (by decide) q)) (fun a i q => K2 a i (wl_nF (by decide) q)) (K2 123 0 rfl) (fun j => K2 124 j rfl)
    have Y := Z.2
    show PV _ _ _ _ _ _ _ 1131 [.retAddr (b + 1), .ref 0, .ref 123, .int i] [.int v] _
    refine pv_pop (M := mL_law) dL_law_1131 1132 rfl rfl ?_
    refine pv_goto (M := mL_law) (tgt := 1191) dL_law_1132 (by decide) ?_
    exact kk _ _ _ _ _ _ ⟨I2, ⟨la1, lb1, R1⟩, hL2, hT, hK1, EQ_of R Y⟩
  refine pv_aload_n (M := mL_law) 1 dL_law_1102 1103 rfl rfl rfl ?_
  refine pv_aloadS_n (M := mL_law) 0 dL_law_1103 1104 rfl rfl rfl ?_
  refine pv_iload_n (M := mL_law) 3 dL_law_1104 1105 rfl rfl rfl ?_
  refine pv_iconst (M := mL_law) (v := 1) dL_law_1105 1106 rfl (by decide) ?_
  refine iv_iadd (M := mL_law) (X := i.toInt) (Y := 1) dL_law_1106 1107 rfl rfl (by decide) (by omega) (by omega) (fun a1 ea1 => ?_)
  refine pv_sld (M := mL_law) dL_law_1107 (iv_in (X := i.toInt + 1) ea1 (by omega) (by omega)) (sv_eq (k := 1) ea1) 1108 rfl ?_
  refine pv_aloadS_n (M := mL_law) 0 dL_law_1108 1109 rfl rfl rfl ?_
  refine pv_iload_n (M := mL_law) 3 dL_law_1109 1110 rfl rfl rfl ?_
  refine pv_iconst (M := mL_law) (v := 2) dL_law_1110 1111 rfl (by decide) ?_
  refine iv_iadd (M := mL_law) (X := i.toInt) (Y := 2) dL_law_1111 1112 rfl rfl (by decide) (by omega) (by omega) (fun a2 ea2 => ?_)
  refine pv_sld (M := mL_law) dL_law_1112 (iv_in (X := i.toInt + 2) ea2 (by omega) (by omega)) (sv_eq (k := 2) ea2) 1113 rfl ?_
  refine pv_callv (M := mL_law) (as := [.int (sv xs i 1), .int (sv xs i 2)]) (st := []) (kc2 := kc) (ks2 := ks) dL_law_1113 wd1146 YX11_draw ⟨wd1147, wd1148⟩ (mk_get (tl0 hT)) rfl rfl (s_X11_draw_va g hT I R (sv xs i 1) (sv xs i 2) t hRS hLc) rfl rfl (Nat.le_of_ble_eq_true rfl) (by decide) (Nat.zero_add _) (Nat.zero_add _) 1116 rfl (fun rv h1 q => ?_)
  obtain ⟨m2, n2, v, rfl, rfl, I2, K2, _, _, P2⟩ := q
  exact after _ _ _ _ _ _ _ ⟨I2, ⟨la, lb, R⟩, (LX_eq hL (K2 123 20 rfl) (fun j => K2 136 j rfl) (fun j => K2 138 j rfl) (fun j => K2 139 j rfl) (fun j => K2 140 j rfl)), hT, hK⟩ ⟨P2, K2, rfl⟩

set_option maxHeartbeats 4000000 in
set_option maxRecDepth 20000 in
theorem lx_c27 (g : pv_G) {b LL : Nat} {xs : Nat → Int32} {i : Int32} (hLL : LL ≤ 3072) (hi0 : 0 ≤ i.toInt) (hi6 : i.toInt + 6 ≤ LL) {T : List mv_T} {m : Nat → Nat → Int32} {n : Nat → Nat → Int64} {r : Nat → Value} {kc ks : Nat} (S : ST T r m kc ks) (kk : ∀ (T : List mv_T) (m : Nat → Nat → Int32) (n : Nat → Nat → Int64) (r : Nat → Value) (kc ks : Nat), ST T r m kc ks → PV (some (b, LL, xs)) g mL_law (fun r _ => r = some (.int 1)) 30 kc ks 1191 [.retAddr (b + 1), .ref 0, .ref 123, .int i] [] (mk T m n r)) : PV (some (b, LL, xs)) g mL_law (fun r _ => r = some (.int 1)) 30 kc ks 1135 [.retAddr (b + 1), .ref 0, .ref 123, .int i] [] (mk T m n r) := by
  obtain ⟨I, ⟨la, lb, R⟩, hL, hT, hK, hE⟩ := S
  have hA := hE la lb R.2.2.1 R.2.2.2.1
  have zR := R.2.2.2.2.1.1
  have zR2 := R.2.2.2.2.2.1
  have after : ∀ (T : List mv_T) (m1 : Nat → Nat → Int32) (n1 : Nat → Nat → Int64) (r1 : Nat → Value) (kc ks : Nat) (w : Int32), ST0 T r1 m1 kc ks → ((CKK (sv xs i 1).toInt (sv xs i 2).toInt (m 0 2).toInt (m 1 1).toInt (m1 1 1).toInt ∧ CHKc ((0 ≤ (sv xs i 1).toInt ∧ (sv xs i 1).toInt < (m 0 2).toInt) ∧ 0 ≤ (sv xs i 2).toInt ∧ 4 * (sv xs i 2).toInt ≤ (m 1 1).toInt) (sv xs i 2).toInt (m (4 + 7 * (sv xs i 1).toInt.toNat + 3) 1).toInt (fun j => tnF (m 2) (4 * j) 4 = m (4 + 7 * (sv xs i 1).toInt.toNat + 4) j) w.toInt) ∧ fr (wl [(1, 1, some 1)]) m m1 ∧ r1 = r) → PV (some (b, LL, xs)) g mL_law (fun r _ => r = some (.int 1)) 30 kc ks 1149 [.retAddr (b + 1), .ref 0, .ref 123, .int i] [.int w] (mk T m1 n1 r1) := by
    intro T m1 n1 r1 kc ks w S1 hf
    obtain ⟨I1, ⟨la1, lb1, R1⟩, hL1, hT, hK1⟩ := S1
    have hr := hf.2.2
    subst hr
    refine pv_pop (M := mL_law) dL_law_1149 1150 rfl rfl ?_
    refine pv_aload_n (M := mL_law) 2 dL_law_1150 1151 rfl rfl rfl ?_
    refine pv_aloadS_n (M := mL_law) 0 dL_law_1151 1152 rfl rfl rfl ?_
    refine pv_iload_n (M := mL_law) 3 dL_law_1152 1153 rfl rfl rfl ?_
    refine pv_iconst (M := mL_law) (v := 1) dL_law_1153 1154 rfl (by decide) ?_
    refine iv_iadd (M := mL_law) (X := i.toInt) (Y := 1) dL_law_1154 1155 rfl rfl (by decide) (by omega) (by omega) (fun u1 eu1 => ?_)
    refine pv_sld (M := mL_law) dL_law_1155 (iv_in (X := i.toInt + 1) eu1 (by omega) (by omega)) (sv_eq (k := 1) eu1) 1156 rfl ?_
    refine pv_aloadS_n (M := mL_law) 0 dL_law_1156 1157 rfl rfl rfl ?_
    refine pv_iload_n (M := mL_law) 3 dL_law_1157 1158 rfl rfl rfl ?_
    refine pv_iconst (M := mL_law) (v := 2) dL_law_1158 1159 rfl (by decide) ?_
    refine iv_iadd (M := mL_law) (X := i.toInt) (Y := 2) dL_law_1159 1160 rfl rfl (by decide) (by omega) (by omega) (fun u2 eu2 => ?_)
    refine pv_sld (M := mL_law) dL_law_1160 (iv_in (X := i.toInt + 2) eu2 (by omega) (by omega)) (sv_eq (k := 2) eu2) 1161 rfl ?_
    refine pv_callv (M := mL_law) (as := [.int (sv xs i 1), .int (sv xs i 2)]) (st := []) (kc2 := kc) (ks2 := ks) dL_law_1161 wd1783 YX12_check ⟨wd1784, wd1785⟩ (mk_get (tl123 hT)) rfl rfl (s_X12_check_va g hT I1 (sv xs i 1) (sv xs i 2)) rfl rfl (Nat.le_of_ble_eq_true rfl) (by decide) (Nat.zero_add _) (Nat.zero_add _) 1164 rfl (fun rv h1 q => ?_)
    obtain ⟨m2, n2, v, rfl, rfl, I2, K2, _, _, P2⟩ := q
    have hL2 : LX m2 := LX_eq hL1 (K2 123 20 rfl) (fun j => K2 136 j rfl) (fun j => K2 138 j rfl) (fun j => K2 139 j rfl) (fun j => K2 140 j rfl)
    have Z0 := (let Z := check_EQ hA.1.1 hf.1.1 P2.1 (hf.2.1 123 0 rfl) (hf.2.1 123 11 rfl) ((K2 0 7 rfl).trans (hf.2.1 0 7 rfl)) ((K2 123 1 rfl).trans (hf.2.1 123 1 rfl)) ((K2 0 2 rfl).trans (hf.2.1 0 2 rfl)) ((K2 123 0 rfl).trans (hf.2.1 123 0 rfl)) (K2 1 1 rfl) (fun j => (K2 2 j rfl).trans (hf.2.1 2 j rfl)) (fun j => (K2 129 j rfl).trans (hf.2.1 129 j rfl)); EQW_k I hA.1 Z (fun a j h => (K2 a j (wl_isW (by decide) h)).trans (hf.2.1 a j (wl_isW (by decide) h))) (fun j => (K2 124 j rfl).trans (hf.2.1 124 j rfl)) (fun j => (K2 125 j rfl).trans (hf.2.1 125 j rfl)) (fun j => (K2 126 j rfl).trans (hf.2.1 126 j rfl)) (fun j => (K2 127 j rfl).trans (hf.2.1 127 j rfl)) ((K2 123 4 rfl).trans (hf.2.1 123 4 rfl)) ((K2 0 2 rfl).trans (hf.2.1 0 2 rfl)))
    have Z := And.intro (check_A I hA hf.1.2 P2.2 (fun a i q => hf.2.1 a i (wl_1 q))) Z0
    have Y := EA_isR I zR hA Z.2 (fun a i q => (K2 a i (wl_nR (by decide) q)).trans (hf.2.1 a i (wl_nR (by decide) q)))
    show PV _ _ _ _ _ _ _ 1164 [.retAddr (b + 1), .ref 0, .ref 123, .int i] [.int v] _
    refine pv_pop (M := mL_law) dL_law_1164 1165 rfl rfl ?_
    refine pv_goto (M := mL_law) (tgt := 1191) dL_law_1165 (by decide) ?_
    exact kk _ _ _ _ _ _ ⟨I2, ⟨la1, lb1, R1⟩, hL2, hT, hK1, EQ_of R Y⟩
  refine pv_aload_n (M := mL_law) 1 dL_law_1135 1136 rfl rfl rfl ?_
  refine pv_aloadS_n (M := mL_law) 0 dL_law_1136 1137 rfl rfl rfl ?_
  refine pv_iload_n (M := mL_law) 3 dL_law_1137 1138 rfl rfl rfl ?_
  refine pv_iconst (M := mL_law) (v := 1) dL_law_1138 1139 rfl (by decide) ?_
  refine iv_iadd (M := mL_law) (X := i.toInt) (Y := 1) dL_law_1139 1140 rfl rfl (by decide) (by omega) (by omega) (fun a1 ea1 => ?_)
  refine pv_sld (M := mL_law) dL_law_1140 (iv_in (X := i.toInt + 1) ea1 (by omega) (by omega)) (sv_eq (k := 1) ea1) 1141 rfl ?_
  refine pv_aloadS_n (M := mL_law) 0 dL_law_1141 1142 rfl rfl rfl ?_
  refine pv_iload_n (M := mL_law) 3 dL_law_1142 1143 rfl rfl rfl ?_
  refine pv_iconst (M := mL_law) (v := 2) dL_law_1143 1144 rfl (by decide) ?_
  refine iv_iadd (M := mL_law) (X := i.toInt) (Y := 2) dL_law_1144 1145 rfl rfl (by decide) (by omega) (by omega) (fun a2 ea2 => ?_)
  refine pv_sld (M := mL_law) dL_law_1145 (iv_in (X := i.toInt + 2) ea2 (by omega) (by omega)) (sv_eq (k := 2) ea2) 1146 rfl ?_
  refine pv_callv (M := mL_law) (as := [.int (sv xs i 1), .int (sv xs i 2)]) (st := []) (kc2 := kc) (ks2 := ks) dL_law_1146 wd1151 YX11_check ⟨wd1152, wd1153⟩ (mk_get (tl0 hT)) rfl rfl (s_X11_check_va g hT I R (sv xs i 1) (sv xs i 2)) rfl rfl (Nat.le_of_ble_eq_true rfl) (by decide) (Nat.zero_add _) (Nat.zero_add _) 1149 rfl (fun rv h1 q => ?_)
  obtain ⟨m2, n2, v, rfl, rfl, I2, K2, _, _, P2⟩ := q
  exact after _ _ _ _ _ _ _ ⟨I2, ⟨la, lb, R⟩, (LX_eq hL (K2 123 20 rfl) (fun j => K2 136 j rfl) (fun j => K2 138 j rfl) (fun j => K2 139 j rfl) (fun j => K2 140 j rfl)), hT, hK⟩ ⟨P2, K2, rfl⟩

set_option maxHeartbeats 4000000 in
set_option maxRecDepth 20000 in
theorem lx_c28 (g : pv_G) {b LL : Nat} {xs : Nat → Int32} {i : Int32} (hLL : LL ≤ 3072) (hi0 : 0 ≤ i.toInt) (hi6 : i.toInt + 6 ≤ LL) {T : List mv_T} {m : Nat → Nat → Int32} {n : Nat → Nat → Int64} {r : Nat → Value} {kc ks : Nat} (S : ST T r m kc ks) (kk : ∀ (T : List mv_T) (m : Nat → Nat → Int32) (n : Nat → Nat → Int64) (r : Nat → Value) (kc ks : Nat), ST T r m kc ks → PV (some (b, LL, xs)) g mL_law (fun r _ => r = some (.int 1)) 30 kc ks 1191 [.retAddr (b + 1), .ref 0, .ref 123, .int i] [] (mk T m n r)) : PV (some (b, LL, xs)) g mL_law (fun r _ => r = some (.int 1)) 30 kc ks 1168 [.retAddr (b + 1), .ref 0, .ref 123, .int i] [] (mk T m n r) := by
  obtain ⟨I, ⟨la, lb, R⟩, hL, hT, hK, hE⟩ := S
  have hA := hE la lb R.2.2.1 R.2.2.2.1
  have zR := R.2.2.2.2.1.1
  have zR2 := R.2.2.2.2.2.1
  have after : ∀ (T : List mv_T) (m1 : Nat → Nat → Int32) (n1 : Nat → Nat → Int64) (r1 : Nat → Value) (kc ks : Nat) (w : Int32), ST0 T r1 m1 kc ks → ((CNT (sv xs i 1) (m 0 2).toInt (fun y => (m (4 + 7 * y.toNat + 3) 1).toInt) (fun iq => m (61 + 2 * iq) 1) (cntC m la) w) ∧ fr (wl []) m m1 ∧ r1 = r) → PV (some (b, LL, xs)) g mL_law (fun r _ => r = some (.int 1)) 30 kc ks 1177 [.retAddr (b + 1), .ref 0, .ref 123, .int i] [.int w] (mk T m1 n1 r1) := by
    intro T m1 n1 r1 kc ks w S1 hf
    obtain ⟨I1, ⟨la1, lb1, R1⟩, hL1, hT, hK1⟩ := S1
    have hr := hf.2.2
    subst hr
    refine pv_pop (M := mL_law) dL_law_1177 1178 rfl rfl ?_
    refine pv_aload_n (M := mL_law) 2 dL_law_1178 1179 rfl rfl rfl ?_
    refine pv_aloadS_n (M := mL_law) 0 dL_law_1179 1180 rfl rfl rfl ?_
    refine pv_iload_n (M := mL_law) 3 dL_law_1180 1181 rfl rfl rfl ?_
    refine pv_iconst (M := mL_law) (v := 1) dL_law_1181 1182 rfl (by decide) ?_
    refine iv_iadd (M := mL_law) (X := i.toInt) (Y := 1) dL_law_1182 1183 rfl rfl (by decide) (by omega) (by omega) (fun u1 eu1 => ?_)
    refine pv_sld (M := mL_law) dL_law_1183 (iv_in (X := i.toInt + 1) eu1 (by omega) (by omega)) (sv_eq (k := 1) eu1) 1184 rfl ?_
    refine pv_callv (M := mL_law) (as := [.int (sv xs i 1)]) (st := []) (kc2 := kc) (ks2 := ks) dL_law_1184 wd1791 YX12_count ⟨wd1792, wd1793⟩ (mk_get (tl123 hT)) rfl rfl (s_X12_count_va g hT I1 (sv xs i 1)) rfl rfl (Nat.le_of_ble_eq_true rfl) (by decide) (Nat.zero_add _) (Nat.zero_add _) 1187 rfl (fun rv h1 q => ?_)
    obtain ⟨v, rfl, rfl, _, _, P2⟩ := q
    have Z := count_EA I hA hf.1 P2 hf.2.1
    have Y := Z.2
    show PV _ _ _ _ _ _ _ 1187 [.retAddr (b + 1), .ref 0, .ref 123, .int i] [.int v] _
    refine pv_pop (M := mL_law) dL_law_1187 1188 rfl rfl ?_
    refine pv_goto (M := mL_law) (tgt := 1191) dL_law_1188 (by decide) ?_
    exact kk _ _ _ _ _ _ ⟨I1, ⟨la1, lb1, R1⟩, hL1, hT, hK1, EQ_of R Y⟩
  refine pv_aload_n (M := mL_law) 1 dL_law_1168 1169 rfl rfl rfl ?_
  refine pv_aloadS_n (M := mL_law) 0 dL_law_1169 1170 rfl rfl rfl ?_
  refine pv_iload_n (M := mL_law) 3 dL_law_1170 1171 rfl rfl rfl ?_
  refine pv_iconst (M := mL_law) (v := 1) dL_law_1171 1172 rfl (by decide) ?_
  refine iv_iadd (M := mL_law) (X := i.toInt) (Y := 1) dL_law_1172 1173 rfl rfl (by decide) (by omega) (by omega) (fun a1 ea1 => ?_)
  refine pv_sld (M := mL_law) dL_law_1173 (iv_in (X := i.toInt + 1) ea1 (by omega) (by omega)) (sv_eq (k := 1) ea1) 1174 rfl ?_
  refine pv_callv (M := mL_law) (as := [.int (sv xs i 1)]) (st := []) (kc2 := kc) (ks2 := ks) dL_law_1174 wd1159 YX11_count ⟨wd1160, wd1161⟩ (mk_get (tl0 hT)) rfl rfl (s_X11_count_va g hT I R (sv xs i 1)) rfl rfl (Nat.le_of_ble_eq_true rfl) (by decide) (Nat.zero_add _) (Nat.zero_add _) 1177 rfl (fun rv h1 q => ?_)
  obtain ⟨v, rfl, rfl, _, _, P2⟩ := q
  exact after _ _ _ _ _ _ _ ⟨I, ⟨la, lb, R⟩, hL, hT, hK⟩ ⟨P2, fr.rf, rfl⟩
