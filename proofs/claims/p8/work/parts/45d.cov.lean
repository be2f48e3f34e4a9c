/-! what is made when THE SHORTEST is first asked for -/
def mx (m : Nat → Nat → Int32) : Nat → Nat → Int32 := fun a => if a < 169 then m a else fun _ => 0
def nx (n : Nat → Nat → Int64) : Nat → Nat → Int64 := fun a => if a < 169 then n a else fun _ => 0
def rx (r : Nat → Value) : Nat → Value := fun j => if 172000 ≤ j ∧ j < 173000 then .null else r j
def kOK (t : mv_T) : Bool := match t with
  | .inl _ => true
  | .inr (_, ds) => ds.all (fun d => match d with
    | some (.inr k) => Nat.ble k 1000
    | _ => true)
theorem TL_kOK : TL.all kOK = true := by decide +kernel
theorem mv_c_x {m : Nat → Nat → Int32} {n : Nat → Nat → Int64} {r : Nat → Value} {a : Nat} {t : mv_T} (ha : a < 169) (h : kOK t = true) : mv_c (mx m) (nx n) (rx r) a t = mv_c m n r a t := by
  have e1 : mx m a = m a := by unfold mx; rw [if_pos ha]
  have e2 : nx n a = n a := by unfold nx; rw [if_pos ha]
  have e3 : mv_q (rx r) a = mv_q r a := by
    funext i
    unfold mv_q rx
    split
    · rw [if_neg (by omega)]
    · rfl
  unfold mv_c
  split
  · rw [e2]
  · rw [e3]
  · rw [e3]
  · rw [e1]
  · rename_i ci ds
    congr 1
    apply List.ext_getElem?
    intro i
    simp only [mv_fs, List.getElem?_mapIdx]
    cases hu : ds[i]? with
    | none => rfl
    | some d =>
      have hm : d ∈ ds := List.mem_of_getElem? hu
      have q := List.all_eq_true.mp h d hm
      match d, q with
      | none, _ => simp [mv_f, e1]
      | some (.inl c), _ => rfl
      | some (.inr k), q =>
        have hk : k ≤ 1000 := by simpa using q
        simp only [Option.map_some, mv_f, rx]
        rw [if_neg (by omega)]
theorem mk_TLx (m : Nat → Nat → Int32) (n : Nat → Nat → Int64) (r : Nat → Value) : TL.mapIdx (fun a t => mv_c (mx m) (nx n) (rx r) a t) = mk TL m n r := by
  unfold mk
  apply List.ext_getElem?
  intro a
  simp only [List.getElem?_mapIdx]
  cases hu : TL[a]? with
  | none => rfl
  | some t =>
    have ha : a < 169 := by rw [← TL_len]; exact (List.getElem?_eq_some_iff.mp hu).1
    simp only [Option.map_some, mv_c_x ha (List.all_eq_true.mp TL_kOK t (List.mem_of_getElem? hu))]
theorem mq_x (r : Nat → Value) : mv_q (rx r) 172 = fun _ => none := by
  funext i
  unfold mv_q rx
  split
  · rw [if_pos (by omega)]
  · rfl
theorem mk_cx (m : Nat → Nat → Int32) (n : Nat → Nat → Int64) (r : Nat → Value) : TLc.mapIdx (fun a t => mv_c (mx m) (nx n) (rx r) (a + 169) t) = [pv_o 3 [.ref 170, .int 0, .ref 172, .ref 173, .int 0, .ref 175, .ref 176, .ref 177, .ref 178, .ref 179], pv_o 8 [.ref 171, .int 0], pv_i 48 (fun _ => 0), pv_q 5 4 (fun _ => none), pv_o 8 [.ref 174, .int 0], pv_i 0 (fun _ => 0), pv_i 4 (fun _ => 0), pv_i 4 (fun _ => 0), pv_i 4 (fun _ => 0), pv_i 28561 (fun _ => 0), pv_l 28561 (fun _ => 0)] := by
  have e : ∀ a, ¬ a < 169 → mx m a = fun _ => 0 := fun a h => by unfold mx; rw [if_neg h]
  have e2 : nx n 179 = fun _ => 0 := by unfold nx; rw [if_neg (by omega)]
  simp only [TLc, List.mapIdx_cons, List.mapIdx_nil, mv_c, mv_fs, mv_f, mq_x, e2, e 169 (by omega), e 170 (by omega), e 171 (by omega), e 173 (by omega), e 174 (by omega), e 175 (by omega), e 176 (by omega), e 177 (by omega), e 178 (by omega)]
  rw [show mv_q (rx r) (0 + 1 + 1 + 1 + 169) = fun _ => none from mq_x r]
theorem mk_c (m : Nat → Nat → Int32) (n : Nat → Nat → Int64) (r : Nat → Value) : mk TL m n r ++ [pv_o 3 [.ref 170, .int 0, .ref 172, .ref 173, .int 0, .ref 175, .ref 176, .ref 177, .ref 178, .ref 179], pv_o 8 [.ref 171, .int 0], pv_i 48 (fun _ => 0), pv_q 5 4 (fun _ => none), pv_o 8 [.ref 174, .int 0], pv_i 0 (fun _ => 0), pv_i 4 (fun _ => 0), pv_i 4 (fun _ => 0), pv_i 4 (fun _ => 0), pv_i 28561 (fun _ => 0), pv_l 28561 (fun _ => 0)] = mk TL2 (mx m) (nx n) (rx r) := by
  rw [← mk_TLx, ← mk_cx m n r]
  show _ = (TL ++ TLc).mapIdx _
  rw [List.mapIdx_append, TL_len]
theorem mk_len (m : Nat → Nat → Int32) (n : Nat → Nat → Int64) (r : Nat → Value) : (mk TL m n r).length = 169 := by unfold mk; rw [List.length_mapIdx, TL_len]
theorem BB_0 : ∀ a i, (BB a i).1 ≤ 0 ∧ 0 ≤ (BB a i).2 := by
  intro a i
  unfold BB
  split <;> (try split) <;> decide
theorem IV_x {m : Nat → Nat → Int32} (I : IV BB m) : IV BB (mx m) := by
  intro a i
  unfold mx
  by_cases h : a < 169
  · rw [if_pos h]; exact I a i
  · rw [if_neg h]; exact ⟨by rw [Int32.toInt_zero]; exact (BB_0 a i).1, by rw [Int32.toInt_zero]; exact (BB_0 a i).2⟩
theorem s_X3_init0 (g : pv_G) {Q : Option Value → List pv_C → Prop} {h0 : List pv_C} (hn : h0.length = 169) (k : PV none g mX3_init Q 3 0 0 86 [.ref 169] [] (h0 ++ [pv_o 3 [.ref 170, .int 0, .ref 172, .ref 173, .int 0, .ref 175, .ref 176, .ref 177, .ref 178, .ref 179], pv_o 8 [.ref 171, .int 0], pv_i 48 (fun _ => 0), pv_q 5 4 (fun _ => none), pv_o 8 [.ref 174, .int 0], pv_i 0 (fun _ => 0), pv_i 4 (fun _ => 0), pv_i 4 (fun _ => 0), pv_i 4 (fun _ => 0), pv_i 28561 (fun _ => 0), pv_l 28561 (fun _ => 0)])) : PM g mX3_init yX3_init Q 3 10 57190 [.ref 169] (h0 ++ [pv_o 3 [.null, .int 0, .null, .null, .int 0, .null, .null, .null, .null, .null]]) := k_X3_pre g (n := 169) hn k
theorem s_X3_init (g : pv_G) {m : Nat → Nat → Int32} {n : Nat → Nat → Int64} {r : Nat → Value} (I : IV BB m) : PM g mX3_init yX3_init (sqVr TL2 BB WX ro r m (fun _ _ => True)) 3 10 57190 [.ref 169] (mk TL m n r ++ [pv_o 3 [.null, .int 0, .null, .null, .int 0, .null, .null, .null, .null, .null]]) := by
  refine s_X3_init0 g (mk_len m n r) ?_
  rw [mk_c]
  generalize hG : TL2 = T
  have hC : TC T := hG.symm
  have hT : TX T := TC_TX hC
  refine pv_aload_n (M := mX3_init) 0 dX3_init_86 87 rfl rfl rfl ?_
  refine pv_callv (M := mX3_init) (as := []) (st := []) (kc2 := 0) (ks2 := 0) dX3_init_87 wd975 YX3_clearParts ⟨wd976, wd977⟩ (mk_get (tc169 hC)) rfl rfl (s_X3_clearParts g hT (IV_x I) hC) rfl rfl (Nat.le_of_ble_eq_true rfl) (by decide) rfl rfl 90 rfl (fun rv h1 q => ?_)
  obtain ⟨m2, n2, r2, rfl, rfl, I2, K2, o2, _⟩ := q
  refine pv_vret (M := mX3_init) dX3_init_90 rfl ⟨_, _, _, rfl, rfl, I2, ?_, ?_, trivial⟩
  · intro a i h
    have ha := WX_lt h
    rw [K2 a i (WX_wl (by decide) a i h)]
    unfold mx
    rw [if_pos ha]
  · intro j q
    rw [o2 j q]
    unfold rx
    rw [if_neg (by omega)]
theorem k_coverFor_n (g : pv_G) {T : List mv_T} {m : Nat → Nat → Int32} {n : Nat → Nat → Int64} {r : Nat → Value} {la lb : Nat} (hTL : T = TL) (I : IV BB m) (R : RX T r la lb) (hc0 : r 2 = .null) (x0 : Int32) : PM g mX11_coverFor yX11_coverFor (sqAr TL2 BB WX rn r m 169 (fun _ _ => True)) 5 11 57200 [.ref 0, .int x0] (mk T m n r) := by
  have hT : TX T := by rw [hTL]; exact fun _ _ q => q
  refine PM.of 2 (lo := [.ref 0, .int x0, pv_U, pv_U]) rfl (by decide) rfl rfl (Nat.le_of_ble_eq_true rfl) ?_
  refine pv_aload_n (M := mX11_coverFor) 0 dX11_coverFor_0 1 rfl rfl rfl ?_
  refine mv_get (M := mX11_coverFor) (v := .null) dX11_coverFor_1 FX11 12 wd419 (by decide) (tl0 hT) rfl hc0 4 rfl ?_
  refine pv_ifnonnullN (M := mX11_coverFor) dX11_coverFor_4 7 rfl ?_
  subst hTL
  refine pv_new (M := mX11_coverFor) (kc := 10) (ks := 57190) (fs := dvX3) dX11_coverFor_7 FX3 wd967 wd968 wd146 pv_dfX3 (r2 := 169) (mk_len m n r) 10 rfl ?_
  refine pv_dup (M := mX11_coverFor) dX11_coverFor_10 11 rfl rfl ?_
  refine pv_calli (M := mX11_coverFor) (as := []) (st := [.ref 169]) (kc2 := 0) (ks2 := 0) dX11_coverFor_11 wd969 YX3_init ⟨rfl, rfl, wd970⟩ (s_X3_init g I) rfl rfl (Nat.le_of_ble_eq_true rfl) (by decide) rfl rfl 14 rfl (fun rv h1 q => ?_)
  generalize hG : TL2 = T at q ⊢
  obtain ⟨m1, n1, r1, rfl, rfl, I1, K1, o1, _⟩ := q
  have hC : TC T := hG.symm
  have hT : TX T := TC_TX hC
  have R := RX_T2 R
  rw [hG] at R
  refine pv_goto (M := mX11_coverFor) (tgt := 21) dX11_coverFor_14 (by decide) ?_
  refine pv_astore_n (M := mX11_coverFor) 2 (lo2 := [.ref 0, .int x0, .ref 169, pv_U]) dX11_coverFor_21 22 rfl rfl (by decide) rfl rfl ?_
  refine pv_aload_n (M := mX11_coverFor) 0 dX11_coverFor_22 23 rfl rfl rfl ?_
  refine pv_aload_n (M := mX11_coverFor) 2 dX11_coverFor_23 24 rfl rfl rfl ?_
  refine mv_putr (M := mX11_coverFor) (j := 2) (v := .ref 169) dX11_coverFor_24 FX11 12 wd419 (by decide) rfl (tl0 hT) rfl (hu_of (by decide)) (NM2t hC) (fun _ => rfl) (fun _ => rfl) 27 rfl (fun r2 er2 => ?_)
  have or : rn r r2 := ⟨by rw [er2, up1_eq], fun j p q => by rw [er2, up1_ne p]; exact o1 j q⟩
  exact s_X11_coverFor_vt g hT I1 K1 or (RX_rn R or) hC or.1 x0
