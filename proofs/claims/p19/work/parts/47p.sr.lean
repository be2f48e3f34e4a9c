set_option maxHeartbeats 2000000 in
set_option maxRecDepth 20000 in
theorem s_X12_laysShortAt_ve (g : pv_G) {T : List mv_T} {m : Nat → Nat → Int32} {n : Nat → Nat → Int64} {r : Nat → Value} (hT : TX T) (I : IV BB m) (hp0 : OKp m (pa m)) (hp1 : LO12 m) (hp2 : SHp m (pa m 0) (pa m 1) (pa m 2) (pa m 3)) (hp3 : SHm m (pa m 0) (pa m 1) (pa m 2) (pa m 3)) : PM g mX12_laysShortAt yX12_laysShortAt (sqVn T BB (wl [(159, 159, none), (163, 163, none)]) r m (fun m' n' => nM n n' ∧ (SHp m' (pa m 0) (pa m 1) (pa m 2) (pa m 3 - 1) ∧ SHm m' (pa m 0) (pa m 1) (pa m 2) (pa m 3 - 1)))) 3 0 0 [.ref 123] (mk T m n r) := by
  have Kp : fr (wl [(159, 159, none), (163, 163, none)]) m m := fr.rf
  have NKp : nM n n := nM.rf
  have z168 : 0 ≤ (m 123 50).toInt ∧ (m 123 50).toInt ≤ 4 := I 123 50
  refine PM.of 6 (lo := [.ref 123, pv_U, pv_U, pv_U, pv_U, pv_U, pv_U]) rfl (by decide) rfl rfl (Nat.le_of_ble_eq_true rfl) ?_
  refine pv_ldcw (M := mX12_laysShortAt) (v := 1000000000) dX12_laysShortAt_0 3 rfl wd1583 ?_
  refine pv_istore_n (M := mX12_laysShortAt) 1 (lo2 := [.ref 123, .int 1000000000, pv_U, pv_U, pv_U, pv_U, pv_U]) dX12_laysShortAt_3 4 rfl rfl (by decide) rfl rfl ?_
  refine pv_lconst (M := mX12_laysShortAt) (v := 0) dX12_laysShortAt_4 5 rfl (by decide) ?_
  refine pv_lstore_n (M := mX12_laysShortAt) 2 (lo2 := [.ref 123, .int 1000000000, .long 0, pv_U, pv_U, pv_U, pv_U]) dX12_laysShortAt_5 6 rfl rfl (by decide) rfl rfl ?_
  refine pv_iconst (M := mX12_laysShortAt) (v := 1) dX12_laysShortAt_6 7 rfl (by decide) ?_
  refine pv_istore (M := mX12_laysShortAt) (lo2 := [.ref 123, .int 1000000000, .long 0, pv_U, .int 1, pv_U, pv_U]) dX12_laysShortAt_7 9 rfl (by decide) rfl rfl ?_
  refine pv_iconst (M := mX12_laysShortAt) (v := 0) dX12_laysShortAt_9 10 rfl (by decide) ?_
  refine pv_istore (M := mX12_laysShortAt) (lo2 := [.ref 123, .int 1000000000, .long 0, pv_U, .int 1, .int 0, pv_U]) dX12_laysShortAt_10 12 rfl (by decide) rfl rfl ?_
  have lp8 : ∀ (fuel7 : Nat) (y1 : Int32) (y2 : Int32), (0 ≤ y1.toInt) → (y1.toInt ≤ 1) → (0 ≤ y2.toInt) → (y2.toInt ≤ 4) → (y2.toInt ≤ (m 123 50).toInt) → (END m (pa m) y1.toInt y2.toInt) → ((4 - y2.toInt) : Int).toNat < fuel7 → PV none g mX12_laysShortAt (sqVn T BB (wl [(159, 159, none), (163, 163, none)]) r m (fun m' n' => nM n n' ∧ (SHp m' (pa m 0) (pa m 1) (pa m 2) (pa m 3 - 1) ∧ SHm m' (pa m 0) (pa m 1) (pa m 2) (pa m 3 - 1)))) 3 0 0 12 [.ref 123, .int 1000000000, .long 0, pv_U, .int y1, .int y2, pv_U] [] (mk T m n r) := by
    intro fuel7
    induction fuel7 with
    | zero => intro y1 y2 b10 b11 b12 b13 b14 b15 z16; omega
    | succ fuel7 ih9 =>
      intro y1 y2 b10 b11 b12 b13 b14 b15 z16
      have kg12 := (show END m (pa m) y1.toInt y2.toInt by assumption)
      refine pv_iload (M := mX12_laysShortAt) dX12_laysShortAt_12 14 rfl rfl ?_
      refine pv_aload_n (M := mX12_laysShortAt) 0 dX12_laysShortAt_14 15 rfl rfl rfl ?_
      refine iv_get (M := mX12_laysShortAt) (l1 := 0) (l2 := 4) dX12_laysShortAt_15 FX12 50 wd1223 (by decide) (tl123 hT) rfl I rfl 18 rfl (fun v18 ev18 pv18 qv18 => ?_)
      have wv18 : v18.toInt = (m 123 50).toInt := congrArg Int32.toInt ev18
      refine pv_icmp_ge (M := mX12_laysShortAt) (tgt := 55) dX12_laysShortAt_18 21 rfl (by decide) (fun c19 => ?_) (fun c19 => ?_)
      · have c19 := iv_le (X := v18.toInt) (Y := y2.toInt) c19 rfl rfl
        refine pv_iconst (M := mX12_laysShortAt) (v := 0) dX12_laysShortAt_55 56 rfl (by decide) ?_
        refine pv_istore (M := mX12_laysShortAt) (lo2 := [.ref 123, .int 1000000000, .long 0, pv_U, .int y1, .int 0, pv_U]) dX12_laysShortAt_56 58 rfl (by decide) rfl rfl ?_
        have lp28 : ∀ (fuel27 : Nat) (y20 : Int32) (y21 : Int64) (y22 : Int32) (m23 : Nat → Nat → Int32) (n24 : Nat → Nat → Int64), (0 ≤ y20.toInt) → (y20.toInt ≤ 1000000000) → (0 ≤ y22.toInt) → (y22.toInt ≤ 26) → (SB m (pa m) y20.toInt y22.toInt) → (∀ j, m23 163 j = m 163 j) → (SBm m (pa m) y20.toInt y22.toInt) → IV BB m23 → fr (wl [(159, 159, none), (163, 163, none)]) m m23 → nM n n24 → ((26 - y22.toInt) : Int).toNat < fuel27 → PV none g mX12_laysShortAt (sqVn T BB (wl [(159, 159, none), (163, 163, none)]) r m (fun m' n' => nM n n' ∧ (SHp m' (pa m 0) (pa m 1) (pa m 2) (pa m 3 - 1) ∧ SHm m' (pa m 0) (pa m 1) (pa m 2) (pa m 3 - 1)))) 3 0 0 58 [.ref 123, .int y20, .long y21, pv_U, .int y1, .int y22, pv_U] [] (mk T m23 n24 r) := by
          intro fuel27
          induction fuel27 with
          | zero => intro y20 y21 y22 m23 n24 b30 b31 b32 b33 b34 b35 b36 I25 K26 NK26 z37; omega
          | succ fuel27 ih29 =>
            intro y20 y21 y22 m23 n24 b30 b31 b32 b33 b34 b35 b36 I25 K26 NK26 z37
            have z38 : 0 ≤ (m23 123 50).toInt ∧ (m23 123 50).toInt ≤ 4 := I25 123 50
            have kg58 := (show SB m (pa m) y20.toInt y22.toInt by assumption)
            have kq := (show ∀ j, m23 163 j = m 163 j by assumption)
            have kS : HSAME m m23 := ⟨K26 123 50 rfl, fun j => K26 157 j rfl, fun j => K26 126 j rfl, fun j => K26 127 j rfl⟩
            have kA : ∀ q, m23 158 q = m 158 q := fun q => K26 158 q rfl
            have kpa : pa m23 = pa m := funext fun q => congrArg Int32.toInt (kA q)
            have kgm := (show SBm m (pa m) y20.toInt y22.toInt by assumption)
            refine pv_iload (M := mX12_laysShortAt) dX12_laysShortAt_58 60 rfl rfl ?_
            refine pv_bipush (M := mX12_laysShortAt) (v := 26) dX12_laysShortAt_60 62 rfl (by decide) ?_
            refine pv_icmp_ge (M := mX12_laysShortAt) (tgt := 143) dX12_laysShortAt_62 65 rfl (by decide) (fun c45 => ?_) (fun c45 => ?_)
            · have c45 := iv_le (X := 26) (Y := y22.toInt) c45 (by decide) rfl
              have kSB : SB m (pa m) y20.toInt 26 := by have q := kg58; rw [show y22.toInt = 26 by omega] at q; exact q
              have kO := OK12 hp0 hp1
              have o0 := kO 0 (by omega)
              have o1 := kO 1 (by omega)
              have o2 := kO 2 (by omega)
              have o3 := kO 3 (by omega)
              have kSBm : SBm m (pa m) y20.toInt 26 := by have q := kgm; rw [show y22.toInt = 26 by omega] at q; exact q
              refine pv_aload_n (M := mX12_laysShortAt) 0 dX12_laysShortAt_143 144 rfl rfl rfl ?_
              refine mv_get (M := mX12_laysShortAt) (v := .ref 158) dX12_laysShortAt_144 FX12 52 wd1225 (by decide) (tl123 hT) rfl rfl 147 rfl ?_
              refine pv_iconst (M := mX12_laysShortAt) (v := 0) dX12_laysShortAt_147 148 rfl (by decide) ?_
              refine iv_iald (M := mX12_laysShortAt) (X := 0) (l1 := 0) (l2 := 16) dX12_laysShortAt_148 (tl158 hT) (by decide) (by omega) (by omega) I25 (fun _ => rfl) 149 rfl (fun v53 ev53 pv53 qv53 => ?_)
              have k149 : v53.toInt = pa m 0 := (congrArg Int32.toInt ev53).trans (congrArg Int32.toInt (kA 0))
              refine pv_aload_n (M := mX12_laysShortAt) 0 dX12_laysShortAt_149 150 rfl rfl rfl ?_
              refine mv_get (M := mX12_laysShortAt) (v := .ref 158) dX12_laysShortAt_150 FX12 52 wd1225 (by decide) (tl123 hT) rfl rfl 153 rfl ?_
              refine pv_iconst (M := mX12_laysShortAt) (v := 1) dX12_laysShortAt_153 154 rfl (by decide) ?_
              refine iv_iald (M := mX12_laysShortAt) (X := 1) (l1 := 0) (l2 := 16) dX12_laysShortAt_154 (tl158 hT) (by decide) (by omega) (by omega) I25 (fun _ => rfl) 155 rfl (fun v55 ev55 pv55 qv55 => ?_)
              have k155 : v55.toInt = pa m 1 := (congrArg Int32.toInt ev55).trans (congrArg Int32.toInt (kA 1))
              refine pv_aload_n (M := mX12_laysShortAt) 0 dX12_laysShortAt_155 156 rfl rfl rfl ?_
              refine mv_get (M := mX12_laysShortAt) (v := .ref 158) dX12_laysShortAt_156 FX12 52 wd1225 (by decide) (tl123 hT) rfl rfl 159 rfl ?_
              refine pv_iconst (M := mX12_laysShortAt) (v := 2) dX12_laysShortAt_159 160 rfl (by decide) ?_
              refine iv_iald (M := mX12_laysShortAt) (X := 2) (l1 := 0) (l2 := 16) dX12_laysShortAt_160 (tl158 hT) (by decide) (by omega) (by omega) I25 (fun _ => rfl) 161 rfl (fun v57 ev57 pv57 qv57 => ?_)
              have k161 : v57.toInt = pa m 2 := (congrArg Int32.toInt ev57).trans (congrArg Int32.toInt (kA 2))
              refine pv_aload_n (M := mX12_laysShortAt) 0 dX12_laysShortAt_161 162 rfl rfl rfl ?_
              refine mv_get (M := mX12_laysShortAt) (v := .ref 158) dX12_laysShortAt_162 FX12 52 wd1225 (by decide) (tl123 hT) rfl rfl 165 rfl ?_
              refine pv_iconst (M := mX12_laysShortAt) (v := 3) dX12_laysShortAt_165 166 rfl (by decide) ?_
              refine iv_iald (M := mX12_laysShortAt) (X := 3) (l1 := 0) (l2 := 16) dX12_laysShortAt_166 (tl158 hT) (by decide) (by omega) (by omega) I25 (fun _ => rfl) 167 rfl (fun v59 ev59 pv59 qv59 => ?_)
              have k167 : v59.toInt = pa m 3 := (congrArg Int32.toInt ev59).trans (congrArg Int32.toInt (kA 3))
              refine pv_calls (M := mX12_laysShortAt) (as := [.int v53, .int v55, .int v57, .int v59]) (st := []) (kc2 := 0) (ks2 := 0) dX12_laysShortAt_167 wd1680 YX12_shortAt wd1681 (s_X12_shortAt g hT I25 v53 (by omega) (by omega) v55 (by omega) (by omega) v57 (by omega) (by omega) v59 (by omega) (by omega)) rfl rfl (Nat.le_of_ble_eq_true rfl) (by decide) rfl rfl 170 rfl (fun rv h1 q61 => ?_)
              obtain ⟨v62, rfl, rfl, pv62, qv62, rv62⟩ := q61
              replace rv62 : v62.toInt = ((13 * v53.toInt + v55.toInt) * 13 + v57.toInt) * 13 + v59.toInt := rv62
              show PV _ _ _ _ _ _ _ 170 [.ref 123, .int y20, .long y21, pv_U, .int y1, .int y22, pv_U] [.int v62] _
              have k170a := rv62
              have k170 : v62.toInt.toNat = sx (pa m) := by unfold sx; omega
              refine pv_istore (M := mX12_laysShortAt) (lo2 := [.ref 123, .int y20, .long y21, pv_U, .int y1, .int v62, pv_U]) dX12_laysShortAt_170 172 rfl (by decide) rfl rfl ?_
              refine pv_aload_n (M := mX12_laysShortAt) 0 dX12_laysShortAt_172 173 rfl rfl rfl ?_
              refine mv_get (M := mX12_laysShortAt) (v := .ref 163) dX12_laysShortAt_173 FX12 57 wd1230 (by decide) (tl123 hT) rfl rfl 176 rfl ?_
              refine pv_iload (M := mX12_laysShortAt) dX12_laysShortAt_176 178 rfl rfl ?_
              refine pv_iload (M := mX12_laysShortAt) dX12_laysShortAt_178 180 rfl rfl ?_
              refine pv_if_eq (M := mX12_laysShortAt) (tgt := 187) dX12_laysShortAt_180 183 rfl (by decide) (fun c65 => ?_) (fun c65 => ?_)
              · have c65 := iv_eq (X := y1.toInt) (Y := 0) c65 rfl (by decide)
                refine pv_iload_n (M := mX12_laysShortAt) 1 dX12_laysShortAt_187 188 rfl rfl rfl ?_
                have kV : SR1 m23 (pa m) y20.toInt := by first | exact SR1_z (OKp_eq kS hp0) | exact SR1_eq kS kq (SB_end kSB (kg12.2 (by omega)) hp0 hp1 (fun j => I 127 j))
                have kVm : MIN1 m23 (pa m) y20.toInt := by first | exact MIN1_eq kS kq (MIN1_e kSBm kSB) | exact MIN1_eq kS kq (MIN1_z (I 123 50).2 (fun q hq => kg12.1 (by omega) q (by omega)))
                refine iv_iast (M := mX12_laysShortAt) (X := v62.toInt) (l1 := 0) (l2 := 1000000000) dX12_laysShortAt_188 (tl163 hT) rfl (by omega) (by omega) I25 (fun _ => rfl) (by omega) (by omega) 189 rfl (fun m68 e71 I69 => ?_)
                have K70 := K26.set e71 rfl
                have NK70 := NK26
                have w72 : (m68 123 50).toInt = (m23 123 50).toInt := by rw [e71, up2_ne (by omega)]
                have k189 := (e71).trans (up2_ix (j := sx (pa m)) (by omega))
                have kT := SHp_set (p' := pa m) (SHp_eq kS kq hp2) k189 (OKp_eq kS hp0) (LO12_eq kS hp1) (by first | exact kV | (rw [Int32.toInt_zero]; exact kV))
                have kTm := SHm_set (p' := pa m) (SHm_eq kS kq hp3) k189 (OKp_eq kS hp0) (LO12_eq kS hp1) (by first | exact kVm | (rw [Int32.toInt_zero]; exact kVm))
                refine pv_aload_n (M := mX12_laysShortAt) 0 dX12_laysShortAt_189 190 rfl rfl rfl ?_
                refine mv_get (M := mX12_laysShortAt) (v := .ref 164) dX12_laysShortAt_190 FX12 58 wd1231 (by decide) (tl123 hT) rfl rfl 193 rfl ?_
                refine pv_iload (M := mX12_laysShortAt) dX12_laysShortAt_193 195 rfl rfl ?_
                refine pv_iload (M := mX12_laysShortAt) dX12_laysShortAt_195 197 rfl rfl ?_
                refine pv_if_eq (M := mX12_laysShortAt) (tgt := 204) dX12_laysShortAt_197 200 rfl (by decide) (fun c76 => ?_) (fun c76 => ?_)
                · have c76 := iv_eq (X := y1.toInt) (Y := 0) c76 rfl (by decide)
                  refine pv_lload_n (M := mX12_laysShortAt) 2 dX12_laysShortAt_204 205 rfl rfl rfl ?_
                  refine iv_last (M := mX12_laysShortAt) (X := v62.toInt) dX12_laysShortAt_205 (tl164 hT) rfl (by omega) (by omega) 206 rfl (fun n77 en77 => ?_)
                  have NK70 := nM.set NK70 en77 (by decide)
                  exact pv_vret (M := mX12_laysShortAt) dX12_laysShortAt_206 rfl ⟨_, _, rfl, rfl, I69, K70, ⟨NK70, ⟨kT, kTm⟩⟩⟩
                · have c76 := iv_ne (X := y1.toInt) (Y := 0) c76 rfl (by decide)
                  omega
              · have c65 := iv_ne (X := y1.toInt) (Y := 0) c65 rfl (by decide)
                refine pv_iconst (M := mX12_laysShortAt) (v := 0) dX12_laysShortAt_183 184 rfl (by decide) ?_
                refine pv_goto (M := mX12_laysShortAt) (tgt := 188) dX12_laysShortAt_184 (by decide) ?_
                have kV : SR1 m23 (pa m) 0 := by first | exact SR1_z (OKp_eq kS hp0) | exact SR1_eq kS kq (SB_end kSB (kg12.2 (by omega)) hp0 hp1 (fun j => I 127 j))
                have kVm : MIN1 m23 (pa m) 0 := by first | exact MIN1_eq kS kq (MIN1_e kSBm kSB) | exact MIN1_eq kS kq (MIN1_z (I 123 50).2 (fun q hq => kg12.1 (by omega) q (by omega)))
                refine iv_iast (M := mX12_laysShortAt) (X := v62.toInt) (l1 := 0) (l2 := 1000000000) dX12_laysShortAt_188 (tl163 hT) rfl (by omega) (by omega) I25 (fun _ => rfl) (by decide) (by decide) 189 rfl (fun m80 e83 I81 => ?_)
                have K82 := K26.set e83 rfl
                have NK82 := NK26
                have w84 : (m80 123 50).toInt = (m23 123 50).toInt := by rw [e83, up2_ne (by omega)]
                have k189 := (e83).trans (up2_ix (j := sx (pa m)) (by omega))
                have kT := SHp_set (p' := pa m) (SHp_eq kS kq hp2) k189 (OKp_eq kS hp0) (LO12_eq kS hp1) (by first | exact kV | (rw [Int32.toInt_zero]; exact kV))
                have kTm := SHm_set (p' := pa m) (SHm_eq kS kq hp3) k189 (OKp_eq kS hp0) (LO12_eq kS hp1) (by first | exact kVm | (rw [Int32.toInt_zero]; exact kVm))
                refine pv_aload_n (M := mX12_laysShortAt) 0 dX12_laysShortAt_189 190 rfl rfl rfl ?_
                refine mv_get (M := mX12_laysShortAt) (v := .ref 164) dX12_laysShortAt_190 FX12 58 wd1231 (by decide) (tl123 hT) rfl rfl 193 rfl ?_
                refine pv_iload (M := mX12_laysShortAt) dX12_laysShortAt_193 195 rfl rfl ?_
                refine pv_iload (M := mX12_laysShortAt) dX12_laysShortAt_195 197 rfl rfl ?_
                refine pv_if_eq (M := mX12_laysShortAt) (tgt := 204) dX12_laysShortAt_197 200 rfl (by decide) (fun c88 => ?_) (fun c88 => ?_)
                · have c88 := iv_eq (X := y1.toInt) (Y := 0) c88 rfl (by decide)
                  omega
                · have c88 := iv_ne (X := y1.toInt) (Y := 0) c88 rfl (by decide)
                  refine pv_lconst (M := mX12_laysShortAt) (v := 1) dX12_laysShortAt_200 201 rfl (by decide) ?_
                  refine pv_goto (M := mX12_laysShortAt) (tgt := 205) dX12_laysShortAt_201 (by decide) ?_
                  refine iv_last (M := mX12_laysShortAt) (X := v62.toInt) dX12_laysShortAt_205 (tl164 hT) rfl (by omega) (by omega) 206 rfl (fun n89 en89 => ?_)
                  have NK82 := nM.set NK82 en89 (by decide)
                  exact pv_vret (M := mX12_laysShortAt) dX12_laysShortAt_206 rfl ⟨_, _, rfl, rfl, I81, K82, ⟨NK82, ⟨kT, kTm⟩⟩⟩
            · have c45 := iv_nle (X := 26) (Y := y22.toInt) c45 (by decide) rfl
              refine pv_aload_n (M := mX12_laysShortAt) 0 dX12_laysShortAt_65 66 rfl rfl rfl ?_
              refine pv_iload (M := mX12_laysShortAt) dX12_laysShortAt_66 68 rfl rfl ?_
              refine pv_callv (M := mX12_laysShortAt) (as := [.int y22]) (st := []) (kc2 := 0) (ks2 := 0) dX12_laysShortAt_68 wd1672 YX12_takesLetter ⟨wd1674, wd106⟩ (mk_get (tl123 hT)) rfl rfl (s_X12_takesLetter g hT I25 y22 (by omega) (by omega)) rfl rfl (Nat.le_of_ble_eq_true rfl) (by decide) rfl rfl 71 rfl (fun rv h1 q90 => ?_)
              obtain ⟨m91, n92, v95, rfl, rfl, I93, K94, pv95, qv95, rv95⟩ := q90
              have NK94c := rv95.1
              replace rv95 := rv95.2
              replace rv95 : NX m23 (pa m23) y22.toInt 4 m91 ∧ (v95.toInt = 0 → tkF m23 (pa m23) y22.toInt 4 = 0) ∧ (v95.toInt ≠ 0 → 0 < tkF m23 (pa m23) y22.toInt 4) := rv95
              have K94c := K94
              have w96 : (m91 123 50).toInt = (m23 123 50).toInt := congrArg Int32.toInt (K94 123 50 rfl)
              have NK94 := nM.trans NK26 (nE_M NK94c)
              have K94 := K26.trans (K94.sub (wl_sub (by decide)))
              show PV _ _ _ _ _ _ _ 71 [.ref 123, .int y20, .long y21, pv_U, .int y1, .int y22, pv_U] [.int v95] _
              have k71 := rv95
              rw [kpa, tkF_eq kS] at k71
              have k71n : NX m (pa m) y22.toInt 4 m91 := fun q hq => by rw [← stp_eq kS]; exact k71.1 q hq
              have k71a := k71.2.1
              have k71b := k71.2.2
              have k71f : ∀ j, m91 163 j = m 163 j := fun j => (K94c 163 j rfl).trans (kq j)
              refine pv_if_ne (M := mX12_laysShortAt) (tgt := 77) dX12_laysShortAt_71 74 rfl (by decide) (fun c103 => ?_) (fun c103 => ?_)
              · have c103 := iv_ne (X := v95.toInt) (Y := 0) c103 rfl (by decide)
                have k12n := NX_12 k71n hp0 hp1 (by omega)
                refine pv_iconst (M := mX12_laysShortAt) (v := 1) dX12_laysShortAt_77 78 rfl (by decide) ?_
                refine pv_aload_n (M := mX12_laysShortAt) 0 dX12_laysShortAt_78 79 rfl rfl rfl ?_
                refine mv_get (M := mX12_laysShortAt) (v := .ref 163) dX12_laysShortAt_79 FX12 57 wd1230 (by decide) (tl123 hT) rfl rfl 82 rfl ?_
                refine pv_aload_n (M := mX12_laysShortAt) 0 dX12_laysShortAt_82 83 rfl rfl rfl ?_
                refine pv_callv (M := mX12_laysShortAt) (as := []) (st := [.ref 163, .int 1]) (kc2 := 0) (ks2 := 0) dX12_laysShortAt_83 wd1676 YX12_nextShort ⟨wd1678, wd107⟩ (mk_get (tl123 hT)) rfl rfl (s_X12_nextShort g hT I93 k12n) rfl rfl (Nat.le_of_ble_eq_true rfl) (by decide) rfl rfl 86 rfl (fun rv h1 q105 => ?_)
                obtain ⟨v106, rfl, rfl, pv106, qv106, rv106⟩ := q105
                replace rv106 : v106.toInt.toNat = sx (pn m91) := rv106
                show PV _ _ _ _ _ _ _ 86 [.ref 123, .int y20, .long y21, pv_U, .int y1, .int y22, pv_U] [.int v106, .ref 163, .int 1] _
                have k86 : v106.toInt.toNat = sx (stp m (pa m) y22.toInt) := (rv106).trans (NX_sx k71n)
                refine iv_iald (M := mX12_laysShortAt) (X := v106.toInt) (l1 := 0) (l2 := 1000000000) dX12_laysShortAt_86 (tl163 hT) rfl (by omega) (by omega) I93 (fun _ => rfl) 87 rfl (fun v108 ev108 pv108 qv108 => ?_)
                have k87 : v108.toInt = SE m (stp m (pa m) y22.toInt) := congrArg Int32.toInt (ev108.trans ((congrArg (m91 163) k86).trans (k71f _)))
                refine iv_iadd (M := mX12_laysShortAt) (X := 1) (Y := v108.toInt) dX12_laysShortAt_87 88 rfl (by decide) rfl (by omega) (by omega) (fun v110 ev110 => ?_)
                refine pv_istore (M := mX12_laysShortAt) (lo2 := [.ref 123, .int y20, .long y21, pv_U, .int y1, .int y22, .int v110]) dX12_laysShortAt_88 90 rfl (by decide) rfl rfl ?_
                refine pv_iload (M := mX12_laysShortAt) dX12_laysShortAt_90 92 rfl rfl ?_
                refine pv_iload_n (M := mX12_laysShortAt) 1 dX12_laysShortAt_92 93 rfl rfl rfl ?_
                refine pv_icmp_ge (M := mX12_laysShortAt) (tgt := 108) dX12_laysShortAt_93 96 rfl (by decide) (fun c111 => ?_) (fun c111 => ?_)
                · have c111 := iv_le (X := y20.toInt) (Y := v110.toInt) c111 rfl rfl
                  refine pv_iload (M := mX12_laysShortAt) dX12_laysShortAt_108 110 rfl rfl ?_
                  refine pv_iload_n (M := mX12_laysShortAt) 1 dX12_laysShortAt_110 111 rfl rfl rfl ?_
                  refine pv_icmp_ne (M := mX12_laysShortAt) (tgt := 128) dX12_laysShortAt_111 114 rfl (by decide) (fun c112 => ?_) (fun c112 => ?_)
                  · have c112 := iv_ne (X := v110.toInt) (Y := y20.toInt) c112 rfl rfl
                    refine pv_lload_n (M := mX12_laysShortAt) 2 dX12_laysShortAt_128 129 rfl rfl rfl ?_
                    refine pv_lstore_n (M := mX12_laysShortAt) 2 (lo2 := [.ref 123, .int y20, .long y21, pv_U, .int y1, .int y22, .int v110]) dX12_laysShortAt_129 130 rfl rfl (by decide) rfl rfl ?_
                    refine pv_iload_n (M := mX12_laysShortAt) 1 dX12_laysShortAt_130 131 rfl rfl rfl ?_
                    refine pv_iload (M := mX12_laysShortAt) dX12_laysShortAt_131 133 rfl rfl ?_
                    refine pv_calls (M := mX12_laysShortAt) (as := [.int y20, .int v110]) (st := []) (kc2 := 0) (ks2 := 0) dX12_laysShortAt_133 wd1611 YX12_least wd1612 (s_X12_least g hT I93 y20 (by omega) (by omega) v110 (by omega) (by omega)) rfl rfl (Nat.le_of_ble_eq_true rfl) (by decide) rfl rfl 136 rfl (fun rv h1 q113 => ?_)
                    obtain ⟨v114, rfl, rfl, pv114, qv114, rv114⟩ := q113
                    replace rv114 : v114.toInt ≤ y20.toInt ∧ v114.toInt ≤ v110.toInt ∧ (v114.toInt = y20.toInt ∨ v114.toInt = v110.toInt) := rv114
                    show PV _ _ _ _ _ _ _ 136 [.ref 123, .int y20, .long y21, pv_U, .int y1, .int y22, .int v110] [.int v114] _
                    have k136 := rv114
                    refine pv_istore_n (M := mX12_laysShortAt) 1 (lo2 := [.ref 123, .int v114, .long y21, pv_U, .int y1, .int y22, .int v110]) dX12_laysShortAt_136 137 rfl rfl (by decide) rfl rfl ?_
                    refine iv_inc (M := mX12_laysShortAt) (C := 1) dX12_laysShortAt_137 140 rfl rfl (by decide) rfl rfl (by decide) (by omega) (by omega) (fun v116 ev116 => ?_)
                    show PV _ _ _ _ _ _ _ 140 [.ref 123, .int v114, .long y21, pv_U, .int y1, .int v116, .int v110] [] _
                    refine pv_goto (M := mX12_laysShortAt) (tgt := 58) dX12_laysShortAt_140 (by decide) ?_
                    refine pv_fg (lo2 := [.ref 123, .int v114, .long y21, pv_U, .int y1, .int v116, pv_U]) ⟨Or.inr rfl, ⟨Or.inr rfl, ⟨Or.inr rfl, ⟨Or.inl rfl, ⟨Or.inr rfl, ⟨Or.inr rfl, ⟨Or.inl rfl, trivial⟩⟩⟩⟩⟩⟩⟩ ?_
                    have ku : v116.toInt = y22.toInt + 1 := by omega
                    have kb58 : SB m (pa m) v114.toInt v116.toInt := by rw [ku]; first | exact SB_skip kg58 (by omega) | exact SB_take (hw := k136) kg58 (by omega) (by omega) (by omega) hp0 hp2 (by omega)
                    have kb58m : SBm m (pa m) v114.toInt v116.toInt := by rw [ku]; first | exact SBm_skip kgm (by omega) | exact SBm_take (hw := k136) kgm (by omega)
                    exact ih29 v114 y21 v116 m91 n92 (by first | omega | assumption | exact (iv_rng _).2 | exact (iv_rng _).1 | decide) (by first | omega | assumption | exact (iv_rng _).2 | exact (iv_rng _).1 | decide) (by first | omega | assumption | exact (iv_rng _).2 | exact (iv_rng _).1 | decide) (by first | omega | assumption | exact (iv_rng _).2 | exact (iv_rng _).1 | decide) kb58 k71f kb58m I93 K94 NK94 (by omega)
                  · have c112 := iv_eq (X := v110.toInt) (Y := y20.toInt) c112 rfl rfl
                    refine pv_lload_n (M := mX12_laysShortAt) 2 dX12_laysShortAt_114 115 rfl rfl rfl ?_
                    refine pv_aload_n (M := mX12_laysShortAt) 0 dX12_laysShortAt_115 116 rfl rfl rfl ?_
                    refine mv_get (M := mX12_laysShortAt) (v := .ref 164) dX12_laysShortAt_116 FX12 58 wd1231 (by decide) (tl123 hT) rfl rfl 119 rfl ?_
                    refine pv_aload_n (M := mX12_laysShortAt) 0 dX12_laysShortAt_119 120 rfl rfl rfl ?_
                    refine pv_callv (M := mX12_laysShortAt) (as := []) (st := [.ref 164, .long y21]) (kc2 := 0) (ks2 := 0) dX12_laysShortAt_120 wd1676 YX12_nextShort ⟨wd1678, wd107⟩ (mk_get (tl123 hT)) rfl rfl (s_X12_nextShort g hT I93 k12n) rfl rfl (Nat.le_of_ble_eq_true rfl) (by decide) rfl rfl 123 rfl (fun rv h1 q120 => ?_)
                    obtain ⟨v121, rfl, rfl, pv121, qv121, rv121⟩ := q120
                    replace rv121 : v121.toInt.toNat = sx (pn m91) := rv121
                    show PV _ _ _ _ _ _ _ 123 [.ref 123, .int y20, .long y21, pv_U, .int y1, .int y22, .int v110] [.int v121, .ref 164, .long y21] _
                    refine iv_lald (M := mX12_laysShortAt) (X := v121.toInt) dX12_laysShortAt_123 (tl164 hT) rfl (by omega) (by omega) 124 rfl (fun v122 ev122 => ?_)
                    refine iv_addJ (M := mX12_laysShortAt) dX12_laysShortAt_124 125 rfl (fun v123 ev123 => ?_)
                    refine pv_goto (M := mX12_laysShortAt) (tgt := 129) dX12_laysShortAt_125 (by decide) ?_
                    refine pv_lstore_n (M := mX12_laysShortAt) 2 (lo2 := [.ref 123, .int y20, .long v123, pv_U, .int y1, .int y22, .int v110]) dX12_laysShortAt_129 130 rfl rfl (by decide) rfl rfl ?_
                    refine pv_iload_n (M := mX12_laysShortAt) 1 dX12_laysShortAt_130 131 rfl rfl rfl ?_
                    refine pv_iload (M := mX12_laysShortAt) dX12_laysShortAt_131 133 rfl rfl ?_
                    refine pv_calls (M := mX12_laysShortAt) (as := [.int y20, .int v110]) (st := []) (kc2 := 0) (ks2 := 0) dX12_laysShortAt_133 wd1611 YX12_least wd1612 (s_X12_least g hT I93 y20 (by omega) (by omega) v110 (by omega) (by omega)) rfl rfl (Nat.le_of_ble_eq_true rfl) (by decide) rfl rfl 136 rfl (fun rv h1 q124 => ?_)
                    obtain ⟨v125, rfl, rfl, pv125, qv125, rv125⟩ := q124
                    replace rv125 : v125.toInt ≤ y20.toInt ∧ v125.toInt ≤ v110.toInt ∧ (v125.toInt = y20.toInt ∨ v125.toInt = v110.toInt) := rv125
                    show PV _ _ _ _ _ _ _ 136 [.ref 123, .int y20, .long v123, pv_U, .int y1, .int y22, .int v110] [.int v125] _
                    have k136 := rv125
                    refine pv_istore_n (M := mX12_laysShortAt) 1 (lo2 := [.ref 123, .int v125, .long v123, pv_U, .int y1, .int y22, .int v110]) dX12_laysShortAt_136 137 rfl rfl (by decide) rfl rfl ?_
                    refine iv_inc (M := mX12_laysShortAt) (C := 1) dX12_laysShortAt_137 140 rfl rfl (by decide) rfl rfl (by decide) (by omega) (by omega) (fun v127 ev127 => ?_)
                    show PV _ _ _ _ _ _ _ 140 [.ref 123, .int v125, .long v123, pv_U, .int y1, .int v127, .int v110] [] _
                    refine pv_goto (M := mX12_laysShortAt) (tgt := 58) dX12_laysShortAt_140 (by decide) ?_
                    refine pv_fg (lo2 := [.ref 123, .int v125, .long v123, pv_U, .int y1, .int v127, pv_U]) ⟨Or.inr rfl, ⟨Or.inr rfl, ⟨Or.inr rfl, ⟨Or.inl rfl, ⟨Or.inr rfl, ⟨Or.inr rfl, ⟨Or.inl rfl, trivial⟩⟩⟩⟩⟩⟩⟩ ?_
                    have ku : v127.toInt = y22.toInt + 1 := by omega
                    have kb58 : SB m (pa m) v125.toInt v127.toInt := by rw [ku]; first | exact SB_skip kg58 (by omega) | exact SB_take (hw := k136) kg58 (by omega) (by omega) (by omega) hp0 hp2 (by omega)
                    have kb58m : SBm m (pa m) v125.toInt v127.toInt := by rw [ku]; first | exact SBm_skip kgm (by omega) | exact SBm_take (hw := k136) kgm (by omega)
                    exact ih29 v125 v123 v127 m91 n92 (by first | omega | assumption | exact (iv_rng _).2 | exact (iv_rng _).1 | decide) (by first | omega | assumption | exact (iv_rng _).2 | exact (iv_rng _).1 | decide) (by first | omega | assumption | exact (iv_rng _).2 | exact (iv_rng _).1 | decide) (by first | omega | assumption | exact (iv_rng _).2 | exact (iv_rng _).1 | decide) kb58 k71f kb58m I93 K94 NK94 (by omega)
                · have c111 := iv_nle (X := y20.toInt) (Y := v110.toInt) c111 rfl rfl
                  refine pv_aload_n (M := mX12_laysShortAt) 0 dX12_laysShortAt_96 97 rfl rfl rfl ?_
                  refine mv_get (M := mX12_laysShortAt) (v := .ref 164) dX12_laysShortAt_97 FX12 58 wd1231 (by decide) (tl123 hT) rfl rfl 100 rfl ?_
                  refine pv_aload_n (M := mX12_laysShortAt) 0 dX12_laysShortAt_100 101 rfl rfl rfl ?_
                  refine pv_callv (M := mX12_laysShortAt) (as := []) (st := [.ref 164]) (kc2 := 0) (ks2 := 0) dX12_laysShortAt_101 wd1676 YX12_nextShort ⟨wd1678, wd107⟩ (mk_get (tl123 hT)) rfl rfl (s_X12_nextShort g hT I93 k12n) rfl rfl (Nat.le_of_ble_eq_true rfl) (by decide) rfl rfl 104 rfl (fun rv h1 q131 => ?_)
                  obtain ⟨v132, rfl, rfl, pv132, qv132, rv132⟩ := q131
                  replace rv132 : v132.toInt.toNat = sx (pn m91) := rv132
                  show PV _ _ _ _ _ _ _ 104 [.ref 123, .int y20, .long y21, pv_U, .int y1, .int y22, .int v110] [.int v132, .ref 164] _
                  refine iv_lald (M := mX12_laysShortAt) (X := v132.toInt) dX12_laysShortAt_104 (tl164 hT) rfl (by omega) (by omega) 105 rfl (fun v133 ev133 => ?_)
                  refine pv_goto (M := mX12_laysShortAt) (tgt := 129) dX12_laysShortAt_105 (by decide) ?_
                  refine pv_lstore_n (M := mX12_laysShortAt) 2 (lo2 := [.ref 123, .int y20, .long v133, pv_U, .int y1, .int y22, .int v110]) dX12_laysShortAt_129 130 rfl rfl (by decide) rfl rfl ?_
                  refine pv_iload_n (M := mX12_laysShortAt) 1 dX12_laysShortAt_130 131 rfl rfl rfl ?_
                  refine pv_iload (M := mX12_laysShortAt) dX12_laysShortAt_131 133 rfl rfl ?_
                  refine pv_calls (M := mX12_laysShortAt) (as := [.int y20, .int v110]) (st := []) (kc2 := 0) (ks2 := 0) dX12_laysShortAt_133 wd1611 YX12_least wd1612 (s_X12_least g hT I93 y20 (by omega) (by omega) v110 (by omega) (by omega)) rfl rfl (Nat.le_of_ble_eq_true rfl) (by decide) rfl rfl 136 rfl (fun rv h1 q134 => ?_)
                  obtain ⟨v135, rfl, rfl, pv135, qv135, rv135⟩ := q134
                  replace rv135 : v135.toInt ≤ y20.toInt ∧ v135.toInt ≤ v110.toInt ∧ (v135.toInt = y20.toInt ∨ v135.toInt = v110.toInt) := rv135
                  show PV _ _ _ _ _ _ _ 136 [.ref 123, .int y20, .long v133, pv_U, .int y1, .int y22, .int v110] [.int v135] _
                  have k136 := rv135
                  refine pv_istore_n (M := mX12_laysShortAt) 1 (lo2 := [.ref 123, .int v135, .long v133, pv_U, .int y1, .int y22, .int v110]) dX12_laysShortAt_136 137 rfl rfl (by decide) rfl rfl ?_
                  refine iv_inc (M := mX12_laysShortAt) (C := 1) dX12_laysShortAt_137 140 rfl rfl (by decide) rfl rfl (by decide) (by omega) (by omega) (fun v137 ev137 => ?_)
                  show PV _ _ _ _ _ _ _ 140 [.ref 123, .int v135, .long v133, pv_U, .int y1, .int v137, .int v110] [] _
                  refine pv_goto (M := mX12_laysShortAt) (tgt := 58) dX12_laysShortAt_140 (by decide) ?_
                  refine pv_fg (lo2 := [.ref 123, .int v135, .long v133, pv_U, .int y1, .int v137, pv_U]) ⟨Or.inr rfl, ⟨Or.inr rfl, ⟨Or.inr rfl, ⟨Or.inl rfl, ⟨Or.inr rfl, ⟨Or.inr rfl, ⟨Or.inl rfl, trivial⟩⟩⟩⟩⟩⟩⟩ ?_
                  have ku : v137.toInt = y22.toInt + 1 := by omega
                  have kb58 : SB m (pa m) v135.toInt v137.toInt := by rw [ku]; first | exact SB_skip kg58 (by omega) | exact SB_take (hw := k136) kg58 (by omega) (by omega) (by omega) hp0 hp2 (by omega)
                  have kb58m : SBm m (pa m) v135.toInt v137.toInt := by rw [ku]; first | exact SBm_skip kgm (by omega) | exact SBm_take (hw := k136) kgm (by omega)
                  exact ih29 v135 v133 v137 m91 n92 (by first | omega | assumption | exact (iv_rng _).2 | exact (iv_rng _).1 | decide) (by first | omega | assumption | exact (iv_rng _).2 | exact (iv_rng _).1 | decide) (by first | omega | assumption | exact (iv_rng _).2 | exact (iv_rng _).1 | decide) (by first | omega | assumption | exact (iv_rng _).2 | exact (iv_rng _).1 | decide) kb58 k71f kb58m I93 K94 NK94 (by omega)
              · have c103 := iv_eq (X := v95.toInt) (Y := 0) c103 rfl (by decide)
                refine pv_goto (M := mX12_laysShortAt) (tgt := 137) dX12_laysShortAt_74 (by decide) ?_
                refine iv_inc (M := mX12_laysShortAt) (C := 1) dX12_laysShortAt_137 140 rfl rfl (by decide) rfl rfl (by decide) (by omega) (by omega) (fun v141 ev141 => ?_)
                show PV _ _ _ _ _ _ _ 140 [.ref 123, .int y20, .long y21, pv_U, .int y1, .int v141, pv_U] [] _
                refine pv_goto (M := mX12_laysShortAt) (tgt := 58) dX12_laysShortAt_140 (by decide) ?_
                have ku : v141.toInt = y22.toInt + 1 := by omega
                have kb58 : SB m (pa m) y20.toInt v141.toInt := by rw [ku]; first | exact SB_skip kg58 (by omega) | exact SB_take (hw := k136) kg58 (by omega) (by omega) (by omega) hp0 hp2 (by omega)
                have kb58m : SBm m (pa m) y20.toInt v141.toInt := by rw [ku]; first | exact SBm_skip kgm (by omega) | exact SBm_take (hw := k136) kgm (by omega)
                exact ih29 y20 y21 v141 m91 n92 (by first | omega | assumption | exact (iv_rng _).2 | exact (iv_rng _).1 | decide) (by first | omega | assumption | exact (iv_rng _).2 | exact (iv_rng _).1 | decide) (by first | omega | assumption | exact (iv_rng _).2 | exact (iv_rng _).1 | decide) (by first | omega | assumption | exact (iv_rng _).2 | exact (iv_rng _).1 | decide) kb58 k71f kb58m I93 K94 NK94 (by omega)
        have z145 : (1000000000 : Int32).toInt = 1000000000 := by decide
        have z146 : (0 : Int32).toInt = 0 := by decide
        exact lp28 (((26 - 0) : Int).toNat + 1) 1000000000 0 0 m n (by first | omega | assumption | exact (iv_rng _).2 | exact (iv_rng _).1 | decide) (by first | omega | assumption | exact (iv_rng _).2 | exact (iv_rng _).1 | decide) (by first | omega | assumption | exact (iv_rng _).2 | exact (iv_rng _).1 | decide) (by first | omega | assumption | exact (iv_rng _).2 | exact (iv_rng _).1 | decide) (by rw [show (1000000000 : Int32).toInt = 1000000000 by decide, Int32.toInt_zero]; exact SB_z) (fun _ => rfl) (by rw [Int32.toInt_zero]; exact SBm_z) I Kp NKp (by omega)
      · have c19 := iv_nle (X := v18.toInt) (Y := y2.toInt) c19 rfl rfl
        refine pv_iload (M := mX12_laysShortAt) dX12_laysShortAt_21 23 rfl rfl ?_
        refine pv_if_eq (M := mX12_laysShortAt) (tgt := 46) dX12_laysShortAt_23 26 rfl (by decide) (fun c147 => ?_) (fun c147 => ?_)
        · have c147 := iv_eq (X := y1.toInt) (Y := 0) c147 rfl (by decide)
          refine pv_iconst (M := mX12_laysShortAt) (v := 0) dX12_laysShortAt_46 47 rfl (by decide) ?_
          refine pv_istore (M := mX12_laysShortAt) (lo2 := [.ref 123, .int 1000000000, .long 0, pv_U, .int 0, .int y2, pv_U]) dX12_laysShortAt_47 49 rfl (by decide) rfl rfl ?_
          refine iv_inc (M := mX12_laysShortAt) (C := 1) dX12_laysShortAt_49 52 rfl rfl (by decide) rfl rfl (by decide) (by omega) (by omega) (fun v148 ev148 => ?_)
          show PV _ _ _ _ _ _ _ 52 [.ref 123, .int 1000000000, .long 0, pv_U, .int 0, .int v148, pv_U] [] _
          refine pv_goto (M := mX12_laysShortAt) (tgt := 12) dX12_laysShortAt_52 (by decide) ?_
          have z149 : (0 : Int32).toInt = 0 := by decide
          have ku : v148.toInt = y2.toInt + 1 := by omega
          have kb12 : END m (pa m) 0 v148.toInt := by rw [ku]; first | exact END_keep kg12 (by omega) (by omega) (by omega) | exact END_no (k := y2.toInt) (by omega) (by omega) (by omega) (by omega) | exact END_on (by have q := kg12; rw [show y1.toInt = 0 by omega] at q; exact q)
          exact ih9 0 v148 (by first | omega | assumption | exact (iv_rng _).2 | exact (iv_rng _).1 | decide) (by first | omega | assumption | exact (iv_rng _).2 | exact (iv_rng _).1 | decide) (by first | omega | assumption | exact (iv_rng _).2 | exact (iv_rng _).1 | decide) (by first | omega | assumption | exact (iv_rng _).2 | exact (iv_rng _).1 | decide) (by first | omega | assumption | (show v148.toInt ≤ (m 123 50).toInt; omega) | decide) kb12 (by omega)
        · have c147 := iv_ne (X := y1.toInt) (Y := 0) c147 rfl (by decide)
          refine pv_aload_n (M := mX12_laysShortAt) 0 dX12_laysShortAt_26 27 rfl rfl rfl ?_
          refine mv_get (M := mX12_laysShortAt) (v := .ref 158) dX12_laysShortAt_27 FX12 52 wd1225 (by decide) (tl123 hT) rfl rfl 30 rfl ?_
          refine pv_iload (M := mX12_laysShortAt) dX12_laysShortAt_30 32 rfl rfl ?_
          refine iv_iald (M := mX12_laysShortAt) (X := y2.toInt) (l1 := 0) (l2 := 16) dX12_laysShortAt_32 (tl158 hT) rfl (by omega) (by omega) I (fun _ => rfl) 33 rfl (fun v152 ev152 pv152 qv152 => ?_)
          have k33 : v152.toInt = pa m y2.toInt.toNat := congrArg Int32.toInt ev152
          refine pv_aload_n (M := mX12_laysShortAt) 0 dX12_laysShortAt_33 34 rfl rfl rfl ?_
          refine pv_iload (M := mX12_laysShortAt) dX12_laysShortAt_34 36 rfl rfl ?_
          refine pv_callv (M := mX12_laysShortAt) (as := [.int y2]) (st := [.int v152]) (kc2 := 0) (ks2 := 0) dX12_laysShortAt_36 wd1633 YX12_longOf ⟨wd1635, wd98⟩ (mk_get (tl123 hT)) rfl rfl (s_X12_longOf g hT I y2 (by omega) (by omega)) rfl rfl (Nat.le_of_ble_eq_true rfl) (by decide) rfl rfl 39 rfl (fun rv h1 q154 => ?_)
          obtain ⟨v155, rfl, rfl, pv155, qv155, rv155⟩ := q154
          replace rv155 : v155.toInt = LOq m y2.toInt := rv155
          show PV _ _ _ _ _ _ _ 39 [.ref 123, .int 1000000000, .long 0, pv_U, .int y1, .int y2, pv_U] [.int v155, .int v152] _
          have k39 : v155.toInt = LOq m y2.toInt := rv155
          refine pv_icmp_ne (M := mX12_laysShortAt) (tgt := 46) dX12_laysShortAt_39 42 rfl (by decide) (fun c157 => ?_) (fun c157 => ?_)
          · have c157 := iv_ne (X := v152.toInt) (Y := v155.toInt) c157 rfl rfl
            refine pv_iconst (M := mX12_laysShortAt) (v := 0) dX12_laysShortAt_46 47 rfl (by decide) ?_
            refine pv_istore (M := mX12_laysShortAt) (lo2 := [.ref 123, .int 1000000000, .long 0, pv_U, .int 0, .int y2, pv_U]) dX12_laysShortAt_47 49 rfl (by decide) rfl rfl ?_
            refine iv_inc (M := mX12_laysShortAt) (C := 1) dX12_laysShortAt_49 52 rfl rfl (by decide) rfl rfl (by decide) (by omega) (by omega) (fun v158 ev158 => ?_)
            show PV _ _ _ _ _ _ _ 52 [.ref 123, .int 1000000000, .long 0, pv_U, .int 0, .int v158, pv_U] [] _
            refine pv_goto (M := mX12_laysShortAt) (tgt := 12) dX12_laysShortAt_52 (by decide) ?_
            have z159 : (0 : Int32).toInt = 0 := by decide
            have ku : v158.toInt = y2.toInt + 1 := by omega
            have kb12 : END m (pa m) 0 v158.toInt := by rw [ku]; first | exact END_keep kg12 (by omega) (by omega) (by omega) | exact END_no (k := y2.toInt) (by omega) (by omega) (by omega) (by omega) | exact END_on (by have q := kg12; rw [show y1.toInt = 0 by omega] at q; exact q)
            exact ih9 0 v158 (by first | omega | assumption | exact (iv_rng _).2 | exact (iv_rng _).1 | decide) (by first | omega | assumption | exact (iv_rng _).2 | exact (iv_rng _).1 | decide) (by first | omega | assumption | exact (iv_rng _).2 | exact (iv_rng _).1 | decide) (by first | omega | assumption | exact (iv_rng _).2 | exact (iv_rng _).1 | decide) (by first | omega | assumption | (show v158.toInt ≤ (m 123 50).toInt; omega) | decide) kb12 (by omega)
          · have c157 := iv_eq (X := v152.toInt) (Y := v155.toInt) c157 rfl rfl
            refine pv_iconst (M := mX12_laysShortAt) (v := 1) dX12_laysShortAt_42 43 rfl (by decide) ?_
            refine pv_goto (M := mX12_laysShortAt) (tgt := 47) dX12_laysShortAt_43 (by decide) ?_
            refine pv_istore (M := mX12_laysShortAt) (lo2 := [.ref 123, .int 1000000000, .long 0, pv_U, .int 1, .int y2, pv_U]) dX12_laysShortAt_47 49 rfl (by decide) rfl rfl ?_
            refine iv_inc (M := mX12_laysShortAt) (C := 1) dX12_laysShortAt_49 52 rfl rfl (by decide) rfl rfl (by decide) (by omega) (by omega) (fun v162 ev162 => ?_)
            show PV _ _ _ _ _ _ _ 52 [.ref 123, .int 1000000000, .long 0, pv_U, .int 1, .int v162, pv_U] [] _
            refine pv_goto (M := mX12_laysShortAt) (tgt := 12) dX12_laysShortAt_52 (by decide) ?_
            have z163 : (1 : Int32).toInt = 1 := by decide
            have ku : v162.toInt = y2.toInt + 1 := by omega
            have kb12 : END m (pa m) 1 v162.toInt := by rw [ku]; first | exact END_keep kg12 (by omega) (by omega) (by omega) | exact END_no (k := y2.toInt) (by omega) (by omega) (by omega) (by omega) | exact END_on (by have q := kg12; rw [show y1.toInt = 0 by omega] at q; exact q)
            exact ih9 1 v162 (by first | omega | assumption | exact (iv_rng _).2 | exact (iv_rng _).1 | decide) (by first | omega | assumption | exact (iv_rng _).2 | exact (iv_rng _).1 | decide) (by first | omega | assumption | exact (iv_rng _).2 | exact (iv_rng _).1 | decide) (by first | omega | assumption | exact (iv_rng _).2 | exact (iv_rng _).1 | decide) (by first | omega | assumption | (show v162.toInt ≤ (m 123 50).toInt; omega) | decide) kb12 (by omega)
  have z166 : (1 : Int32).toInt = 1 := by decide
  have z167 : (0 : Int32).toInt = 0 := by decide
  exact lp8 (((4 - 0) : Int).toNat + 1) 1 0 (by first | omega | assumption | exact (iv_rng _).2 | exact (iv_rng _).1 | decide) (by first | omega | assumption | exact (iv_rng _).2 | exact (iv_rng _).1 | decide) (by first | omega | assumption | exact (iv_rng _).2 | exact (iv_rng _).1 | decide) (by first | omega | assumption | exact (iv_rng _).2 | exact (iv_rng _).1 | decide) (by first | omega | assumption | (show 0 ≤ (m 123 50).toInt; omega) | decide) (by rw [show (1 : Int32).toInt = 1 by decide, Int32.toInt_zero]; exact END_z) (by omega)

set_option maxHeartbeats 2000000 in
set_option maxRecDepth 20000 in
theorem s_X12_laysShort_ve (g : pv_G) {T : List mv_T} {m : Nat → Nat → Int32} {n : Nat → Nat → Int64} {r : Nat → Value} (hT : TX T) (I : IV BB m) (hp0 : LO12 m) : PM g mX12_laysShort yX12_laysShort (sqVn T BB (wl [(158, 158, none), (159, 159, none), (163, 163, none)]) r m (fun m' n' => nM n n' ∧ (SHp m' (-1) 16 16 16 ∧ SHm m' (-1) 16 16 16))) 4 0 0 [.ref 123] (mk T m n r) := by
  have Kp : fr (wl [(158, 158, none), (159, 159, none), (163, 163, none)]) m m := fr.rf
  have NKp : nM n n := nM.rf
  have z184 : 0 ≤ (m 123 50).toInt ∧ (m 123 50).toInt ≤ 4 := I 123 50
  refine PM.of 4 (lo := [.ref 123, pv_U, pv_U, pv_U, pv_U]) rfl (by decide) rfl rfl (Nat.le_of_ble_eq_true rfl) ?_
  have kl0 := LO4 hp0
  refine pv_aload_n (M := mX12_laysShort) 0 dX12_laysShort_0 1 rfl rfl rfl ?_
  refine pv_iconst (M := mX12_laysShort) (v := 0) dX12_laysShort_1 2 rfl (by decide) ?_
  have z2 : (0 : Int32).toInt = 0 := by decide
  refine pv_callv (M := mX12_laysShort) (as := [.int 0]) (st := []) (kc2 := 0) (ks2 := 0) dX12_laysShort_2 wd1633 YX12_longOf ⟨wd1635, wd98⟩ (mk_get (tl123 hT)) rfl rfl (s_X12_longOf g hT I 0 (by decide) (by decide)) rfl rfl (Nat.le_of_ble_eq_true rfl) (by decide) rfl rfl 5 rfl (fun rv h1 q3 => ?_)
  obtain ⟨v4, rfl, rfl, pv4, qv4, rv4⟩ := q3
  replace rv4 : v4.toInt = LOq m (0 : Int) := by have q_ := rv4; (try rw [z2] at q_); exact q_
  show PV _ _ _ _ _ _ _ 5 [.ref 123, pv_U, pv_U, pv_U, pv_U] [.int v4] _
  have k5 : v4.toInt = LOq m 0 := rv4
  refine pv_istore_n (M := mX12_laysShort) 1 (lo2 := [.ref 123, .int v4, pv_U, pv_U, pv_U]) dX12_laysShort_5 6 rfl rfl (by decide) rfl rfl ?_
  have lp12 : ∀ (fuel11 : Nat) (y6 : Int32) (m7 : Nat → Nat → Int32) (n8 : Nat → Nat → Int64), (-1 ≤ y6.toInt) → (y6.toInt ≤ 12) → (y6.toInt ≤ LOq m 0) → (SHp m7 y6.toInt 16 16 16) → (SHm m7 y6.toInt 16 16 16) → IV BB m7 → fr (wl [(158, 158, none), (159, 159, none), (163, 163, none)]) m m7 → nM n n8 → ((y6.toInt - (-1)) : Int).toNat < fuel11 → PV none g mX12_laysShort (sqVn T BB (wl [(158, 158, none), (159, 159, none), (163, 163, none)]) r m (fun m' n' => nM n n' ∧ (SHp m' (-1) 16 16 16 ∧ SHm m' (-1) 16 16 16))) 4 0 0 6 [.ref 123, .int y6, pv_U, pv_U, pv_U] [] (mk T m7 n8 r) := by
    intro fuel11
    induction fuel11 with
    | zero => intro y6 m7 n8 b14 b15 b16 b17 b18 I9 K10 NK10 z19; omega
    | succ fuel11 ih13 =>
      intro y6 m7 n8 b14 b15 b16 b17 b18 I9 K10 NK10 z19
      have z20 : 0 ≤ (m7 123 50).toInt ∧ (m7 123 50).toInt ≤ 4 := I9 123 50
      have kg6 := (show SHp m7 y6.toInt 16 16 16 by assumption)
      have kg6m := (show SHm m7 y6.toInt 16 16 16 by assumption)
      have kS : HSAME m m7 := ⟨K10 123 50 rfl, fun j => K10 157 j rfl, fun j => K10 126 j rfl, fun j => K10 127 j rfl⟩
      have kl : LO12 m7 := LO12_eq kS hp0
      have kq0 := LOq_eq kS 0
      have kq1 := LOq_eq kS 1
      have kq2 := LOq_eq kS 2
      have kq3 := LOq_eq kS 3
      refine pv_iload_n (M := mX12_laysShort) 1 dX12_laysShort_6 7 rfl rfl rfl ?_
      refine pv_if_lt (M := mX12_laysShort) (tgt := 99) dX12_laysShort_7 10 rfl (by decide) (fun c29 => ?_) (fun c29 => ?_)
      · have c29 := iv_lt (X := y6.toInt) (Y := 0) c29 rfl (by decide)
        exact pv_vret (M := mX12_laysShort) dX12_laysShort_99 rfl ⟨_, _, rfl, rfl, I9, K10, ⟨NK10, ⟨(by have q := kg6; rw [show y6.toInt = -1 by omega] at q; exact q), (by have q := kg6m; rw [show y6.toInt = -1 by omega] at q; exact q)⟩⟩⟩
      · have c29 := iv_nlt (X := y6.toInt) (Y := 0) c29 rfl (by decide)
        refine pv_aload_n (M := mX12_laysShort) 0 dX12_laysShort_10 11 rfl rfl rfl ?_
        refine pv_iconst (M := mX12_laysShort) (v := 1) dX12_laysShort_11 12 rfl (by decide) ?_
        have z30 : (1 : Int32).toInt = 1 := by decide
        refine pv_callv (M := mX12_laysShort) (as := [.int 1]) (st := []) (kc2 := 0) (ks2 := 0) dX12_laysShort_12 wd1633 YX12_longOf ⟨wd1635, wd98⟩ (mk_get (tl123 hT)) rfl rfl (s_X12_longOf g hT I9 1 (by decide) (by decide)) rfl rfl (Nat.le_of_ble_eq_true rfl) (by decide) rfl rfl 15 rfl (fun rv h1 q31 => ?_)
        obtain ⟨v32, rfl, rfl, pv32, qv32, rv32⟩ := q31
        replace rv32 : v32.toInt = LOq m7 (1 : Int) := by have q_ := rv32; (try rw [z30] at q_); exact q_
        show PV _ _ _ _ _ _ _ 15 [.ref 123, .int y6, pv_U, pv_U, pv_U] [.int v32] _
        have k15 : v32.toInt = LOq m 1 := by rw [← kq1]; exact rv32
        refine pv_istore_n (M := mX12_laysShort) 2 (lo2 := [.ref 123, .int y6, .int v32, pv_U, pv_U]) dX12_laysShort_15 16 rfl rfl (by decide) rfl rfl ?_
        have lp40 : ∀ (fuel39 : Nat) (y34 : Int32) (m35 : Nat → Nat → Int32) (n36 : Nat → Nat → Int64), (-1 ≤ y34.toInt) → (y34.toInt ≤ 12) → (y34.toInt ≤ LOq m 1) → (SHp m35 y6.toInt y34.toInt 16 16) → (SHm m35 y6.toInt y34.toInt 16 16) → IV BB m35 → fr (wl [(158, 158, none), (159, 159, none), (163, 163, none)]) m m35 → nM n n36 → ((y34.toInt - (-1)) : Int).toNat < fuel39 → PV none g mX12_laysShort (sqVn T BB (wl [(158, 158, none), (159, 159, none), (163, 163, none)]) r m (fun m' n' => nM n n' ∧ (SHp m' (-1) 16 16 16 ∧ SHm m' (-1) 16 16 16))) 4 0 0 16 [.ref 123, .int y6, .int y34, pv_U, pv_U] [] (mk T m35 n36 r) := by
          intro fuel39
          induction fuel39 with
          | zero => intro y34 m35 n36 b42 b43 b44 b45 b46 I37 K38 NK38 z47; omega
          | succ fuel39 ih41 =>
            intro y34 m35 n36 b42 b43 b44 b45 b46 I37 K38 NK38 z47
            have z48 : 0 ≤ (m35 123 50).toInt ∧ (m35 123 50).toInt ≤ 4 := I37 123 50
            have kg16 := (show SHp m35 y6.toInt y34.toInt 16 16 by assumption)
            have kg16m := (show SHm m35 y6.toInt y34.toInt 16 16 by assumption)
            have kS : HSAME m m35 := ⟨K38 123 50 rfl, fun j => K38 157 j rfl, fun j => K38 126 j rfl, fun j => K38 127 j rfl⟩
            have kl : LO12 m35 := LO12_eq kS hp0
            have kq0 := LOq_eq kS 0
            have kq1 := LOq_eq kS 1
            have kq2 := LOq_eq kS 2
            have kq3 := LOq_eq kS 3
            refine pv_iload_n (M := mX12_laysShort) 2 dX12_laysShort_16 17 rfl rfl rfl ?_
            refine pv_if_lt (M := mX12_laysShort) (tgt := 93) dX12_laysShort_17 20 rfl (by decide) (fun c57 => ?_) (fun c57 => ?_)
            · have c57 := iv_lt (X := y34.toInt) (Y := 0) c57 rfl (by decide)
              refine iv_inc (M := mX12_laysShort) (C := (-1)) dX12_laysShort_93 96 rfl rfl (by decide) rfl rfl (by decide) (by omega) (by omega) (fun v58 ev58 => ?_)
              show PV _ _ _ _ _ _ _ 96 [.ref 123, .int v58, .int y34, pv_U, pv_U] [] _
              refine pv_goto (M := mX12_laysShort) (tgt := 6) dX12_laysShort_96 (by decide) ?_
              refine pv_fg (lo2 := [.ref 123, .int v58, pv_U, pv_U, pv_U]) ⟨Or.inr rfl, ⟨Or.inr rfl, ⟨Or.inl rfl, ⟨Or.inl rfl, ⟨Or.inl rfl, trivial⟩⟩⟩⟩⟩ ?_
              have kb6 : SHp m35 v58.toInt 16 16 16 := by rw [show v58.toInt = y6.toInt - 1 by omega]; exact SHp_b kl (by have q := kg16; rw [show y34.toInt = -1 by omega] at q; exact q)
              have kb6m : SHm m35 v58.toInt 16 16 16 := by rw [show v58.toInt = y6.toInt - 1 by omega]; exact SHm_b kl (by have q := kg16m; rw [show y34.toInt = -1 by omega] at q; exact q)
              exact ih13 v58 m35 n36 (by first | omega | assumption | exact (iv_rng _).2 | exact (iv_rng _).1 | decide) (by first | omega | assumption | exact (iv_rng _).2 | exact (iv_rng _).1 | decide) (by first | omega | assumption | (show v58.toInt ≤ LOq m 0; omega) | decide) kb6 kb6m I37 K38 NK38 (by omega)
            · have c57 := iv_nlt (X := y34.toInt) (Y := 0) c57 rfl (by decide)
              refine pv_aload_n (M := mX12_laysShort) 0 dX12_laysShort_20 21 rfl rfl rfl ?_
              refine pv_iconst (M := mX12_laysShort) (v := 2) dX12_laysShort_21 22 rfl (by decide) ?_
              have z61 : (2 : Int32).toInt = 2 := by decide
              refine pv_callv (M := mX12_laysShort) (as := [.int 2]) (st := []) (kc2 := 0) (ks2 := 0) dX12_laysShort_22 wd1633 YX12_longOf ⟨wd1635, wd98⟩ (mk_get (tl123 hT)) rfl rfl (s_X12_longOf g hT I37 2 (by decide) (by decide)) rfl rfl (Nat.le_of_ble_eq_true rfl) (by decide) rfl rfl 25 rfl (fun rv h1 q62 => ?_)
              obtain ⟨v63, rfl, rfl, pv63, qv63, rv63⟩ := q62
              replace rv63 : v63.toInt = LOq m35 (2 : Int) := by have q_ := rv63; (try rw [z61] at q_); exact q_
              show PV _ _ _ _ _ _ _ 25 [.ref 123, .int y6, .int y34, pv_U, pv_U] [.int v63] _
              have k25 : v63.toInt = LOq m 2 := by rw [← kq2]; exact rv63
              refine pv_istore_n (M := mX12_laysShort) 3 (lo2 := [.ref 123, .int y6, .int y34, .int v63, pv_U]) dX12_laysShort_25 26 rfl rfl (by decide) rfl rfl ?_
              have lp71 : ∀ (fuel70 : Nat) (y65 : Int32) (m66 : Nat → Nat → Int32) (n67 : Nat → Nat → Int64), (-1 ≤ y65.toInt) → (y65.toInt ≤ 12) → (y65.toInt ≤ LOq m 2) → (SHp m66 y6.toInt y34.toInt y65.toInt 16) → (SHm m66 y6.toInt y34.toInt y65.toInt 16) → IV BB m66 → fr (wl [(158, 158, none), (159, 159, none), (163, 163, none)]) m m66 → nM n n67 → ((y65.toInt - (-1)) : Int).toNat < fuel70 → PV none g mX12_laysShort (sqVn T BB (wl [(158, 158, none), (159, 159, none), (163, 163, none)]) r m (fun m' n' => nM n n' ∧ (SHp m' (-1) 16 16 16 ∧ SHm m' (-1) 16 16 16))) 4 0 0 26 [.ref 123, .int y6, .int y34, .int y65, pv_U] [] (mk T m66 n67 r) := by
                intro fuel70
                induction fuel70 with
                | zero => intro y65 m66 n67 b73 b74 b75 b76 b77 I68 K69 NK69 z78; omega
                | succ fuel70 ih72 =>
                  intro y65 m66 n67 b73 b74 b75 b76 b77 I68 K69 NK69 z78
                  have z79 : 0 ≤ (m66 123 50).toInt ∧ (m66 123 50).toInt ≤ 4 := I68 123 50
                  have kg26 := (show SHp m66 y6.toInt y34.toInt y65.toInt 16 by assumption)
                  have kg26m := (show SHm m66 y6.toInt y34.toInt y65.toInt 16 by assumption)
                  have kS : HSAME m m66 := ⟨K69 123 50 rfl, fun j => K69 157 j rfl, fun j => K69 126 j rfl, fun j => K69 127 j rfl⟩
                  have kl : LO12 m66 := LO12_eq kS hp0
                  have kq0 := LOq_eq kS 0
                  have kq1 := LOq_eq kS 1
                  have kq2 := LOq_eq kS 2
                  have kq3 := LOq_eq kS 3
                  refine pv_iload_n (M := mX12_laysShort) 3 dX12_laysShort_26 27 rfl rfl rfl ?_
                  refine pv_if_lt (M := mX12_laysShort) (tgt := 87) dX12_laysShort_27 30 rfl (by decide) (fun c88 => ?_) (fun c88 => ?_)
                  · have c88 := iv_lt (X := y65.toInt) (Y := 0) c88 rfl (by decide)
                    refine iv_inc (M := mX12_laysShort) (C := (-1)) dX12_laysShort_87 90 rfl rfl (by decide) rfl rfl (by decide) (by omega) (by omega) (fun v89 ev89 => ?_)
                    show PV _ _ _ _ _ _ _ 90 [.ref 123, .int y6, .int v89, .int y65, pv_U] [] _
                    refine pv_goto (M := mX12_laysShort) (tgt := 16) dX12_laysShort_90 (by decide) ?_
                    refine pv_fg (lo2 := [.ref 123, .int y6, .int v89, pv_U, pv_U]) ⟨Or.inr rfl, ⟨Or.inr rfl, ⟨Or.inr rfl, ⟨Or.inl rfl, ⟨Or.inl rfl, trivial⟩⟩⟩⟩⟩ ?_
                    have kb16 : SHp m66 y6.toInt v89.toInt 16 16 := by rw [show v89.toInt = y34.toInt - 1 by omega]; exact SHp_c kl (by have q := kg26; rw [show y65.toInt = -1 by omega] at q; exact q)
                    have kb16m : SHm m66 y6.toInt v89.toInt 16 16 := by rw [show v89.toInt = y34.toInt - 1 by omega]; exact SHm_c kl (by have q := kg26m; rw [show y65.toInt = -1 by omega] at q; exact q)
                    exact ih41 v89 m66 n67 (by first | omega | assumption | exact (iv_rng _).2 | exact (iv_rng _).1 | decide) (by first | omega | assumption | exact (iv_rng _).2 | exact (iv_rng _).1 | decide) (by first | omega | assumption | (show v89.toInt ≤ LOq m 1; omega) | decide) kb16 kb16m I68 K69 NK69 (by omega)
                  · have c88 := iv_nlt (X := y65.toInt) (Y := 0) c88 rfl (by decide)
                    refine pv_aload_n (M := mX12_laysShort) 0 dX12_laysShort_30 31 rfl rfl rfl ?_
                    refine pv_iconst (M := mX12_laysShort) (v := 3) dX12_laysShort_31 32 rfl (by decide) ?_
                    have z92 : (3 : Int32).toInt = 3 := by decide
                    refine pv_callv (M := mX12_laysShort) (as := [.int 3]) (st := []) (kc2 := 0) (ks2 := 0) dX12_laysShort_32 wd1633 YX12_longOf ⟨wd1635, wd98⟩ (mk_get (tl123 hT)) rfl rfl (s_X12_longOf g hT I68 3 (by decide) (by decide)) rfl rfl (Nat.le_of_ble_eq_true rfl) (by decide) rfl rfl 35 rfl (fun rv h1 q93 => ?_)
                    obtain ⟨v94, rfl, rfl, pv94, qv94, rv94⟩ := q93
                    replace rv94 : v94.toInt = LOq m66 (3 : Int) := by have q_ := rv94; (try rw [z92] at q_); exact q_
                    show PV _ _ _ _ _ _ _ 35 [.ref 123, .int y6, .int y34, .int y65, pv_U] [.int v94] _
                    have k35 : v94.toInt = LOq m 3 := by rw [← kq3]; exact rv94
                    refine pv_istore (M := mX12_laysShort) (lo2 := [.ref 123, .int y6, .int y34, .int y65, .int v94]) dX12_laysShort_35 37 rfl (by decide) rfl rfl ?_
                    have lp102 : ∀ (fuel101 : Nat) (y96 : Int32) (m97 : Nat → Nat → Int32) (n98 : Nat → Nat → Int64), (-1 ≤ y96.toInt) → (y96.toInt ≤ 12) → (y96.toInt ≤ LOq m 3) → (SHp m97 y6.toInt y34.toInt y65.toInt y96.toInt) → (SHm m97 y6.toInt y34.toInt y65.toInt y96.toInt) → IV BB m97 → fr (wl [(158, 158, none), (159, 159, none), (163, 163, none)]) m m97 → nM n n98 → ((y96.toInt - (-1)) : Int).toNat < fuel101 → PV none g mX12_laysShort (sqVn T BB (wl [(158, 158, none), (159, 159, none), (163, 163, none)]) r m (fun m' n' => nM n n' ∧ (SHp m' (-1) 16 16 16 ∧ SHm m' (-1) 16 16 16))) 4 0 0 37 [.ref 123, .int y6, .int y34, .int y65, .int y96] [] (mk T m97 n98 r) := by
                      intro fuel101
                      induction fuel101 with
                      | zero => intro y96 m97 n98 b104 b105 b106 b107 b108 I99 K100 NK100 z109; omega
                      | succ fuel101 ih103 =>
                        intro y96 m97 n98 b104 b105 b106 b107 b108 I99 K100 NK100 z109
                        have z110 : 0 ≤ (m97 123 50).toInt ∧ (m97 123 50).toInt ≤ 4 := I99 123 50
                        have kg37 := (show SHp m97 y6.toInt y34.toInt y65.toInt y96.toInt by assumption)
                        have kg37m := (show SHm m97 y6.toInt y34.toInt y65.toInt y96.toInt by assumption)
                        have kS : HSAME m m97 := ⟨K100 123 50 rfl, fun j => K100 157 j rfl, fun j => K100 126 j rfl, fun j => K100 127 j rfl⟩
                        have kl : LO12 m97 := LO12_eq kS hp0
                        have kq0 := LOq_eq kS 0
                        have kq1 := LOq_eq kS 1
                        have kq2 := LOq_eq kS 2
                        have kq3 := LOq_eq kS 3
                        refine pv_iload (M := mX12_laysShort) dX12_laysShort_37 39 rfl rfl ?_
                        refine pv_if_lt (M := mX12_laysShort) (tgt := 81) dX12_laysShort_39 42 rfl (by decide) (fun c119 => ?_) (fun c119 => ?_)
                        · have c119 := iv_lt (X := y96.toInt) (Y := 0) c119 rfl (by decide)
                          refine iv_inc (M := mX12_laysShort) (C := (-1)) dX12_laysShort_81 84 rfl rfl (by decide) rfl rfl (by decide) (by omega) (by omega) (fun v120 ev120 => ?_)
                          show PV _ _ _ _ _ _ _ 84 [.ref 123, .int y6, .int y34, .int v120, .int y96] [] _
                          refine pv_goto (M := mX12_laysShort) (tgt := 26) dX12_laysShort_84 (by decide) ?_
                          refine pv_fg (lo2 := [.ref 123, .int y6, .int y34, .int v120, pv_U]) ⟨Or.inr rfl, ⟨Or.inr rfl, ⟨Or.inr rfl, ⟨Or.inr rfl, ⟨Or.inl rfl, trivial⟩⟩⟩⟩⟩ ?_
                          have kb26 : SHp m97 y6.toInt y34.toInt v120.toInt 16 := by rw [show v120.toInt = y65.toInt - 1 by omega]; exact SHp_d kl (by have q := kg37; rw [show y96.toInt = -1 by omega] at q; exact q)
                          have kb26m : SHm m97 y6.toInt y34.toInt v120.toInt 16 := by rw [show v120.toInt = y65.toInt - 1 by omega]; exact SHm_d kl (by have q := kg37m; rw [show y96.toInt = -1 by omega] at q; exact q)
                          exact ih72 v120 m97 n98 (by first | omega | assumption | exact (iv_rng _).2 | exact (iv_rng _).1 | decide) (by first | omega | assumption | exact (iv_rng _).2 | exact (iv_rng _).1 | decide) (by first | omega | assumption | (show v120.toInt ≤ LOq m 2; omega) | decide) kb26 kb26m I99 K100 NK100 (by omega)
                        · have c119 := iv_nlt (X := y96.toInt) (Y := 0) c119 rfl (by decide)
                          refine pv_aload_n (M := mX12_laysShort) 0 dX12_laysShort_42 43 rfl rfl rfl ?_
                          refine mv_get (M := mX12_laysShort) (v := .ref 158) dX12_laysShort_43 FX12 52 wd1225 (by decide) (tl123 hT) rfl rfl 46 rfl ?_
                          refine pv_iconst (M := mX12_laysShort) (v := 0) dX12_laysShort_46 47 rfl (by decide) ?_
                          refine pv_iload_n (M := mX12_laysShort) 1 dX12_laysShort_47 48 rfl rfl rfl ?_
                          refine iv_iast (M := mX12_laysShort) (X := 0) (l1 := 0) (l2 := 16) dX12_laysShort_48 (tl158 hT) (by decide) (by omega) (by omega) I99 (fun _ => rfl) (by omega) (by omega) 49 rfl (fun m123 e126 I124 => ?_)
                          have K125 := K100.set e126 rfl
                          have NK125 := NK100
                          have w127 : (m123 123 50).toInt = (m97 123 50).toInt := by rw [e126, up2_ne (by omega)]
                          have e49 := (e126).trans (up2_ix (j := 0) (by first | omega | decide))
                          have h49 := SHp_st kg37 e126 (by omega) (by omega)
                          have h49m := SHm_st kg37m e126 (by omega) (by omega)
                          refine pv_aload_n (M := mX12_laysShort) 0 dX12_laysShort_49 50 rfl rfl rfl ?_
                          refine mv_get (M := mX12_laysShort) (v := .ref 158) dX12_laysShort_50 FX12 52 wd1225 (by decide) (tl123 hT) rfl rfl 53 rfl ?_
                          refine pv_iconst (M := mX12_laysShort) (v := 1) dX12_laysShort_53 54 rfl (by decide) ?_
                          refine pv_iload_n (M := mX12_laysShort) 2 dX12_laysShort_54 55 rfl rfl rfl ?_
                          refine iv_iast (M := mX12_laysShort) (X := 1) (l1 := 0) (l2 := 16) dX12_laysShort_55 (tl158 hT) (by decide) (by omega) (by omega) I124 (fun _ => rfl) (by omega) (by omega) 56 rfl (fun m131 e134 I132 => ?_)
                          have K133 := K125.set e134 rfl
                          have NK133 := NK125
                          have w135 : (m131 123 50).toInt = (m123 123 50).toInt := by rw [e134, up2_ne (by omega)]
                          have e56 := (e134).trans (up2_ix (j := 1) (by first | omega | decide))
                          have h56 := SHp_st h49 e134 (by omega) (by omega)
                          have h56m := SHm_st h49m e134 (by omega) (by omega)
                          refine pv_aload_n (M := mX12_laysShort) 0 dX12_laysShort_56 57 rfl rfl rfl ?_
                          refine mv_get (M := mX12_laysShort) (v := .ref 158) dX12_laysShort_57 FX12 52 wd1225 (by decide) (tl123 hT) rfl rfl 60 rfl ?_
                          refine pv_iconst (M := mX12_laysShort) (v := 2) dX12_laysShort_60 61 rfl (by decide) ?_
                          refine pv_iload_n (M := mX12_laysShort) 3 dX12_laysShort_61 62 rfl rfl rfl ?_
                          refine iv_iast (M := mX12_laysShort) (X := 2) (l1 := 0) (l2 := 16) dX12_laysShort_62 (tl158 hT) (by decide) (by omega) (by omega) I132 (fun _ => rfl) (by omega) (by omega) 63 rfl (fun m139 e142 I140 => ?_)
                          have K141 := K133.set e142 rfl
                          have NK141 := NK133
                          have w143 : (m139 123 50).toInt = (m131 123 50).toInt := by rw [e142, up2_ne (by omega)]
                          have e63 := (e142).trans (up2_ix (j := 2) (by first | omega | decide))
                          have h63 := SHp_st h56 e142 (by omega) (by omega)
                          have h63m := SHm_st h56m e142 (by omega) (by omega)
                          refine pv_aload_n (M := mX12_laysShort) 0 dX12_laysShort_63 64 rfl rfl rfl ?_
                          refine mv_get (M := mX12_laysShort) (v := .ref 158) dX12_laysShort_64 FX12 52 wd1225 (by decide) (tl123 hT) rfl rfl 67 rfl ?_
                          refine pv_iconst (M := mX12_laysShort) (v := 3) dX12_laysShort_67 68 rfl (by decide) ?_
                          refine pv_iload (M := mX12_laysShort) dX12_laysShort_68 70 rfl rfl ?_
                          refine iv_iast (M := mX12_laysShort) (X := 3) (l1 := 0) (l2 := 16) dX12_laysShort_70 (tl158 hT) (by decide) (by omega) (by omega) I140 (fun _ => rfl) (by omega) (by omega) 71 rfl (fun m147 e150 I148 => ?_)
                          have K149 := K141.set e150 rfl
                          have NK149 := NK141
                          have w151 : (m147 123 50).toInt = (m139 123 50).toInt := by rw [e150, up2_ne (by omega)]
                          have e71 := (e150).trans (up2_ix (j := 3) (by first | omega | decide))
                          have h71 := SHp_st h63 e150 (by omega) (by omega)
                          have h71m := SHm_st h63m e150 (by omega) (by omega)
                          have ka := at4 e49 e56 e63 e71
                          have kS : HSAME m m147 := ⟨K149 123 50 rfl, fun j => K149 157 j rfl, fun j => K149 126 j rfl, fun j => K149 127 j rfl⟩
                          have kl : LO12 m147 := LO12_eq kS hp0
                          have kq0 := LOq_eq kS 0
                          have kq1 := LOq_eq kS 1
                          have kq2 := LOq_eq kS 2
                          have kq3 := LOq_eq kS 3
                          have kO : OKp m147 (pa m147) := OKp_of4 ka ⟨by omega, by omega⟩ ⟨by omega, by omega⟩ ⟨by omega, by omega⟩ ⟨by omega, by omega⟩
                          have kH : SHp m147 (pa m147 0) (pa m147 1) (pa m147 2) (pa m147 3) := by rw [ka.1, ka.2.1, ka.2.2.1, ka.2.2.2]; exact h71
                          have kHm : SHm m147 (pa m147 0) (pa m147 1) (pa m147 2) (pa m147 3) := by rw [ka.1, ka.2.1, ka.2.2.1, ka.2.2.2]; exact h71m
                          refine pv_aload_n (M := mX12_laysShort) 0 dX12_laysShort_71 72 rfl rfl rfl ?_
                          refine pv_callv (M := mX12_laysShort) (as := []) (st := []) (kc2 := 0) (ks2 := 0) dX12_laysShort_72 wd1668 YX12_laysShortAt ⟨wd1670, wd105⟩ (mk_get (tl123 hT)) rfl rfl (s_X12_laysShortAt_ve g hT I148 kO (LO12_eq kS hp0) kH kHm) rfl rfl (Nat.le_of_ble_eq_true rfl) (by decide) rfl rfl 75 rfl (fun rv h1 q165 => ?_)
                          obtain ⟨m166, n167, rfl, rfl, I168, K169, rm166⟩ := q165
                          have NK169c := rm166.1
                          replace rm166 := rm166.2
                          replace rm166 : SHp m166 (pa m147 0) (pa m147 1) (pa m147 2) (pa m147 3 - 1) ∧ SHm m166 (pa m147 0) (pa m147 1) (pa m147 2) (pa m147 3 - 1) := rm166
                          have K169c := K169
                          have w170 : (m166 123 50).toInt = (m147 123 50).toInt := congrArg Int32.toInt (K169 123 50 rfl)
                          have NK169 := nM.trans NK149 NK169c
                          have K169 := K149.trans (K169.sub (wl_sub (by decide)))
                          show PV _ _ _ _ _ _ _ 75 [.ref 123, .int y6, .int y34, .int y65, .int y96] [] _
                          have k75 := rm166.1
                          have k75m := rm166.2
                          rw [ka.1, ka.2.1, ka.2.2.1, ka.2.2.2] at k75
                          rw [ka.1, ka.2.1, ka.2.2.1, ka.2.2.2] at k75m
                          refine iv_inc (M := mX12_laysShort) (C := (-1)) dX12_laysShort_75 78 rfl rfl (by decide) rfl rfl (by decide) (by omega) (by omega) (fun v175 ev175 => ?_)
                          show PV _ _ _ _ _ _ _ 78 [.ref 123, .int y6, .int y34, .int y65, .int v175] [] _
                          refine pv_goto (M := mX12_laysShort) (tgt := 37) dX12_laysShort_78 (by decide) ?_
                          have kb37 : SHp m166 y6.toInt y34.toInt y65.toInt v175.toInt := by rw [show v175.toInt = y96.toInt - 1 by omega]; exact k75
                          have kb37m : SHm m166 y6.toInt y34.toInt y65.toInt v175.toInt := by rw [show v175.toInt = y96.toInt - 1 by omega]; exact k75m
                          exact ih103 v175 m166 n167 (by first | omega | assumption | exact (iv_rng _).2 | exact (iv_rng _).1 | decide) (by first | omega | assumption | exact (iv_rng _).2 | exact (iv_rng _).1 | decide) (by first | omega | assumption | (show v175.toInt ≤ LOq m 3; omega) | decide) kb37 kb37m I168 K169 NK169 (by omega)
                    have kin : SHp m66 y6.toInt y34.toInt y65.toInt v94.toInt := SHp_dn kl kg26 (fun a b c d h1 h2 h3 h4 h5 h6 h7 h8 h9 => by have q := LO4 kl; omega)
                    have kinm : SHm m66 y6.toInt y34.toInt y65.toInt v94.toInt := SHm_dn kl kg26m (fun a b c d h1 h2 h3 h4 h5 h6 h7 h8 h9 => by have q := LO4 kl; omega)
                    exact lp102 (((v94.toInt - (-1)) : Int).toNat + 1) v94 m66 n67 (by first | omega | assumption | exact (iv_rng _).2 | exact (iv_rng _).1 | decide) (by first | omega | assumption | exact (iv_rng _).2 | exact (iv_rng _).1 | decide) (by first | omega | assumption | (show v94.toInt ≤ LOq m 3; omega) | decide) kin kinm I68 K69 NK69 (by omega)
              have kin : SHp m35 y6.toInt y34.toInt v63.toInt 16 := SHp_dn kl kg16 (fun a b c d h1 h2 h3 h4 h5 h6 h7 h8 h9 => by have q := LO4 kl; omega)
              have kinm : SHm m35 y6.toInt y34.toInt v63.toInt 16 := SHm_dn kl kg16m (fun a b c d h1 h2 h3 h4 h5 h6 h7 h8 h9 => by have q := LO4 kl; omega)
              exact lp71 (((v63.toInt - (-1)) : Int).toNat + 1) v63 m35 n36 (by first | omega | assumption | exact (iv_rng _).2 | exact (iv_rng _).1 | decide) (by first | omega | assumption | exact (iv_rng _).2 | exact (iv_rng _).1 | decide) (by first | omega | assumption | (show v63.toInt ≤ LOq m 2; omega) | decide) kin kinm I37 K38 NK38 (by omega)
        have kin : SHp m7 y6.toInt v32.toInt 16 16 := SHp_dn kl kg6 (fun a b c d h1 h2 h3 h4 h5 h6 h7 h8 h9 => by have q := LO4 kl; omega)
        have kinm : SHm m7 y6.toInt v32.toInt 16 16 := SHm_dn kl kg6m (fun a b c d h1 h2 h3 h4 h5 h6 h7 h8 h9 => by have q := LO4 kl; omega)
        exact lp40 (((v32.toInt - (-1)) : Int).toNat + 1) v32 m7 n8 (by first | omega | assumption | exact (iv_rng _).2 | exact (iv_rng _).1 | decide) (by first | omega | assumption | exact (iv_rng _).2 | exact (iv_rng _).1 | decide) (by first | omega | assumption | (show v32.toInt ≤ LOq m 1; omega) | decide) kin kinm I9 K10 NK10 (by omega)
  exact lp12 (((v4.toInt - (-1)) : Int).toNat + 1) v4 m n (by first | omega | assumption | exact (iv_rng _).2 | exact (iv_rng _).1 | decide) (by first | omega | assumption | exact (iv_rng _).2 | exact (iv_rng _).1 | decide) (by first | omega | assumption | (show v4.toInt ≤ LOq m 0; omega) | decide) (SHp_a hp0 (by omega)) (SHm_a hp0 (by omega)) I Kp NKp (by omega)
