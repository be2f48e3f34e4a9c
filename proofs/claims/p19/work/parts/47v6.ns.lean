set_option maxHeartbeats 2000000 in
set_option maxRecDepth 20000 in
theorem s_X12_laysShortAt_vq (g : pv_G) {T : List mv_T} {m : Nat → Nat → Int32} {n : Nat → Nat → Int64} {r : Nat → Value} (hT : TX T) (I : IV BB m) (hp0 : OKp m (pa m)) (hp1 : LO12 m) (hp2 : SHp m (pa m 0) (pa m 1) (pa m 2) (pa m 3)) (hp3 : SHm m (pa m 0) (pa m 1) (pa m 2) (pa m 3)) (hp4 : SHn m n (pa m 0) (pa m 1) (pa m 2) (pa m 3)) : PM g mX12_laysShortAt yX12_laysShortAt (sqVn T BB (wl [(159, 159, none), (163, 163, none)]) r m (fun m' n' => SHp m' (pa m 0) (pa m 1) (pa m 2) (pa m 3 - 1) ∧ SHm m' (pa m 0) (pa m 1) (pa m 2) (pa m 3 - 1) ∧ SHn m' n' (pa m 0) (pa m 1) (pa m 2) (pa m 3 - 1) ∧ nM n n')) 3 0 0 [.ref 123] (mk T m n r) := by
  have Kp : fr (wl [(159, 159, none), (163, 163, none)]) m m := fr.rf
  have z194 : 0 ≤ (m 123 50).toInt ∧ (m 123 50).toInt ≤ 4 := I 123 50
  refine PM.of 6 (lo := [.ref 123, pv_U, pv_U, pv_U, pv_U, pv_U, pv_U]) rfl (by decide) rfl rfl (Nat.le_of_ble_eq_true rfl) ?_
  refine pv_ldcw (M := mX12_laysShortAt) (v := 1000000000) dX12_laysShortAt_0 3 rfl wd1583 ?_
  refine pv_istore_n (M := mX12_laysShortAt) 1 (lo2 := [.ref 123, .int 1000000000, pv_U, pv_U, pv_U, pv_U, pv_U]) dX12_laysShortAt_3 4 rfl rfl (by decide) rfl rfl ?_
  refine pv_lconst (M := mX12_laysShortAt) (v := 0) dX12_laysShortAt_4 5 rfl (by decide) ?_
  refine pv_lstore_n (M := mX12_laysShortAt) 2 (lo2 := [.ref 123, .int 1000000000, .long 0, pv_U, pv_U, pv_U, pv_U]) dX12_laysShortAt_5 6 rfl rfl (by decide) rfl rfl ?_
  refine pv_iconst (M := mX12_laysShortAt) (v := 1) dX12_laysShortAt_6 7 rfl (by decide) ?_
  refine pv_istore (M := mX12_laysShortAt) (lo2 := [.ref 123, .int 1000000000, .long 0, pv_U, .int 1, pv_U, pv_U]) dX12_laysShortAt_7 9 rfl (by decide) rfl rfl ?_
  refine pv_iconst (M := mX12_laysShortAt) (v := 0) dX12_laysShortAt_9 10 rfl (by decide) ?_
  refine pv_istore (M := mX12_laysShortAt) (lo2 := [.ref 123, .int 1000000000, .long 0, pv_U, .int 1, .int 0, pv_U]) dX12_laysShortAt_10 12 rfl (by decide) rfl rfl ?_
  have lp8 : ∀ (fuel7 : Nat) (y1 : Int32) (y2 : Int32), (0 ≤ y1.toInt) → (y1.toInt ≤ 1) → (0 ≤ y2.toInt) → (y2.toInt ≤ 4) → (y2.toInt ≤ (m 123 50).toInt) → (END m (pa m) y1.toInt y2.toInt) → ((4 - y2.toInt) : Int).toNat < fuel7 → PV none g mX12_laysShortAt (sqVn T BB (wl [(159, 159, none), (163, 163, none)]) r m (fun m' n' => SHp m' (pa m 0) (pa m 1) (pa m 2) (pa m 3 - 1) ∧ SHm m' (pa m 0) (pa m 1) (pa m 2) (pa m 3 - 1) ∧ SHn m' n' (pa m 0) (pa m 1) (pa m 2) (pa m 3 - 1) ∧ nM n n')) 3 0 0 12 [.ref 123, .int 1000000000, .long 0, pv_U, .int y1, .int y2, pv_U] [] (mk T m n r) := by
    intro fuel7
    induction fuel7 with
    | zero => intro y1 y2 b10 b11 b12 b13 b14 b15 z16; omega
    | succ fuel7 ih9 =>
      intro y1 y2 b10 b11 b12 b13 b14 b15 z16
      have kg12 := (show END m (pa m) y1.toInt y2.toInt by assumption)
      refine pv_iload (M := mX12_laysShortAt) dX12_laysShortAt_12 14 rfl rfl ?_
      refine pv_aload_n (M := mX12_laysShortAt) 0 dX12_laysShortAt_14 15 rfl rfl rfl ?_
      refine iv_get (M := mX12_laysShortAt) (l1 := 0) (l2 := 4) dX12_laysShortAt_15 FX12 50 wd1223 (by decide) (tl123 hT) rfl I rfl 18 rfl (fun v18 ev18 pv18 qv18 => ?_)
      have wv18 : v18.toInt = (m 123 50).toInt := congrArg Int32.toInt ev18
      refine pv_icmp_ge (M := mX12_laysShortAt) (tgt := 55) dX12_laysShortAt_18 21 rfl (by decide) (fun c19 => ?_) (fun c19 => ?_)
      · have c19 := iv_le (X := v18.toInt) (Y := y2.toInt) c19 rfl rfl
        refine pv_iconst (M := mX12_laysShortAt) (v := 0) dX12_laysShortAt_55 56 rfl (by decide) ?_
        refine pv_istore (M := mX12_laysShortAt) (lo2 := [.ref 123, .int 1000000000, .long 0, pv_U, .int y1, .int 0, pv_U]) dX12_laysShortAt_56 58 rfl (by decide) rfl rfl ?_
        have lp28 : ∀ (fuel27 : Nat) (y20 : Int32) (y21 : Int64) (y22 : Int32) (m23 : Nat → Nat → Int32) (n24 : Nat → Nat → Int64), (0 ≤ y20.toInt) → (y20.toInt ≤ 1000000000) → (0 ≤ y22.toInt) → (y22.toInt ≤ 26) → (SB m (pa m) y20.toInt y22.toInt) → (∀ j, m23 163 j = m 163 j) → (SBm m (pa m) y20.toInt y22.toInt) → (nE n n24) → (SBn m n (pa m) y20.toInt y21 y22.toInt) → IV BB m23 → fr (wl [(159, 159, none), (163, 163, none)]) m m23 → ((26 - y22.toInt) : Int).toNat < fuel27 → PV none g mX12_laysShortAt (sqVn T BB (wl [(159, 159, none), (163, 163, none)]) r m (fun m' n' => SHp m' (pa m 0) (pa m 1) (pa m 2) (pa m 3 - 1) ∧ SHm m' (pa m 0) (pa m 1) (pa m 2) (pa m 3 - 1) ∧ SHn m' n' (pa m 0) (pa m 1) (pa m 2) (pa m 3 - 1) ∧ nM n n')) 3 0 0 58 [.ref 123, .int y20, .long y21, pv_U, .int y1, .int y22, pv_U] [] (mk T m23 n24 r) := by
          intro fuel27
          induction fuel27 with
          | zero => intro y20 y21 y22 m23 n24 b30 b31 b32 b33 b34 b35 b36 b37 b38 I25 K26 z39; omega
          | succ fuel27 ih29 =>
            intro y20 y21 y22 m23 n24 b30 b31 b32 b33 b34 b35 b36 b37 b38 I25 K26 z39
            have z40 : 0 ≤ (m23 123 50).toInt ∧ (m23 123 50).toInt ≤ 4 := I25 123 50
            have kg58 := (show SB m (pa m) y20.toInt y22.toInt by assumption)
            have kq := (show ∀ j, m23 163 j = m 163 j by assumption)
            have kS : HSAME m m23 := ⟨K26 123 50 rfl, fun j => K26 157 j rfl, fun j => K26 126 j rfl, fun j => K26 127 j rfl⟩
            have kA : ∀ q, m23 158 q = m 158 q := fun q => K26 158 q rfl
            have kpa : pa m23 = pa m := funext fun q => congrArg Int32.toInt (kA q)
            have kgm := (show SBm m (pa m) y20.toInt y22.toInt by assumption)
            have kgn := (show nE n n24 by assumption)
            have kgN := (show SBn m n (pa m) y20.toInt y21 y22.toInt by assumption)
            refine pv_iload (M := mX12_laysShortAt) dX12_laysShortAt_58 60 rfl rfl ?_
            refine pv_bipush (M := mX12_laysShortAt) (v := 26) dX12_laysShortAt_60 62 rfl (by decide) ?_
            refine pv_icmp_ge (M := mX12_laysShortAt) (tgt := 143) dX12_laysShortAt_62 65 rfl (by decide) (fun c49 => ?_) (fun c49 => ?_)
            · have c49 := iv_le (X := 26) (Y := y22.toInt) c49 (by decide) rfl
              have kSB : SB m (pa m) y20.toInt 26 := by have q := kg58; rw [show y22.toInt = 26 by omega] at q; exact q
              have kO := OK12 hp0 hp1
              have o0 := kO 0 (by omega)
              have o1 := kO 1 (by omega)
              have o2 := kO 2 (by omega)
              have o3 := kO 3 (by omega)
              have kSBm : SBm m (pa m) y20.toInt 26 := by have q := kgm; rw [show y22.toInt = 26 by omega] at q; exact q
              have kSBn : SBn m n (pa m) y20.toInt y21 26 := by have q := kgN; rw [show y22.toInt = 26 by omega] at q; exact q
              have kgJ : ∀ j, n24 164 j = n 164 j := fun j => kgn 164 j
              refine pv_aload_n (M := mX12_laysShortAt) 0 dX12_laysShortAt_143 144 rfl rfl rfl ?_
              refine mv_get (M := mX12_laysShortAt) (v := .ref 158) dX12_laysShortAt_144 FX12 52 wd1225 (by decide) (tl123 hT) rfl rfl 147 rfl ?_
              refine pv_iconst (M := mX12_laysShortAt) (v := 0) dX12_laysShortAt_147 148 rfl (by decide) ?_
              refine iv_iald (M := mX12_laysShortAt) (X := 0) (l1 := 0) (l2 := 16) dX12_laysShortAt_148 (tl158 hT) (by decide) (by omega) (by omega) I25 (fun _ => rfl) 149 rfl (fun v59 ev59 pv59 qv59 => ?_)
              have k149 : v59.toInt = pa m 0 := (congrArg Int32.toInt ev59).trans (congrArg Int32.toInt (kA 0))
              refine pv_aload_n (M := mX12_laysShortAt) 0 dX12_laysShortAt_149 150 rfl rfl rfl ?_
              refine mv_get (M := mX12_laysShortAt) (v := .ref 158) dX12_laysShortAt_150 FX12 52 wd1225 (by decide) (tl123 hT) rfl rfl 153 rfl ?_
              refine pv_iconst (M := mX12_laysShortAt) (v := 1) dX12_laysShortAt_153 154 rfl (by decide) ?_
              refine iv_iald (M := mX12_laysShortAt) (X := 1) (l1 := 0) (l2 := 16) dX12_laysShortAt_154 (tl158 hT) (by decide) (by omega) (by omega) I25 (fun _ => rfl) 155 rfl (fun v61 ev61 pv61 qv61 => ?_)
              have k155 : v61.toInt = pa m 1 := (congrArg Int32.toInt ev61).trans (congrArg Int32.toInt (kA 1))
              refine pv_aload_n (M := mX12_laysShortAt) 0 dX12_laysShortAt_155 156 rfl rfl rfl ?_
              refine mv_get (M := mX12_laysShortAt) (v := .ref 158) dX12_laysShortAt_156 FX12 52 wd1225 (by decide) (tl123 hT) rfl rfl 159 rfl ?_
              refine pv_iconst (M := mX12_laysShortAt) (v := 2) dX12_laysShortAt_159 160 rfl (by decide) ?_
              refine iv_iald (M := mX12_laysShortAt) (X := 2) (l1 := 0) (l2 := 16) dX12_laysShortAt_160 (tl158 hT) (by decide) (by omega) (by omega) I25 (fun _ => rfl) 161 rfl (fun v63 ev63 pv63 qv63 => ?_)
              have k161 : v63.toInt = pa m 2 := (congrArg Int32.toInt ev63).trans (congrArg Int32.toInt (kA 2))
              refine pv_aload_n (M := mX12_laysShortAt) 0 dX12_laysShortAt_161 162 rfl rfl rfl ?_
              refine mv_get (M := mX12_laysShortAt) (v := .ref 158) dX12_laysShortAt_162 FX12 52 wd1225 (by decide) (tl123 hT) rfl rfl 165 rfl ?_
              refine pv_iconst (M := mX12_laysShortAt) (v := 3) dX12_laysShortAt_165 166 rfl (by decide) ?_
              refine iv_iald (M := mX12_laysShortAt) (X := 3) (l1 := 0) (l2 := 16) dX12_laysShortAt_166 (tl158 hT) (by decide) (by omega) (by omega) I25 (fun _ => rfl) 167 rfl (fun v65 ev65 pv65 qv65 => ?_)
              have k167 : v65.toInt = pa m 3 := (congrArg Int32.toInt ev65).trans (congrArg Int32.toInt (kA 3))
              refine pv_calls (M := mX12_laysShortAt) (as := [.int v59, .int v61, .int v63, .int v65]) (st := []) (kc2 := 0) (ks2 := 0) dX12_laysShortAt_167 wd1680 YX12_shortAt wd1681 (s_X12_shortAt g hT I25 v59 (by omega) (by omega) v61 (by omega) (by omega) v63 (by omega) (by omega) v65 (by omega) (by omega)) rfl rfl (Nat.le_of_ble_eq_true rfl) (by decide) rfl rfl 170 rfl (fun rv h1 q67 => ?_)
              obtain ⟨v68, rfl, rfl, pv68, qv68, rv68⟩ := q67
              replace rv68 : v68.toInt = ((13 * v59.toInt + v61.toInt) * 13 + v63.toInt) * 13 + v65.toInt := rv68
              show PV _ _ _ _ _ _ _ 170 [.ref 123, .int y20, .long y21, pv_U, .int y1, .int y22, pv_U] [.int v68] _
              have k170a := rv68
              have k170 : v68.toInt.toNat = sx (pa m) := by unfold sx; omega
              refine pv_istore (M := mX12_laysShortAt) (lo2 := [.ref 123, .int y20, .long y21, pv_U, .int y1, .int v68, pv_U]) dX12_laysShortAt_170 172 rfl (by decide) rfl rfl ?_
              refine pv_aload_n (M := mX12_laysShortAt) 0 dX12_laysShortAt_172 173 rfl rfl rfl ?_
              refine mv_get (M := mX12_laysShortAt) (v := .ref 163) dX12_laysShortAt_173 FX12 57 wd1230 (by decide) (tl123 hT) rfl rfl 176 rfl ?_
              refine pv_iload (M := mX12_laysShortAt) dX12_laysShortAt_176 178 rfl rfl ?_
              refine pv_iload (M := mX12_laysShortAt) dX12_laysShortAt_178 180 rfl rfl ?_
              refine pv_if_eq (M := mX12_laysShortAt) (tgt := 187) dX12_laysShortAt_180 183 rfl (by decide) (fun c71 => ?_) (fun c71 => ?_)
              · have c71 := iv_eq (X := y1.toInt) (Y := 0) c71 rfl (by decide)
                refine pv_iload_n (M := mX12_laysShortAt) 1 dX12_laysShortAt_187 188 rfl rfl rfl ?_
                have kV : SR1 m23 (pa m) y20.toInt := by first | exact SR1_z (OKp_eq kS hp0) | exact SR1_eq kS kq (SB_end kSB (kg12.2 (by omega)) hp0 hp1 (fun j => I 127 j))
                have kVm : MIN1 m23 (pa m) y20.toInt := by first | exact MIN1_eq kS kq (MIN1_e kSBm kSB) | exact MIN1_eq kS kq (MIN1_z (I 123 50).2 (fun q hq => kg12.1 (by omega) q (by omega)))
                refine iv_iast (M := mX12_laysShortAt) (X := v68.toInt) (l1 := 0) (l2 := 1000000000) dX12_laysShortAt_188 (tl163 hT) rfl (by omega) (by omega) I25 (fun _ => rfl) (by omega) (by omega) 189 rfl (fun m74 e77 I75 => ?_)
                have K76 := K26.set e77 rfl
                have w78 : (m74 123 50).toInt = (m23 123 50).toInt := by rw [e77, up2_ne (by omega)]
                have k189 := (e77).trans (up2_ix (j := sx (pa m)) (by omega))
                have kT := SHp_set (p' := pa m) (SHp_eq kS kq hp2) k189 (OKp_eq kS hp0) (LO12_eq kS hp1) (by first | exact kV | (rw [Int32.toInt_zero]; exact kV))
                have kTm := SHm_set (p' := pa m) (SHm_eq kS kq hp3) k189 (OKp_eq kS hp0) (LO12_eq kS hp1) (by first | exact kVm | (rw [Int32.toInt_zero]; exact kVm))
                refine pv_aload_n (M := mX12_laysShortAt) 0 dX12_laysShortAt_189 190 rfl rfl rfl ?_
                refine mv_get (M := mX12_laysShortAt) (v := .ref 164) dX12_laysShortAt_190 FX12 58 wd1231 (by decide) (tl123 hT) rfl rfl 193 rfl ?_
                refine pv_iload (M := mX12_laysShortAt) dX12_laysShortAt_193 195 rfl rfl ?_
                refine pv_iload (M := mX12_laysShortAt) dX12_laysShortAt_195 197 rfl rfl ?_
                refine pv_if_eq (M := mX12_laysShortAt) (tgt := 204) dX12_laysShortAt_197 200 rfl (by decide) (fun c82 => ?_) (fun c82 => ?_)
                · have c82 := iv_eq (X := y1.toInt) (Y := 0) c82 rfl (by decide)
                  refine pv_lload_n (M := mX12_laysShortAt) 2 dX12_laysShortAt_204 205 rfl rfl rfl ?_
                  refine iv_last (M := mX12_laysShortAt) (X := v68.toInt) dX12_laysShortAt_205 (tl164 hT) rfl (by omega) (by omega) 206 rfl (fun n83 en83 => ?_)
                  have k206 := en83
                  rw [show v68.toInt.toNat = sx (pa m) by omega] at k206
                  have kTn := SHn_set (p' := pa m) (SHn_eq kS kq kgJ hp4) k189 k206 (OKp_eq kS hp0) (LO12_eq kS hp1) (by first | exact CN1_m kS kq kgJ (CN1_e kSBn (kg12.2 (by omega))) | exact CN1_m kS kq kgJ (CN1_z (fun q h4 hq => kg12.1 (by omega) q (by omega))))
                  exact pv_vret (M := mX12_laysShortAt) dX12_laysShortAt_206 rfl ⟨_, _, rfl, rfl, I75, K76, ⟨kT, kTm, kTn, nM.set (nE_M kgn) k206 (by decide)⟩⟩
                · have c82 := iv_ne (X := y1.toInt) (Y := 0) c82 rfl (by decide)
                  omega
              · have c71 := iv_ne (X := y1.toInt) (Y := 0) c71 rfl (by decide)
                refine pv_iconst (M := mX12_laysShortAt) (v := 0) dX12_laysShortAt_183 184 rfl (by decide) ?_
                refine pv_goto (M := mX12_laysShortAt) (tgt := 188) dX12_laysShortAt_184 (by decide) ?_
                have kV : SR1 m23 (pa m) 0 := by first | exact SR1_z (OKp_eq kS hp0) | exact SR1_eq kS kq (SB_end kSB (kg12.2 (by omega)) hp0 hp1 (fun j => I 127 j))
                have kVm : MIN1 m23 (pa m) 0 := by first | exact MIN1_eq kS kq (MIN1_e kSBm kSB) | exact MIN1_eq kS kq (MIN1_z (I 123 50).2 (fun q hq => kg12.1 (by omega) q (by omega)))
                refine iv_iast (M := mX12_laysShortAt) (X := v68.toInt) (l1 := 0) (l2 := 1000000000) dX12_laysShortAt_188 (tl163 hT) rfl (by omega) (by omega) I25 (fun _ => rfl) (by decide) (by decide) 189 rfl (fun m89 e92 I90 => ?_)
                have K91 := K26.set e92 rfl
                have w93 : (m89 123 50).toInt = (m23 123 50).toInt := by rw [e92, up2_ne (by omega)]
                have k189 := (e92).trans (up2_ix (j := sx (pa m)) (by omega))
                have kT := SHp_set (p' := pa m) (SHp_eq kS kq hp2) k189 (OKp_eq kS hp0) (LO12_eq kS hp1) (by first | exact kV | (rw [Int32.toInt_zero]; exact kV))
                have kTm := SHm_set (p' := pa m) (SHm_eq kS kq hp3) k189 (OKp_eq kS hp0) (LO12_eq kS hp1) (by first | exact kVm | (rw [Int32.toInt_zero]; exact kVm))
                refine pv_aload_n (M := mX12_laysShortAt) 0 dX12_laysShortAt_189 190 rfl rfl rfl ?_
                refine mv_get (M := mX12_laysShortAt) (v := .ref 164) dX12_laysShortAt_190 FX12 58 wd1231 (by decide) (tl123 hT) rfl rfl 193 rfl ?_
                refine pv_iload (M := mX12_laysShortAt) dX12_laysShortAt_193 195 rfl rfl ?_
                refine pv_iload (M := mX12_laysShortAt) dX12_laysShortAt_195 197 rfl rfl ?_
                refine pv_if_eq (M := mX12_laysShortAt) (tgt := 204) dX12_laysShortAt_197 200 rfl (by decide) (fun c97 => ?_) (fun c97 => ?_)
                · have c97 := iv_eq (X := y1.toInt) (Y := 0) c97 rfl (by decide)
                  omega
                · have c97 := iv_ne (X := y1.toInt) (Y := 0) c97 rfl (by decide)
                  refine pv_lconst (M := mX12_laysShortAt) (v := 1) dX12_laysShortAt_200 201 rfl (by decide) ?_
                  refine pv_goto (M := mX12_laysShortAt) (tgt := 205) dX12_laysShortAt_201 (by decide) ?_
                  refine iv_last (M := mX12_laysShortAt) (X := v68.toInt) dX12_laysShortAt_205 (tl164 hT) rfl (by omega) (by omega) 206 rfl (fun n98 en98 => ?_)
                  have k206 := en98
                  rw [show v68.toInt.toNat = sx (pa m) by omega] at k206
                  have kTn := SHn_set (p' := pa m) (SHn_eq kS kq kgJ hp4) k189 k206 (OKp_eq kS hp0) (LO12_eq kS hp1) (by first | exact CN1_m kS kq kgJ (CN1_e kSBn (kg12.2 (by omega))) | exact CN1_m kS kq kgJ (CN1_z (fun q h4 hq => kg12.1 (by omega) q (by omega))))
                  exact pv_vret (M := mX12_laysShortAt) dX12_laysShortAt_206 rfl ⟨_, _, rfl, rfl, I90, K91, ⟨kT, kTm, kTn, nM.set (nE_M kgn) k206 (by decide)⟩⟩
            · have c49 := iv_nle (X := 26) (Y := y22.toInt) c49 (by decide) rfl
              refine pv_aload_n (M := mX12_laysShortAt) 0 dX12_laysShortAt_65 66 rfl rfl rfl ?_
              refine pv_iload (M := mX12_laysShortAt) dX12_laysShortAt_66 68 rfl rfl ?_
              refine pv_callv (M := mX12_laysShortAt) (as := [.int y22]) (st := []) (kc2 := 0) (ks2 := 0) dX12_laysShortAt_68 wd1672 YX12_takesLetter ⟨wd1674, wd106⟩ (mk_get (tl123 hT)) rfl rfl (s_X12_takesLetter g hT I25 y22 (by omega) (by omega)) rfl rfl (Nat.le_of_ble_eq_true rfl) (by decide) rfl rfl 71 rfl (fun rv h1 q102 => ?_)
              obtain ⟨m103, n104, v107, rfl, rfl, I105, K106, pv107, qv107, rv107⟩ := q102
              have NK106c := rv107.1
              replace rv107 := rv107.2
              replace rv107 : NX m23 (pa m23) y22.toInt 4 m103 ∧ (v107.toInt = 0 → tkF m23 (pa m23) y22.toInt 4 = 0) ∧ (v107.toInt ≠ 0 → 0 < tkF m23 (pa m23) y22.toInt 4) := rv107
              have K106c := K106
              have w108 : (m103 123 50).toInt = (m23 123 50).toInt := congrArg Int32.toInt (K106 123 50 rfl)
              have K106 := K26.trans (K106.sub (wl_sub (by decide)))
              show PV _ _ _ _ _ _ _ 71 [.ref 123, .int y20, .long y21, pv_U, .int y1, .int y22, pv_U] [.int v107] _
              have k71 := rv107
              rw [kpa, tkF_eq kS] at k71
              have k71n : NX m (pa m) y22.toInt 4 m103 := fun q hq => by rw [← stp_eq kS]; exact k71.1 q hq
              have k71a := k71.2.1
              have k71b := k71.2.2
              have k71f : ∀ j, m103 163 j = m 163 j := fun j => (K106c 163 j rfl).trans (kq j)
              have k71N := nE.trans kgn NK106c
              refine pv_if_ne (M := mX12_laysShortAt) (tgt := 77) dX12_laysShortAt_71 74 rfl (by decide) (fun c116 => ?_) (fun c116 => ?_)
              · have c116 := iv_ne (X := v107.toInt) (Y := 0) c116 rfl (by decide)
                have k12n := NX_12 k71n hp0 hp1 (by omega)
                refine pv_iconst (M := mX12_laysShortAt) (v := 1) dX12_laysShortAt_77 78 rfl (by decide) ?_
                refine pv_aload_n (M := mX12_laysShortAt) 0 dX12_laysShortAt_78 79 rfl rfl rfl ?_
                refine mv_get (M := mX12_laysShortAt) (v := .ref 163) dX12_laysShortAt_79 FX12 57 wd1230 (by decide) (tl123 hT) rfl rfl 82 rfl ?_
                refine pv_aload_n (M := mX12_laysShortAt) 0 dX12_laysShortAt_82 83 rfl rfl rfl ?_
                refine pv_callv (M := mX12_laysShortAt) (as := []) (st := [.ref 163, .int 1]) (kc2 := 0) (ks2 := 0) dX12_laysShortAt_83 wd1676 YX12_nextShort ⟨wd1678, wd107⟩ (mk_get (tl123 hT)) rfl rfl (s_X12_nextShort g hT I105 k12n) rfl rfl (Nat.le_of_ble_eq_true rfl) (by decide) rfl rfl 86 rfl (fun rv h1 q118 => ?_)
                obtain ⟨v119, rfl, rfl, pv119, qv119, rv119⟩ := q118
                replace rv119 : v119.toInt.toNat = sx (pn m103) := rv119
                show PV _ _ _ _ _ _ _ 86 [.ref 123, .int y20, .long y21, pv_U, .int y1, .int y22, pv_U] [.int v119, .ref 163, .int 1] _
                have k86 : v119.toInt.toNat = sx (stp m (pa m) y22.toInt) := (rv119).trans (NX_sx k71n)
                refine iv_iald (M := mX12_laysShortAt) (X := v119.toInt) (l1 := 0) (l2 := 1000000000) dX12_laysShortAt_86 (tl163 hT) rfl (by omega) (by omega) I105 (fun _ => rfl) 87 rfl (fun v121 ev121 pv121 qv121 => ?_)
                have k87 : v121.toInt = SE m (stp m (pa m) y22.toInt) := congrArg Int32.toInt (ev121.trans ((congrArg (m103 163) k86).trans (k71f _)))
                refine iv_iadd (M := mX12_laysShortAt) (X := 1) (Y := v121.toInt) dX12_laysShortAt_87 88 rfl (by decide) rfl (by omega) (by omega) (fun v123 ev123 => ?_)
                refine pv_istore (M := mX12_laysShortAt) (lo2 := [.ref 123, .int y20, .long y21, pv_U, .int y1, .int y22, .int v123]) dX12_laysShortAt_88 90 rfl (by decide) rfl rfl ?_
                refine pv_iload (M := mX12_laysShortAt) dX12_laysShortAt_90 92 rfl rfl ?_
                refine pv_iload_n (M := mX12_laysShortAt) 1 dX12_laysShortAt_92 93 rfl rfl rfl ?_
                refine pv_icmp_ge (M := mX12_laysShortAt) (tgt := 108) dX12_laysShortAt_93 96 rfl (by decide) (fun c124 => ?_) (fun c124 => ?_)
                · have c124 := iv_le (X := y20.toInt) (Y := v123.toInt) c124 rfl rfl
                  refine pv_iload (M := mX12_laysShortAt) dX12_laysShortAt_108 110 rfl rfl ?_
                  refine pv_iload_n (M := mX12_laysShortAt) 1 dX12_laysShortAt_110 111 rfl rfl rfl ?_
                  refine pv_icmp_ne (M := mX12_laysShortAt) (tgt := 128) dX12_laysShortAt_111 114 rfl (by decide) (fun c125 => ?_) (fun c125 => ?_)
                  · have c125 := iv_ne (X := v123.toInt) (Y := y20.toInt) c125 rfl rfl
                    refine pv_lload_n (M := mX12_laysShortAt) 2 dX12_laysShortAt_128 129 rfl rfl rfl ?_
                    refine pv_lstore_n (M := mX12_laysShortAt) 2 (lo2 := [.ref 123, .int y20, .long y21, pv_U, .int y1, .int y22, .int v123]) dX12_laysShortAt_129 130 rfl rfl (by decide) rfl rfl ?_
                    refine pv_iload_n (M := mX12_laysShortAt) 1 dX12_laysShortAt_130 131 rfl rfl rfl ?_
                    refine pv_iload (M := mX12_laysShortAt) dX12_laysShortAt_131 133 rfl rfl ?_
                    refine pv_calls (M := mX12_laysShortAt) (as := [.int y20, .int v123]) (st := []) (kc2 := 0) (ks2 := 0) dX12_laysShortAt_133 wd1611 YX12_least wd1612 (s_X12_least g hT I105 y20 (by omega) (by omega) v123 (by omega) (by omega)) rfl rfl (Nat.le_of_ble_eq_true rfl) (by decide) rfl rfl 136 rfl (fun rv h1 q126 => ?_)
                    obtain ⟨v127, rfl, rfl, pv127, qv127, rv127⟩ := q126
                    replace rv127 : v127.toInt ≤ y20.toInt ∧ v127.toInt ≤ v123.toInt ∧ (v127.toInt = y20.toInt ∨ v127.toInt = v123.toInt) := rv127
                    show PV _ _ _ _ _ _ _ 136 [.ref 123, .int y20, .long y21, pv_U, .int y1, .int y22, .int v123] [.int v127] _
                    have k136 := rv127
                    refine pv_istore_n (M := mX12_laysShortAt) 1 (lo2 := [.ref 123, .int v127, .long y21, pv_U, .int y1, .int y22, .int v123]) dX12_laysShortAt_136 137 rfl rfl (by decide) rfl rfl ?_
                    refine iv_inc (M := mX12_laysShortAt) (C := 1) dX12_laysShortAt_137 140 rfl rfl (by decide) rfl rfl (by decide) (by omega) (by omega) (fun v129 ev129 => ?_)
                    show PV _ _ _ _ _ _ _ 140 [.ref 123, .int v127, .long y21, pv_U, .int y1, .int v129, .int v123] [] _
                    refine pv_goto (M := mX12_laysShortAt) (tgt := 58) dX12_laysShortAt_140 (by decide) ?_
                    refine pv_fg (lo2 := [.ref 123, .int v127, .long y21, pv_U, .int y1, .int v129, pv_U]) ⟨Or.inr rfl, ⟨Or.inr rfl, ⟨Or.inr rfl, ⟨Or.inl rfl, ⟨Or.inr rfl, ⟨Or.inr rfl, ⟨Or.inl rfl, trivial⟩⟩⟩⟩⟩⟩⟩ ?_
                    have ku : v129.toInt = y22.toInt + 1 := by omega
                    have kb58 : SB m (pa m) v127.toInt v129.toInt := by rw [ku]; first | exact SB_skip kg58 (by omega) | exact SB_take (hw := k136) kg58 (by omega) (by omega) (by omega) hp0 hp2 (by omega)
                    have kb58m : SBm m (pa m) v127.toInt v129.toInt := by rw [ku]; first | exact SBm_skip kgm (by omega) | exact SBm_take (hw := k136) kgm (by omega)
                    have kbn58 : nE n n104 := k71N
                    have kb58n : SBn m n (pa m) v127.toInt y21 v129.toInt := by rw [ku]; first | exact SBn_skip kgN (by omega) (by omega) | exact SBn_take kgN kgm (by omega) (by omega) rfl k105 (Or.inl ⟨by omega, by omega, rfl⟩) | exact SBn_take kgN kgm (by omega) (by omega) rfl k124 (Or.inr (Or.inl ⟨by omega, by omega, k125⟩)) | exact SBn_take kgN kgm (by omega) (by omega) rfl rfl (Or.inr (Or.inr ⟨by omega, by omega, rfl⟩))
                    exact ih29 v127 y21 v129 m103 n104 (by first | omega | assumption | exact (iv_rng _).2 | exact (iv_rng _).1 | decide) (by first | omega | assumption | exact (iv_rng _).2 | exact (iv_rng _).1 | decide) (by first | omega | assumption | exact (iv_rng _).2 | exact (iv_rng _).1 | decide) (by first | omega | assumption | exact (iv_rng _).2 | exact (iv_rng _).1 | decide) kb58 k71f kb58m kbn58 kb58n I105 K106 (by omega)
                  · have c125 := iv_eq (X := v123.toInt) (Y := y20.toInt) c125 rfl rfl
                    refine pv_lload_n (M := mX12_laysShortAt) 2 dX12_laysShortAt_114 115 rfl rfl rfl ?_
                    refine pv_aload_n (M := mX12_laysShortAt) 0 dX12_laysShortAt_115 116 rfl rfl rfl ?_
                    refine mv_get (M := mX12_laysShortAt) (v := .ref 164) dX12_laysShortAt_116 FX12 58 wd1231 (by decide) (tl123 hT) rfl rfl 119 rfl ?_
                    refine pv_aload_n (M := mX12_laysShortAt) 0 dX12_laysShortAt_119 120 rfl rfl rfl ?_
                    refine pv_callv (M := mX12_laysShortAt) (as := []) (st := [.ref 164, .long y21]) (kc2 := 0) (ks2 := 0) dX12_laysShortAt_120 wd1676 YX12_nextShort ⟨wd1678, wd107⟩ (mk_get (tl123 hT)) rfl rfl (s_X12_nextShort g hT I105 k12n) rfl rfl (Nat.le_of_ble_eq_true rfl) (by decide) rfl rfl 123 rfl (fun rv h1 q135 => ?_)
                    obtain ⟨v136, rfl, rfl, pv136, qv136, rv136⟩ := q135
                    replace rv136 : v136.toInt.toNat = sx (pn m103) := rv136
                    show PV _ _ _ _ _ _ _ 123 [.ref 123, .int y20, .long y21, pv_U, .int y1, .int y22, .int v123] [.int v136, .ref 164, .long y21] _
                    have k123 : v136.toInt.toNat = sx (stp m (pa m) y22.toInt) := (rv136).trans (NX_sx k71n)
                    refine iv_lald (M := mX12_laysShortAt) (X := v136.toInt) dX12_laysShortAt_123 (tl164 hT) rfl (by omega) (by omega) 124 rfl (fun v138 ev138 => ?_)
                    have k124 : v138 = SWn n (stp m (pa m) y22.toInt) := ev138.trans ((congrArg (n104 164) k123).trans (k71N 164 _))
                    refine iv_addJ (M := mX12_laysShortAt) dX12_laysShortAt_124 125 rfl (fun v140 ev140 => ?_)
                    have k125 := ev140
                    refine pv_goto (M := mX12_laysShortAt) (tgt := 129) dX12_laysShortAt_125 (by decide) ?_
                    refine pv_lstore_n (M := mX12_laysShortAt) 2 (lo2 := [.ref 123, .int y20, .long v140, pv_U, .int y1, .int y22, .int v123]) dX12_laysShortAt_129 130 rfl rfl (by decide) rfl rfl ?_
                    refine pv_iload_n (M := mX12_laysShortAt) 1 dX12_laysShortAt_130 131 rfl rfl rfl ?_
                    refine pv_iload (M := mX12_laysShortAt) dX12_laysShortAt_131 133 rfl rfl ?_
                    refine pv_calls (M := mX12_laysShortAt) (as := [.int y20, .int v123]) (st := []) (kc2 := 0) (ks2 := 0) dX12_laysShortAt_133 wd1611 YX12_least wd1612 (s_X12_least g hT I105 y20 (by omega) (by omega) v123 (by omega) (by omega)) rfl rfl (Nat.le_of_ble_eq_true rfl) (by decide) rfl rfl 136 rfl (fun rv h1 q142 => ?_)
                    obtain ⟨v143, rfl, rfl, pv143, qv143, rv143⟩ := q142
                    replace rv143 : v143.toInt ≤ y20.toInt ∧ v143.toInt ≤ v123.toInt ∧ (v143.toInt = y20.toInt ∨ v143.toInt = v123.toInt) := rv143
                    show PV _ _ _ _ _ _ _ 136 [.ref 123, .int y20, .long v140, pv_U, .int y1, .int y22, .int v123] [.int v143] _
                    have k136 := rv143
                    refine pv_istore_n (M := mX12_laysShortAt) 1 (lo2 := [.ref 123, .int v143, .long v140, pv_U, .int y1, .int y22, .int v123]) dX12_laysShortAt_136 137 rfl rfl (by decide) rfl rfl ?_
                    refine iv_inc (M := mX12_laysShortAt) (C := 1) dX12_laysShortAt_137 140 rfl rfl (by decide) rfl rfl (by decide) (by omega) (by omega) (fun v145 ev145 => ?_)
                    show PV _ _ _ _ _ _ _ 140 [.ref 123, .int v143, .long v140, pv_U, .int y1, .int v145, .int v123] [] _
                    refine pv_goto (M := mX12_laysShortAt) (tgt := 58) dX12_laysShortAt_140 (by decide) ?_
                    refine pv_fg (lo2 := [.ref 123, .int v143, .long v140, pv_U, .int y1, .int v145, pv_U]) ⟨Or.inr rfl, ⟨Or.inr rfl, ⟨Or.inr rfl, ⟨Or.inl rfl, ⟨Or.inr rfl, ⟨Or.inr rfl, ⟨Or.inl rfl, trivial⟩⟩⟩⟩⟩⟩⟩ ?_
                    have ku : v145.toInt = y22.toInt + 1 := by omega
                    have kb58 : SB m (pa m) v143.toInt v145.toInt := by rw [ku]; first | exact SB_skip kg58 (by omega) | exact SB_take (hw := k136) kg58 (by omega) (by omega) (by omega) hp0 hp2 (by omega)
                    have kb58m : SBm m (pa m) v143.toInt v145.toInt := by rw [ku]; first | exact SBm_skip kgm (by omega) | exact SBm_take (hw := k136) kgm (by omega)
                    have kbn58 : nE n n104 := k71N
                    have kb58n : SBn m n (pa m) v143.toInt v140 v145.toInt := by rw [ku]; first | exact SBn_skip kgN (by omega) (by omega) | exact SBn_take kgN kgm (by omega) (by omega) rfl k105 (Or.inl ⟨by omega, by omega, rfl⟩) | exact SBn_take kgN kgm (by omega) (by omega) rfl k124 (Or.inr (Or.inl ⟨by omega, by omega, k125⟩)) | exact SBn_take kgN kgm (by omega) (by omega) rfl rfl (Or.inr (Or.inr ⟨by omega, by omega, rfl⟩))
                    exact ih29 v143 v140 v145 m103 n104 (by first | omega | assumption | exact (iv_rng _).2 | exact (iv_rng _).1 | decide) (by first | omega | assumption | exact (iv_rng _).2 | exact (iv_rng _).1 | decide) (by first | omega | assumption | exact (iv_rng _).2 | exact (iv_rng _).1 | decide) (by first | omega | assumption | exact (iv_rng _).2 | exact (iv_rng _).1 | decide) kb58 k71f kb58m kbn58 kb58n I105 K106 (by omega)
                · have c124 := iv_nle (X := y20.toInt) (Y := v123.toInt) c124 rfl rfl
                  refine pv_aload_n (M := mX12_laysShortAt) 0 dX12_laysShortAt_96 97 rfl rfl rfl ?_
                  refine mv_get (M := mX12_laysShortAt) (v := .ref 164) dX12_laysShortAt_97 FX12 58 wd1231 (by decide) (tl123 hT) rfl rfl 100 rfl ?_
                  refine pv_aload_n (M := mX12_laysShortAt) 0 dX12_laysShortAt_100 101 rfl rfl rfl ?_
                  refine pv_callv (M := mX12_laysShortAt) (as := []) (st := [.ref 164]) (kc2 := 0) (ks2 := 0) dX12_laysShortAt_101 wd1676 YX12_nextShort ⟨wd1678, wd107⟩ (mk_get (tl123 hT)) rfl rfl (s_X12_nextShort g hT I105 k12n) rfl rfl (Nat.le_of_ble_eq_true rfl) (by decide) rfl rfl 104 rfl (fun rv h1 q151 => ?_)
                  obtain ⟨v152, rfl, rfl, pv152, qv152, rv152⟩ := q151
                  replace rv152 : v152.toInt.toNat = sx (pn m103) := rv152
                  show PV _ _ _ _ _ _ _ 104 [.ref 123, .int y20, .long y21, pv_U, .int y1, .int y22, .int v123] [.int v152, .ref 164] _
                  have k104 : v152.toInt.toNat = sx (stp m (pa m) y22.toInt) := (rv152).trans (NX_sx k71n)
                  refine iv_lald (M := mX12_laysShortAt) (X := v152.toInt) dX12_laysShortAt_104 (tl164 hT) rfl (by omega) (by omega) 105 rfl (fun v154 ev154 => ?_)
                  have k105 : v154 = SWn n (stp m (pa m) y22.toInt) := ev154.trans ((congrArg (n104 164) k104).trans (k71N 164 _))
                  refine pv_goto (M := mX12_laysShortAt) (tgt := 129) dX12_laysShortAt_105 (by decide) ?_
                  refine pv_lstore_n (M := mX12_laysShortAt) 2 (lo2 := [.ref 123, .int y20, .long v154, pv_U, .int y1, .int y22, .int v123]) dX12_laysShortAt_129 130 rfl rfl (by decide) rfl rfl ?_
                  refine pv_iload_n (M := mX12_laysShortAt) 1 dX12_laysShortAt_130 131 rfl rfl rfl ?_
                  refine pv_iload (M := mX12_laysShortAt) dX12_laysShortAt_131 133 rfl rfl ?_
                  refine pv_calls (M := mX12_laysShortAt) (as := [.int y20, .int v123]) (st := []) (kc2 := 0) (ks2 := 0) dX12_laysShortAt_133 wd1611 YX12_least wd1612 (s_X12_least g hT I105 y20 (by omega) (by omega) v123 (by omega) (by omega)) rfl rfl (Nat.le_of_ble_eq_true rfl) (by decide) rfl rfl 136 rfl (fun rv h1 q156 => ?_)
                  obtain ⟨v157, rfl, rfl, pv157, qv157, rv157⟩ := q156
                  replace rv157 : v157.toInt ≤ y20.toInt ∧ v157.toInt ≤ v123.toInt ∧ (v157.toInt = y20.toInt ∨ v157.toInt = v123.toInt) := rv157
                  show PV _ _ _ _ _ _ _ 136 [.ref 123, .int y20, .long v154, pv_U, .int y1, .int y22, .int v123] [.int v157] _
                  have k136 := rv157
                  refine pv_istore_n (M := mX12_laysShortAt) 1 (lo2 := [.ref 123, .int v157, .long v154, pv_U, .int y1, .int y22, .int v123]) dX12_laysShortAt_136 137 rfl rfl (by decide) rfl rfl ?_
                  refine iv_inc (M := mX12_laysShortAt) (C := 1) dX12_laysShortAt_137 140 rfl rfl (by decide) rfl rfl (by decide) (by omega) (by omega) (fun v159 ev159 => ?_)
                  show PV _ _ _ _ _ _ _ 140 [.ref 123, .int v157, .long v154, pv_U, .int y1, .int v159, .int v123] [] _
                  refine pv_goto (M := mX12_laysShortAt) (tgt := 58) dX12_laysShortAt_140 (by decide) ?_
                  refine pv_fg (lo2 := [.ref 123, .int v157, .long v154, pv_U, .int y1, .int v159, pv_U]) ⟨Or.inr rfl, ⟨Or.inr rfl, ⟨Or.inr rfl, ⟨Or.inl rfl, ⟨Or.inr rfl, ⟨Or.inr rfl, ⟨Or.inl rfl, trivial⟩⟩⟩⟩⟩⟩⟩ ?_
                  have ku : v159.toInt = y22.toInt + 1 := by omega
                  have kb58 : SB m (pa m) v157.toInt v159.toInt := by rw [ku]; first | exact SB_skip kg58 (by omega) | exact SB_take (hw := k136) kg58 (by omega) (by omega) (by omega) hp0 hp2 (by omega)
                  have kb58m : SBm m (pa m) v157.toInt v159.toInt := by rw [ku]; first | exact SBm_skip kgm (by omega) | exact SBm_take (hw := k136) kgm (by omega)
                  have kbn58 : nE n n104 := k71N
                  have kb58n : SBn m n (pa m) v157.toInt v154 v159.toInt := by rw [ku]; first | exact SBn_skip kgN (by omega) (by omega) | exact SBn_take kgN kgm (by omega) (by omega) rfl k105 (Or.inl ⟨by omega, by omega, rfl⟩) | exact SBn_take kgN kgm (by omega) (by omega) rfl k124 (Or.inr (Or.inl ⟨by omega, by omega, k125⟩)) | exact SBn_take kgN kgm (by omega) (by omega) rfl rfl (Or.inr (Or.inr ⟨by omega, by omega, rfl⟩))
                  exact ih29 v157 v154 v159 m103 n104 (by first | omega | assumption | exact (iv_rng _).2 | exact (iv_rng _).1 | decide) (by first | omega | assumption | exact (iv_rng _).2 | exact (iv_rng _).1 | decide) (by first | omega | assumption | exact (iv_rng _).2 | exact (iv_rng _).1 | decide) (by first | omega | assumption | exact (iv_rng _).2 | exact (iv_rng _).1 | decide) kb58 k71f kb58m kbn58 kb58n I105 K106 (by omega)
              · have c116 := iv_eq (X := v107.toInt) (Y := 0) c116 rfl (by decide)
                refine pv_goto (M := mX12_laysShortAt) (tgt := 137) dX12_laysShortAt_74 (by decide) ?_
                refine iv_inc (M := mX12_laysShortAt) (C := 1) dX12_laysShortAt_137 140 rfl rfl (by decide) rfl rfl (by decide) (by omega) (by omega) (fun v165 ev165 => ?_)
                show PV _ _ _ _ _ _ _ 140 [.ref 123, .int y20, .long y21, pv_U, .int y1, .int v165, pv_U] [] _
                refine pv_goto (M := mX12_laysShortAt) (tgt := 58) dX12_laysShortAt_140 (by decide) ?_
                have ku : v165.toInt = y22.toInt + 1 := by omega
                have kb58 : SB m (pa m) y20.toInt v165.toInt := by rw [ku]; first | exact SB_skip kg58 (by omega) | exact SB_take (hw := k136) kg58 (by omega) (by omega) (by omega) hp0 hp2 (by omega)
                have kb58m : SBm m (pa m) y20.toInt v165.toInt := by rw [ku]; first | exact SBm_skip kgm (by omega) | exact SBm_take (hw := k136) kgm (by omega)
                have kbn58 : nE n n104 := k71N
                have kb58n : SBn m n (pa m) y20.toInt y21 v165.toInt := by rw [ku]; first | exact SBn_skip kgN (by omega) (by omega) | exact SBn_take kgN kgm (by omega) (by omega) rfl k105 (Or.inl ⟨by omega, by omega, rfl⟩) | exact SBn_take kgN kgm (by omega) (by omega) rfl k124 (Or.inr (Or.inl ⟨by omega, by omega, k125⟩)) | exact SBn_take kgN kgm (by omega) (by omega) rfl rfl (Or.inr (Or.inr ⟨by omega, by omega, rfl⟩))
                exact ih29 y20 y21 v165 m103 n104 (by first | omega | assumption | exact (iv_rng _).2 | exact (iv_rng _).1 | decide) (by first | omega | assumption | exact (iv_rng _).2 | exact (iv_rng _).1 | decide) (by first | omega | assumption | exact (iv_rng _).2 | exact (iv_rng _).1 | decide) (by first | omega | assumption | exact (iv_rng _).2 | exact (iv_rng _).1 | decide) kb58 k71f kb58m kbn58 kb58n I105 K106 (by omega)
        have z171 : (1000000000 : Int32).toInt = 1000000000 := by decide
        have z172 : (0 : Int32).toInt = 0 := by decide
        exact lp28 (((26 - 0) : Int).toNat + 1) 1000000000 0 0 m n (by first | omega | assumption | exact (iv_rng _).2 | exact (iv_rng _).1 | decide) (by first | omega | assumption | exact (iv_rng _).2 | exact (iv_rng _).1 | decide) (by first | omega | assumption | exact (iv_rng _).2 | exact (iv_rng _).1 | decide) (by first | omega | assumption | exact (iv_rng _).2 | exact (iv_rng _).1 | decide) (by rw [show (1000000000 : Int32).toInt = 1000000000 by decide, Int32.toInt_zero]; exact SB_z) (fun _ => rfl) (by rw [Int32.toInt_zero]; exact SBm_z) nE.rf (by rw [Int32.toInt_zero]; exact SBn_z) I Kp (by omega)
      · have c19 := iv_nle (X := v18.toInt) (Y := y2.toInt) c19 rfl rfl
        refine pv_iload (M := mX12_laysShortAt) dX12_laysShortAt_21 23 rfl rfl ?_
        refine pv_if_eq (M := mX12_laysShortAt) (tgt := 46) dX12_laysShortAt_23 26 rfl (by decide) (fun c173 => ?_) (fun c173 => ?_)
        · have c173 := iv_eq (X := y1.toInt) (Y := 0) c173 rfl (by decide)
          refine pv_iconst (M := mX12_laysShortAt) (v := 0) dX12_laysShortAt_46 47 rfl (by decide) ?_
          refine pv_istore (M := mX12_laysShortAt) (lo2 := [.ref 123, .int 1000000000, .long 0, pv_U, .int 0, .int y2, pv_U]) dX12_laysShortAt_47 49 rfl (by decide) rfl rfl ?_
          refine iv_inc (M := mX12_laysShortAt) (C := 1) dX12_laysShortAt_49 52 rfl rfl (by decide) rfl rfl (by decide) (by omega) (by omega) (fun v174 ev174 => ?_)
          show PV _ _ _ _ _ _ _ 52 [.ref 123, .int 1000000000, .long 0, pv_U, .int 0, .int v174, pv_U] [] _
          refine pv_goto (M := mX12_laysShortAt) (tgt := 12) dX12_laysShortAt_52 (by decide) ?_
          have z175 : (0 : Int32).toInt = 0 := by decide
          have ku : v174.toInt = y2.toInt + 1 := by omega
          have kb12 : END m (pa m) 0 v174.toInt := by rw [ku]; first | exact END_keep kg12 (by omega) (by omega) (by omega) | exact END_no (k := y2.toInt) (by omega) (by omega) (by omega) (by omega) | exact END_on (by have q := kg12; rw [show y1.toInt = 0 by omega] at q; exact q)
          exact ih9 0 v174 (by first | omega | assumption | exact (iv_rng _).2 | exact (iv_rng _).1 | decide) (by first | omega | assumption | exact (iv_rng _).2 | exact (iv_rng _).1 | decide) (by first | omega | assumption | exact (iv_rng _).2 | exact (iv_rng _).1 | decide) (by first | omega | assumption | exact (iv_rng _).2 | exact (iv_rng _).1 | decide) (by first | omega | assumption | (show v174.toInt ≤ (m 123 50).toInt; omega) | decide) kb12 (by omega)
        · have c173 := iv_ne (X := y1.toInt) (Y := 0) c173 rfl (by decide)
          refine pv_aload_n (M := mX12_laysShortAt) 0 dX12_laysShortAt_26 27 rfl rfl rfl ?_
          refine mv_get (M := mX12_laysShortAt) (v := .ref 158) dX12_laysShortAt_27 FX12 52 wd1225 (by decide) (tl123 hT) rfl rfl 30 rfl ?_
          refine pv_iload (M := mX12_laysShortAt) dX12_laysShortAt_30 32 rfl rfl ?_
          refine iv_iald (M := mX12_laysShortAt) (X := y2.toInt) (l1 := 0) (l2 := 16) dX12_laysShortAt_32 (tl158 hT) rfl (by omega) (by omega) I (fun _ => rfl) 33 rfl (fun v178 ev178 pv178 qv178 => ?_)
          have k33 : v178.toInt = pa m y2.toInt.toNat := congrArg Int32.toInt ev178
          refine pv_aload_n (M := mX12_laysShortAt) 0 dX12_laysShortAt_33 34 rfl rfl rfl ?_
          refine pv_iload (M := mX12_laysShortAt) dX12_laysShortAt_34 36 rfl rfl ?_
          refine pv_callv (M := mX12_laysShortAt) (as := [.int y2]) (st := [.int v178]) (kc2 := 0) (ks2 := 0) dX12_laysShortAt_36 wd1633 YX12_longOf ⟨wd1635, wd98⟩ (mk_get (tl123 hT)) rfl rfl (s_X12_longOf g hT I y2 (by omega) (by omega)) rfl rfl (Nat.le_of_ble_eq_true rfl) (by decide) rfl rfl 39 rfl (fun rv h1 q180 => ?_)
          obtain ⟨v181, rfl, rfl, pv181, qv181, rv181⟩ := q180
          replace rv181 : v181.toInt = LOq m y2.toInt := rv181
          show PV _ _ _ _ _ _ _ 39 [.ref 123, .int 1000000000, .long 0, pv_U, .int y1, .int y2, pv_U] [.int v181, .int v178] _
          have k39 : v181.toInt = LOq m y2.toInt := rv181
          refine pv_icmp_ne (M := mX12_laysShortAt) (tgt := 46) dX12_laysShortAt_39 42 rfl (by decide) (fun c183 => ?_) (fun c183 => ?_)
          · have c183 := iv_ne (X := v178.toInt) (Y := v181.toInt) c183 rfl rfl
            refine pv_iconst (M := mX12_laysShortAt) (v := 0) dX12_laysShortAt_46 47 rfl (by decide) ?_
            refine pv_istore (M := mX12_laysShortAt) (lo2 := [.ref 123, .int 1000000000, .long 0, pv_U, .int 0, .int y2, pv_U]) dX12_laysShortAt_47 49 rfl (by decide) rfl rfl ?_
            refine iv_inc (M := mX12_laysShortAt) (C := 1) dX12_laysShortAt_49 52 rfl rfl (by decide) rfl rfl (by decide) (by omega) (by omega) (fun v184 ev184 => ?_)
            show PV _ _ _ _ _ _ _ 52 [.ref 123, .int 1000000000, .long 0, pv_U, .int 0, .int v184, pv_U] [] _
            refine pv_goto (M := mX12_laysShortAt) (tgt := 12) dX12_laysShortAt_52 (by decide) ?_
            have z185 : (0 : Int32).toInt = 0 := by decide
            have ku : v184.toInt = y2.toInt + 1 := by omega
            have kb12 : END m (pa m) 0 v184.toInt := by rw [ku]; first | exact END_keep kg12 (by omega) (by omega) (by omega) | exact END_no (k := y2.toInt) (by omega) (by omega) (by omega) (by omega) | exact END_on (by have q := kg12; rw [show y1.toInt = 0 by omega] at q; exact q)
            exact ih9 0 v184 (by first | omega | assumption | exact (iv_rng _).2 | exact (iv_rng _).1 | decide) (by first | omega | assumption | exact (iv_rng _).2 | exact (iv_rng _).1 | decide) (by first | omega | assumption | exact (iv_rng _).2 | exact (iv_rng _).1 | decide) (by first | omega | assumption | exact (iv_rng _).2 | exact (iv_rng _).1 | decide) (by first | omega | assumption | (show v184.toInt ≤ (m 123 50).toInt; omega) | decide) kb12 (by omega)
          · have c183 := iv_eq (X := v178.toInt) (Y := v181.toInt) c183 rfl rfl
            refine pv_iconst (M := mX12_laysShortAt) (v := 1) dX12_laysShortAt_42 43 rfl (by decide) ?_
            refine pv_goto (M := mX12_laysShortAt) (tgt := 47) dX12_laysShortAt_43 (by decide) ?_
            refine pv_istore (M := mX12_laysShortAt) (lo2 := [.ref 123, .int 1000000000, .long 0, pv_U, .int 1, .int y2, pv_U]) dX12_laysShortAt_47 49 rfl (by decide) rfl rfl ?_
            refine iv_inc (M := mX12_laysShortAt) (C := 1) dX12_laysShortAt_49 52 rfl rfl (by decide) rfl rfl (by decide) (by omega) (by omega) (fun v188 ev188 => ?_)
            show PV _ _ _ _ _ _ _ 52 [.ref 123, .int 1000000000, .long 0, pv_U, .int 1, .int v188, pv_U] [] _
            refine pv_goto (M := mX12_laysShortAt) (tgt := 12) dX12_laysShortAt_52 (by decide) ?_
            have z189 : (1 : Int32).toInt = 1 := by decide
            have ku : v188.toInt = y2.toInt + 1 := by omega
            have kb12 : END m (pa m) 1 v188.toInt := by rw [ku]; first | exact END_keep kg12 (by omega) (by omega) (by omega) | exact END_no (k := y2.toInt) (by omega) (by omega) (by omega) (by omega) | exact END_on (by have q := kg12; rw [show y1.toInt = 0 by omega] at q; exact q)
            exact ih9 1 v188 (by first | omega | assumption | exact (iv_rng _).2 | exact (iv_rng _).1 | decide) (by first | omega | assumption | exact (iv_rng _).2 | exact (iv_rng _).1 | decide) (by first | omega | assumption | exact (iv_rng _).2 | exact (iv_rng _).1 | decide) (by first | omega | assumption | exact (iv_rng _).2 | exact (iv_rng _).1 | decide) (by first | omega | assumption | (show v188.toInt ≤ (m 123 50).toInt; omega) | decide) kb12 (by omega)
  have z192 : (1 : Int32).toInt = 1 := by decide
  have z193 : (0 : Int32).toInt = 0 := by decide
  exact lp8 (((4 - 0) : Int).toNat + 1) 1 0 (by first | omega | assumption | exact (iv_rng _).2 | exact (iv_rng _).1 | decide) (by first | omega | assumption | exact (iv_rng _).2 | exact (iv_rng _).1 | decide) (by first | omega | assumption | exact (iv_rng _).2 | exact (iv_rng _).1 | decide) (by first | omega | assumption | exact (iv_rng _).2 | exact (iv_rng _).1 | decide) (by first | omega | assumption | (show 0 ≤ (m 123 50).toInt; omega) | decide) (by rw [show (1 : Int32).toInt = 1 by decide, Int32.toInt_zero]; exact END_z) (by omega)

set_option maxHeartbeats 2000000 in
set_option maxRecDepth 20000 in
theorem s_X12_laysShort_vq (g : pv_G) {T : List mv_T} {m : Nat → Nat → Int32} {n : Nat → Nat → Int64} {r : Nat → Value} (hT : TX T) (I : IV BB m) (hp0 : LO12 m) : PM g mX12_laysShort yX12_laysShort (sqVn T BB (wl [(158, 158, none), (159, 159, none), (163, 163, none)]) r m (fun m' n' => SHp m' (-1) 16 16 16 ∧ SHm m' (-1) 16 16 16 ∧ SHn m' n' (-1) 16 16 16 ∧ nM n n')) 4 0 0 [.ref 123] (mk T m n r) := by
  have Kp : fr (wl [(158, 158, none), (159, 159, none), (163, 163, none)]) m m := fr.rf
  have z219 : 0 ≤ (m 123 50).toInt ∧ (m 123 50).toInt ≤ 4 := I 123 50
  refine PM.of 4 (lo := [.ref 123, pv_U, pv_U, pv_U, pv_U]) rfl (by decide) rfl rfl (Nat.le_of_ble_eq_true rfl) ?_
  have kl0 := LO4 hp0
  refine pv_aload_n (M := mX12_laysShort) 0 dX12_laysShort_0 1 rfl rfl rfl ?_
  refine pv_iconst (M := mX12_laysShort) (v := 0) dX12_laysShort_1 2 rfl (by decide) ?_
  have z2 : (0 : Int32).toInt = 0 := by decide
  refine pv_callv (M := mX12_laysShort) (as := [.int 0]) (st := []) (kc2 := 0) (ks2 := 0) dX12_laysShort_2 wd1633 YX12_longOf ⟨wd1635, wd98⟩ (mk_get (tl123 hT)) rfl rfl (s_X12_longOf g hT I 0 (by decide) (by decide)) rfl rfl (Nat.le_of_ble_eq_true rfl) (by decide) rfl rfl 5 rfl (fun rv h1 q3 => ?_)
  obtain ⟨v4, rfl, rfl, pv4, qv4, rv4⟩ := q3
  replace rv4 : v4.toInt = LOq m (0 : Int) := by have q_ := rv4; (try rw [z2] at q_); exact q_
  show PV _ _ _ _ _ _ _ 5 [.ref 123, pv_U, pv_U, pv_U, pv_U] [.int v4] _
  have k5 : v4.toInt = LOq m 0 := rv4
  refine pv_istore_n (M := mX12_laysShort) 1 (lo2 := [.ref 123, .int v4, pv_U, pv_U, pv_U]) dX12_laysShort_5 6 rfl rfl (by decide) rfl rfl ?_
  have lp12 : ∀ (fuel11 : Nat) (y6 : Int32) (m7 : Nat → Nat → Int32) (n8 : Nat → Nat → Int64), (-1 ≤ y6.toInt) → (y6.toInt ≤ 12) → (y6.toInt ≤ LOq m 0) → (SHp m7 y6.toInt 16 16 16) → (SHn m7 n8 y6.toInt 16 16 16) → (SHm m7 y6.toInt 16 16 16) → (nM n n8) → IV BB m7 → fr (wl [(158, 158, none), (159, 159, none), (163, 163, none)]) m m7 → ((y6.toInt - (-1)) : Int).toNat < fuel11 → PV none g mX12_laysShort (sqVn T BB (wl [(158, 158, none), (159, 159, none), (163, 163, none)]) r m (fun m' n' => SHp m' (-1) 16 16 16 ∧ SHm m' (-1) 16 16 16 ∧ SHn m' n' (-1) 16 16 16 ∧ nM n n')) 4 0 0 6 [.ref 123, .int y6, pv_U, pv_U, pv_U] [] (mk T m7 n8 r) := by
    intro fuel11
    induction fuel11 with
    | zero => intro y6 m7 n8 b14 b15 b16 b17 b18 b19 b20 I9 K10 z21; omega
    | succ fuel11 ih13 =>
      intro y6 m7 n8 b14 b15 b16 b17 b18 b19 b20 I9 K10 z21
      have z22 : 0 ≤ (m7 123 50).toInt ∧ (m7 123 50).toInt ≤ 4 := I9 123 50
      have kg6 := (show SHp m7 y6.toInt 16 16 16 by assumption)
      have kg6n := (show SHn m7 n8 y6.toInt 16 16 16 by assumption)
      have kg6m := (show SHm m7 y6.toInt 16 16 16 by assumption)
      have kS : HSAME m m7 := ⟨K10 123 50 rfl, fun j => K10 157 j rfl, fun j => K10 126 j rfl, fun j => K10 127 j rfl⟩
      have kl : LO12 m7 := LO12_eq kS hp0
      have kq0 := LOq_eq kS 0
      have kq1 := LOq_eq kS 1
      have kq2 := LOq_eq kS 2
      have kq3 := LOq_eq kS 3
      have kgM6 := (show nM n n8 by assumption)
      refine pv_iload_n (M := mX12_laysShort) 1 dX12_laysShort_6 7 rfl rfl rfl ?_
      refine pv_if_lt (M := mX12_laysShort) (tgt := 99) dX12_laysShort_7 10 rfl (by decide) (fun c33 => ?_) (fun c33 => ?_)
      · have c33 := iv_lt (X := y6.toInt) (Y := 0) c33 rfl (by decide)
        exact pv_vret (M := mX12_laysShort) dX12_laysShort_99 rfl ⟨_, _, rfl, rfl, I9, K10, ⟨(by have q := kg6; rw [show y6.toInt = -1 by omega] at q; exact q), (by have q := kg6m; rw [show y6.toInt = -1 by omega] at q; exact q), (by have q := kg6n; rw [show y6.toInt = -1 by omega] at q; exact q), kgM6⟩⟩
      · have c33 := iv_nlt (X := y6.toInt) (Y := 0) c33 rfl (by decide)
        refine pv_aload_n (M := mX12_laysShort) 0 dX12_laysShort_10 11 rfl rfl rfl ?_
        refine pv_iconst (M := mX12_laysShort) (v := 1) dX12_laysShort_11 12 rfl (by decide) ?_
        have z34 : (1 : Int32).toInt = 1 := by decide
        refine pv_callv (M := mX12_laysShort) (as := [.int 1]) (st := []) (kc2 := 0) (ks2 := 0) dX12_laysShort_12 wd1633 YX12_longOf ⟨wd1635, wd98⟩ (mk_get (tl123 hT)) rfl rfl (s_X12_longOf g hT I9 1 (by decide) (by decide)) rfl rfl (Nat.le_of_ble_eq_true rfl) (by decide) rfl rfl 15 rfl (fun rv h1 q35 => ?_)
        obtain ⟨v36, rfl, rfl, pv36, qv36, rv36⟩ := q35
        replace rv36 : v36.toInt = LOq m7 (1 : Int) := by have q_ := rv36; (try rw [z34] at q_); exact q_
        show PV _ _ _ _ _ _ _ 15 [.ref 123, .int y6, pv_U, pv_U, pv_U] [.int v36] _
        have k15 : v36.toInt = LOq m 1 := by rw [← kq1]; exact rv36
        refine pv_istore_n (M := mX12_laysShort) 2 (lo2 := [.ref 123, .int y6, .int v36, pv_U, pv_U]) dX12_laysShort_15 16 rfl rfl (by decide) rfl rfl ?_
        have lp44 : ∀ (fuel43 : Nat) (y38 : Int32) (m39 : Nat → Nat → Int32) (n40 : Nat → Nat → Int64), (-1 ≤ y38.toInt) → (y38.toInt ≤ 12) → (y38.toInt ≤ LOq m 1) → (SHp m39 y6.toInt y38.toInt 16 16) → (SHn m39 n40 y6.toInt y38.toInt 16 16) → (SHm m39 y6.toInt y38.toInt 16 16) → (nM n n40) → IV BB m39 → fr (wl [(158, 158, none), (159, 159, none), (163, 163, none)]) m m39 → ((y38.toInt - (-1)) : Int).toNat < fuel43 → PV none g mX12_laysShort (sqVn T BB (wl [(158, 158, none), (159, 159, none), (163, 163, none)]) r m (fun m' n' => SHp m' (-1) 16 16 16 ∧ SHm m' (-1) 16 16 16 ∧ SHn m' n' (-1) 16 16 16 ∧ nM n n')) 4 0 0 16 [.ref 123, .int y6, .int y38, pv_U, pv_U] [] (mk T m39 n40 r) := by
          intro fuel43
          induction fuel43 with
          | zero => intro y38 m39 n40 b46 b47 b48 b49 b50 b51 b52 I41 K42 z53; omega
          | succ fuel43 ih45 =>
            intro y38 m39 n40 b46 b47 b48 b49 b50 b51 b52 I41 K42 z53
            have z54 : 0 ≤ (m39 123 50).toInt ∧ (m39 123 50).toInt ≤ 4 := I41 123 50
            have kg16 := (show SHp m39 y6.toInt y38.toInt 16 16 by assumption)
            have kg16n := (show SHn m39 n40 y6.toInt y38.toInt 16 16 by assumption)
            have kg16m := (show SHm m39 y6.toInt y38.toInt 16 16 by assumption)
            have kS : HSAME m m39 := ⟨K42 123 50 rfl, fun j => K42 157 j rfl, fun j => K42 126 j rfl, fun j => K42 127 j rfl⟩
            have kl : LO12 m39 := LO12_eq kS hp0
            have kq0 := LOq_eq kS 0
            have kq1 := LOq_eq kS 1
            have kq2 := LOq_eq kS 2
            have kq3 := LOq_eq kS 3
            have kgM16 := (show nM n n40 by assumption)
            refine pv_iload_n (M := mX12_laysShort) 2 dX12_laysShort_16 17 rfl rfl rfl ?_
            refine pv_if_lt (M := mX12_laysShort) (tgt := 93) dX12_laysShort_17 20 rfl (by decide) (fun c65 => ?_) (fun c65 => ?_)
            · have c65 := iv_lt (X := y38.toInt) (Y := 0) c65 rfl (by decide)
              refine iv_inc (M := mX12_laysShort) (C := (-1)) dX12_laysShort_93 96 rfl rfl (by decide) rfl rfl (by decide) (by omega) (by omega) (fun v66 ev66 => ?_)
              show PV _ _ _ _ _ _ _ 96 [.ref 123, .int v66, .int y38, pv_U, pv_U] [] _
              refine pv_goto (M := mX12_laysShort) (tgt := 6) dX12_laysShort_96 (by decide) ?_
              refine pv_fg (lo2 := [.ref 123, .int v66, pv_U, pv_U, pv_U]) ⟨Or.inr rfl, ⟨Or.inr rfl, ⟨Or.inl rfl, ⟨Or.inl rfl, ⟨Or.inl rfl, trivial⟩⟩⟩⟩⟩ ?_
              have kb6 : SHp m39 v66.toInt 16 16 16 := by rw [show v66.toInt = y6.toInt - 1 by omega]; exact SHp_b kl (by have q := kg16; rw [show y38.toInt = -1 by omega] at q; exact q)
              have kb6n : SHn m39 n40 v66.toInt 16 16 16 := by rw [show v66.toInt = y6.toInt - 1 by omega]; exact SHn_b kl (by have q := kg16n; rw [show y38.toInt = -1 by omega] at q; exact q)
              have kb6m : SHm m39 v66.toInt 16 16 16 := by rw [show v66.toInt = y6.toInt - 1 by omega]; exact SHm_b kl (by have q := kg16m; rw [show y38.toInt = -1 by omega] at q; exact q)
              have kbM6 := kgM16
              exact ih13 v66 m39 n40 (by first | omega | assumption | exact (iv_rng _).2 | exact (iv_rng _).1 | decide) (by first | omega | assumption | exact (iv_rng _).2 | exact (iv_rng _).1 | decide) (by first | omega | assumption | (show v66.toInt ≤ LOq m 0; omega) | decide) kb6 kb6n kb6m kbM6 I41 K42 (by omega)
            · have c65 := iv_nlt (X := y38.toInt) (Y := 0) c65 rfl (by decide)
              refine pv_aload_n (M := mX12_laysShort) 0 dX12_laysShort_20 21 rfl rfl rfl ?_
              refine pv_iconst (M := mX12_laysShort) (v := 2) dX12_laysShort_21 22 rfl (by decide) ?_
              have z71 : (2 : Int32).toInt = 2 := by decide
              refine pv_callv (M := mX12_laysShort) (as := [.int 2]) (st := []) (kc2 := 0) (ks2 := 0) dX12_laysShort_22 wd1633 YX12_longOf ⟨wd1635, wd98⟩ (mk_get (tl123 hT)) rfl rfl (s_X12_longOf g hT I41 2 (by decide) (by decide)) rfl rfl (Nat.le_of_ble_eq_true rfl) (by decide) rfl rfl 25 rfl (fun rv h1 q72 => ?_)
              obtain ⟨v73, rfl, rfl, pv73, qv73, rv73⟩ := q72
              replace rv73 : v73.toInt = LOq m39 (2 : Int) := by have q_ := rv73; (try rw [z71] at q_); exact q_
              show PV _ _ _ _ _ _ _ 25 [.ref 123, .int y6, .int y38, pv_U, pv_U] [.int v73] _
              have k25 : v73.toInt = LOq m 2 := by rw [← kq2]; exact rv73
              refine pv_istore_n (M := mX12_laysShort) 3 (lo2 := [.ref 123, .int y6, .int y38, .int v73, pv_U]) dX12_laysShort_25 26 rfl rfl (by decide) rfl rfl ?_
              have lp81 : ∀ (fuel80 : Nat) (y75 : Int32) (m76 : Nat → Nat → Int32) (n77 : Nat → Nat → Int64), (-1 ≤ y75.toInt) → (y75.toInt ≤ 12) → (y75.toInt ≤ LOq m 2) → (SHp m76 y6.toInt y38.toInt y75.toInt 16) → (SHn m76 n77 y6.toInt y38.toInt y75.toInt 16) → (SHm m76 y6.toInt y38.toInt y75.toInt 16) → (nM n n77) → IV BB m76 → fr (wl [(158, 158, none), (159, 159, none), (163, 163, none)]) m m76 → ((y75.toInt - (-1)) : Int).toNat < fuel80 → PV none g mX12_laysShort (sqVn T BB (wl [(158, 158, none), (159, 159, none), (163, 163, none)]) r m (fun m' n' => SHp m' (-1) 16 16 16 ∧ SHm m' (-1) 16 16 16 ∧ SHn m' n' (-1) 16 16 16 ∧ nM n n')) 4 0 0 26 [.ref 123, .int y6, .int y38, .int y75, pv_U] [] (mk T m76 n77 r) := by
                intro fuel80
                induction fuel80 with
                | zero => intro y75 m76 n77 b83 b84 b85 b86 b87 b88 b89 I78 K79 z90; omega
                | succ fuel80 ih82 =>
                  intro y75 m76 n77 b83 b84 b85 b86 b87 b88 b89 I78 K79 z90
                  have z91 : 0 ≤ (m76 123 50).toInt ∧ (m76 123 50).toInt ≤ 4 := I78 123 50
                  have kg26 := (show SHp m76 y6.toInt y38.toInt y75.toInt 16 by assumption)
                  have kg26n := (show SHn m76 n77 y6.toInt y38.toInt y75.toInt 16 by assumption)
                  have kg26m := (show SHm m76 y6.toInt y38.toInt y75.toInt 16 by assumption)
                  have kS : HSAME m m76 := ⟨K79 123 50 rfl, fun j => K79 157 j rfl, fun j => K79 126 j rfl, fun j => K79 127 j rfl⟩
                  have kl : LO12 m76 := LO12_eq kS hp0
                  have kq0 := LOq_eq kS 0
                  have kq1 := LOq_eq kS 1
                  have kq2 := LOq_eq kS 2
                  have kq3 := LOq_eq kS 3
                  have kgM26 := (show nM n n77 by assumption)
                  refine pv_iload_n (M := mX12_laysShort) 3 dX12_laysShort_26 27 rfl rfl rfl ?_
                  refine pv_if_lt (M := mX12_laysShort) (tgt := 87) dX12_laysShort_27 30 rfl (by decide) (fun c102 => ?_) (fun c102 => ?_)
                  · have c102 := iv_lt (X := y75.toInt) (Y := 0) c102 rfl (by decide)
                    refine iv_inc (M := mX12_laysShort) (C := (-1)) dX12_laysShort_87 90 rfl rfl (by decide) rfl rfl (by decide) (by omega) (by omega) (fun v103 ev103 => ?_)
                    show PV _ _ _ _ _ _ _ 90 [.ref 123, .int y6, .int v103, .int y75, pv_U] [] _
                    refine pv_goto (M := mX12_laysShort) (tgt := 16) dX12_laysShort_90 (by decide) ?_
                    refine pv_fg (lo2 := [.ref 123, .int y6, .int v103, pv_U, pv_U]) ⟨Or.inr rfl, ⟨Or.inr rfl, ⟨Or.inr rfl, ⟨Or.inl rfl, ⟨Or.inl rfl, trivial⟩⟩⟩⟩⟩ ?_
                    have kb16 : SHp m76 y6.toInt v103.toInt 16 16 := by rw [show v103.toInt = y38.toInt - 1 by omega]; exact SHp_c kl (by have q := kg26; rw [show y75.toInt = -1 by omega] at q; exact q)
                    have kb16n : SHn m76 n77 y6.toInt v103.toInt 16 16 := by rw [show v103.toInt = y38.toInt - 1 by omega]; exact SHn_c kl (by have q := kg26n; rw [show y75.toInt = -1 by omega] at q; exact q)
                    have kb16m : SHm m76 y6.toInt v103.toInt 16 16 := by rw [show v103.toInt = y38.toInt - 1 by omega]; exact SHm_c kl (by have q := kg26m; rw [show y75.toInt = -1 by omega] at q; exact q)
                    have kbM16 := kgM26
                    exact ih45 v103 m76 n77 (by first | omega | assumption | exact (iv_rng _).2 | exact (iv_rng _).1 | decide) (by first | omega | assumption | exact (iv_rng _).2 | exact (iv_rng _).1 | decide) (by first | omega | assumption | (show v103.toInt ≤ LOq m 1; omega) | decide) kb16 kb16n kb16m kbM16 I78 K79 (by omega)
                  · have c102 := iv_nlt (X := y75.toInt) (Y := 0) c102 rfl (by decide)
                    refine pv_aload_n (M := mX12_laysShort) 0 dX12_laysShort_30 31 rfl rfl rfl ?_
                    refine pv_iconst (M := mX12_laysShort) (v := 3) dX12_laysShort_31 32 rfl (by decide) ?_
                    have z108 : (3 : Int32).toInt = 3 := by decide
                    refine pv_callv (M := mX12_laysShort) (as := [.int 3]) (st := []) (kc2 := 0) (ks2 := 0) dX12_laysShort_32 wd1633 YX12_longOf ⟨wd1635, wd98⟩ (mk_get (tl123 hT)) rfl rfl (s_X12_longOf g hT I78 3 (by decide) (by decide)) rfl rfl (Nat.le_of_ble_eq_true rfl) (by decide) rfl rfl 35 rfl (fun rv h1 q109 => ?_)
                    obtain ⟨v110, rfl, rfl, pv110, qv110, rv110⟩ := q109
                    replace rv110 : v110.toInt = LOq m76 (3 : Int) := by have q_ := rv110; (try rw [z108] at q_); exact q_
                    show PV _ _ _ _ _ _ _ 35 [.ref 123, .int y6, .int y38, .int y75, pv_U] [.int v110] _
                    have k35 : v110.toInt = LOq m 3 := by rw [← kq3]; exact rv110
                    refine pv_istore (M := mX12_laysShort) (lo2 := [.ref 123, .int y6, .int y38, .int y75, .int v110]) dX12_laysShort_35 37 rfl (by decide) rfl rfl ?_
                    have lp118 : ∀ (fuel117 : Nat) (y112 : Int32) (m113 : Nat → Nat → Int32) (n114 : Nat → Nat → Int64), (-1 ≤ y112.toInt) → (y112.toInt ≤ 12) → (y112.toInt ≤ LOq m 3) → (SHp m113 y6.toInt y38.toInt y75.toInt y112.toInt) → (SHn m113 n114 y6.toInt y38.toInt y75.toInt y112.toInt) → (SHm m113 y6.toInt y38.toInt y75.toInt y112.toInt) → (nM n n114) → IV BB m113 → fr (wl [(158, 158, none), (159, 159, none), (163, 163, none)]) m m113 → ((y112.toInt - (-1)) : Int).toNat < fuel117 → PV none g mX12_laysShort (sqVn T BB (wl [(158, 158, none), (159, 159, none), (163, 163, none)]) r m (fun m' n' => SHp m' (-1) 16 16 16 ∧ SHm m' (-1) 16 16 16 ∧ SHn m' n' (-1) 16 16 16 ∧ nM n n')) 4 0 0 37 [.ref 123, .int y6, .int y38, .int y75, .int y112] [] (mk T m113 n114 r) := by
                      intro fuel117
                      induction fuel117 with
                      | zero => intro y112 m113 n114 b120 b121 b122 b123 b124 b125 b126 I115 K116 z127; omega
                      | succ fuel117 ih119 =>
                        intro y112 m113 n114 b120 b121 b122 b123 b124 b125 b126 I115 K116 z127
                        have z128 : 0 ≤ (m113 123 50).toInt ∧ (m113 123 50).toInt ≤ 4 := I115 123 50
                        have kg37 := (show SHp m113 y6.toInt y38.toInt y75.toInt y112.toInt by assumption)
                        have kg37n := (show SHn m113 n114 y6.toInt y38.toInt y75.toInt y112.toInt by assumption)
                        have kg37m := (show SHm m113 y6.toInt y38.toInt y75.toInt y112.toInt by assumption)
                        have kS : HSAME m m113 := ⟨K116 123 50 rfl, fun j => K116 157 j rfl, fun j => K116 126 j rfl, fun j => K116 127 j rfl⟩
                        have kl : LO12 m113 := LO12_eq kS hp0
                        have kq0 := LOq_eq kS 0
                        have kq1 := LOq_eq kS 1
                        have kq2 := LOq_eq kS 2
                        have kq3 := LOq_eq kS 3
                        have kgM37 := (show nM n n114 by assumption)
                        refine pv_iload (M := mX12_laysShort) dX12_laysShort_37 39 rfl rfl ?_
                        refine pv_if_lt (M := mX12_laysShort) (tgt := 81) dX12_laysShort_39 42 rfl (by decide) (fun c139 => ?_) (fun c139 => ?_)
                        · have c139 := iv_lt (X := y112.toInt) (Y := 0) c139 rfl (by decide)
                          refine iv_inc (M := mX12_laysShort) (C := (-1)) dX12_laysShort_81 84 rfl rfl (by decide) rfl rfl (by decide) (by omega) (by omega) (fun v140 ev140 => ?_)
                          show PV _ _ _ _ _ _ _ 84 [.ref 123, .int y6, .int y38, .int v140, .int y112] [] _
                          refine pv_goto (M := mX12_laysShort) (tgt := 26) dX12_laysShort_84 (by decide) ?_
                          refine pv_fg (lo2 := [.ref 123, .int y6, .int y38, .int v140, pv_U]) ⟨Or.inr rfl, ⟨Or.inr rfl, ⟨Or.inr rfl, ⟨Or.inr rfl, ⟨Or.inl rfl, trivial⟩⟩⟩⟩⟩ ?_
                          have kb26 : SHp m113 y6.toInt y38.toInt v140.toInt 16 := by rw [show v140.toInt = y75.toInt - 1 by omega]; exact SHp_d kl (by have q := kg37; rw [show y112.toInt = -1 by omega] at q; exact q)
                          have kb26n : SHn m113 n114 y6.toInt y38.toInt v140.toInt 16 := by rw [show v140.toInt = y75.toInt - 1 by omega]; exact SHn_d kl (by have q := kg37n; rw [show y112.toInt = -1 by omega] at q; exact q)
                          have kb26m : SHm m113 y6.toInt y38.toInt v140.toInt 16 := by rw [show v140.toInt = y75.toInt - 1 by omega]; exact SHm_d kl (by have q := kg37m; rw [show y112.toInt = -1 by omega] at q; exact q)
                          have kbM26 := kgM37
                          exact ih82 v140 m113 n114 (by first | omega | assumption | exact (iv_rng _).2 | exact (iv_rng _).1 | decide) (by first | omega | assumption | exact (iv_rng _).2 | exact (iv_rng _).1 | decide) (by first | omega | assumption | (show v140.toInt ≤ LOq m 2; omega) | decide) kb26 kb26n kb26m kbM26 I115 K116 (by omega)
                        · have c139 := iv_nlt (X := y112.toInt) (Y := 0) c139 rfl (by decide)
                          refine pv_aload_n (M := mX12_laysShort) 0 dX12_laysShort_42 43 rfl rfl rfl ?_
                          refine mv_get (M := mX12_laysShort) (v := .ref 158) dX12_laysShort_43 FX12 52 wd1225 (by decide) (tl123 hT) rfl rfl 46 rfl ?_
                          refine pv_iconst (M := mX12_laysShort) (v := 0) dX12_laysShort_46 47 rfl (by decide) ?_
                          refine pv_iload_n (M := mX12_laysShort) 1 dX12_laysShort_47 48 rfl rfl rfl ?_
                          refine iv_iast (M := mX12_laysShort) (X := 0) (l1 := 0) (l2 := 16) dX12_laysShort_48 (tl158 hT) (by decide) (by omega) (by omega) I115 (fun _ => rfl) (by omega) (by omega) 49 rfl (fun m145 e148 I146 => ?_)
                          have K147 := K116.set e148 rfl
                          have w149 : (m145 123 50).toInt = (m113 123 50).toInt := by rw [e148, up2_ne (by omega)]
                          have e49 := (e148).trans (up2_ix (j := 0) (by first | omega | decide))
                          have h49 := SHp_st kg37 e148 (by omega) (by omega)
                          have h49n := SHn_st kg37n e148 (by omega) (by omega)
                          have h49m := SHm_st kg37m e148 (by omega) (by omega)
                          refine pv_aload_n (M := mX12_laysShort) 0 dX12_laysShort_49 50 rfl rfl rfl ?_
                          refine mv_get (M := mX12_laysShort) (v := .ref 158) dX12_laysShort_50 FX12 52 wd1225 (by decide) (tl123 hT) rfl rfl 53 rfl ?_
                          refine pv_iconst (M := mX12_laysShort) (v := 1) dX12_laysShort_53 54 rfl (by decide) ?_
                          refine pv_iload_n (M := mX12_laysShort) 2 dX12_laysShort_54 55 rfl rfl rfl ?_
                          refine iv_iast (M := mX12_laysShort) (X := 1) (l1 := 0) (l2 := 16) dX12_laysShort_55 (tl158 hT) (by decide) (by omega) (by omega) I146 (fun _ => rfl) (by omega) (by omega) 56 rfl (fun m154 e157 I155 => ?_)
                          have K156 := K147.set e157 rfl
                          have w158 : (m154 123 50).toInt = (m145 123 50).toInt := by rw [e157, up2_ne (by omega)]
                          have e56 := (e157).trans (up2_ix (j := 1) (by first | omega | decide))
                          have h56 := SHp_st h49 e157 (by omega) (by omega)
                          have h56n := SHn_st h49n e157 (by omega) (by omega)
                          have h56m := SHm_st h49m e157 (by omega) (by omega)
                          refine pv_aload_n (M := mX12_laysShort) 0 dX12_laysShort_56 57 rfl rfl rfl ?_
                          refine mv_get (M := mX12_laysShort) (v := .ref 158) dX12_laysShort_57 FX12 52 wd1225 (by decide) (tl123 hT) rfl rfl 60 rfl ?_
                          refine pv_iconst (M := mX12_laysShort) (v := 2) dX12_laysShort_60 61 rfl (by decide) ?_
                          refine pv_iload_n (M := mX12_laysShort) 3 dX12_laysShort_61 62 rfl rfl rfl ?_
                          refine iv_iast (M := mX12_laysShort) (X := 2) (l1 := 0) (l2 := 16) dX12_laysShort_62 (tl158 hT) (by decide) (by omega) (by omega) I155 (fun _ => rfl) (by omega) (by omega) 63 rfl (fun m163 e166 I164 => ?_)
                          have K165 := K156.set e166 rfl
                          have w167 : (m163 123 50).toInt = (m154 123 50).toInt := by rw [e166, up2_ne (by omega)]
                          have e63 := (e166).trans (up2_ix (j := 2) (by first | omega | decide))
                          have h63 := SHp_st h56 e166 (by omega) (by omega)
                          have h63n := SHn_st h56n e166 (by omega) (by omega)
                          have h63m := SHm_st h56m e166 (by omega) (by omega)
                          refine pv_aload_n (M := mX12_laysShort) 0 dX12_laysShort_63 64 rfl rfl rfl ?_
                          refine mv_get (M := mX12_laysShort) (v := .ref 158) dX12_laysShort_64 FX12 52 wd1225 (by decide) (tl123 hT) rfl rfl 67 rfl ?_
                          refine pv_iconst (M := mX12_laysShort) (v := 3) dX12_laysShort_67 68 rfl (by decide) ?_
                          refine pv_iload (M := mX12_laysShort) dX12_laysShort_68 70 rfl rfl ?_
                          refine iv_iast (M := mX12_laysShort) (X := 3) (l1 := 0) (l2 := 16) dX12_laysShort_70 (tl158 hT) (by decide) (by omega) (by omega) I164 (fun _ => rfl) (by omega) (by omega) 71 rfl (fun m172 e175 I173 => ?_)
                          have K174 := K165.set e175 rfl
                          have w176 : (m172 123 50).toInt = (m163 123 50).toInt := by rw [e175, up2_ne (by omega)]
                          have e71 := (e175).trans (up2_ix (j := 3) (by first | omega | decide))
                          have h71 := SHp_st h63 e175 (by omega) (by omega)
                          have h71n := SHn_st h63n e175 (by omega) (by omega)
                          have h71m := SHm_st h63m e175 (by omega) (by omega)
                          have ka := at4 e49 e56 e63 e71
                          have kS : HSAME m m172 := ⟨K174 123 50 rfl, fun j => K174 157 j rfl, fun j => K174 126 j rfl, fun j => K174 127 j rfl⟩
                          have kl : LO12 m172 := LO12_eq kS hp0
                          have kq0 := LOq_eq kS 0
                          have kq1 := LOq_eq kS 1
                          have kq2 := LOq_eq kS 2
                          have kq3 := LOq_eq kS 3
                          have kO : OKp m172 (pa m172) := OKp_of4 ka ⟨by omega, by omega⟩ ⟨by omega, by omega⟩ ⟨by omega, by omega⟩ ⟨by omega, by omega⟩
                          have kH : SHp m172 (pa m172 0) (pa m172 1) (pa m172 2) (pa m172 3) := by rw [ka.1, ka.2.1, ka.2.2.1, ka.2.2.2]; exact h71
                          have kHn : SHn m172 n114 (pa m172 0) (pa m172 1) (pa m172 2) (pa m172 3) := by rw [ka.1, ka.2.1, ka.2.2.1, ka.2.2.2]; exact h71n
                          have kHm : SHm m172 (pa m172 0) (pa m172 1) (pa m172 2) (pa m172 3) := by rw [ka.1, ka.2.1, ka.2.2.1, ka.2.2.2]; exact h71m
                          refine pv_aload_n (M := mX12_laysShort) 0 dX12_laysShort_71 72 rfl rfl rfl ?_
                          refine pv_callv (M := mX12_laysShort) (as := []) (st := []) (kc2 := 0) (ks2 := 0) dX12_laysShort_72 wd1668 YX12_laysShortAt ⟨wd1670, wd105⟩ (mk_get (tl123 hT)) rfl rfl (s_X12_laysShortAt_vq g hT I173 kO (LO12_eq kS hp0) kH kHm kHn) rfl rfl (Nat.le_of_ble_eq_true rfl) (by decide) rfl rfl 75 rfl (fun rv h1 q192 => ?_)
                          obtain ⟨m193, n194, rfl, rfl, I195, K196, rm193⟩ := q192
                          replace rm193 : SHp m193 (pa m172 0) (pa m172 1) (pa m172 2) (pa m172 3 - 1) ∧ SHm m193 (pa m172 0) (pa m172 1) (pa m172 2) (pa m172 3 - 1) ∧ SHn m193 n194 (pa m172 0) (pa m172 1) (pa m172 2) (pa m172 3 - 1) ∧ nM n114 n194 := rm193
                          have K196c := K196
                          have w197 : (m193 123 50).toInt = (m172 123 50).toInt := congrArg Int32.toInt (K196 123 50 rfl)
                          have K196 := K174.trans (K196.sub (wl_sub (by decide)))
                          show PV _ _ _ _ _ _ _ 75 [.ref 123, .int y6, .int y38, .int y75, .int y112] [] _
                          have k75 := rm193.1
                          have k75m := rm193.2.1
                          have k75n := rm193.2.2.1
                          have k75M := nM.trans kgM37 rm193.2.2.2
                          rw [ka.1, ka.2.1, ka.2.2.1, ka.2.2.2] at k75
                          rw [ka.1, ka.2.1, ka.2.2.1, ka.2.2.2] at k75n
                          rw [ka.1, ka.2.1, ka.2.2.1, ka.2.2.2] at k75m
                          refine iv_inc (M := mX12_laysShort) (C := (-1)) dX12_laysShort_75 78 rfl rfl (by decide) rfl rfl (by decide) (by omega) (by omega) (fun v205 ev205 => ?_)
                          show PV _ _ _ _ _ _ _ 78 [.ref 123, .int y6, .int y38, .int y75, .int v205] [] _
                          refine pv_goto (M := mX12_laysShort) (tgt := 37) dX12_laysShort_78 (by decide) ?_
                          have kb37 : SHp m193 y6.toInt y38.toInt y75.toInt v205.toInt := by rw [show v205.toInt = y112.toInt - 1 by omega]; exact k75
                          have kb37n : SHn m193 n194 y6.toInt y38.toInt y75.toInt v205.toInt := by rw [show v205.toInt = y112.toInt - 1 by omega]; exact k75n
                          have kb37m : SHm m193 y6.toInt y38.toInt y75.toInt v205.toInt := by rw [show v205.toInt = y112.toInt - 1 by omega]; exact k75m
                          have kbM37 := k75M
                          exact ih119 v205 m193 n194 (by first | omega | assumption | exact (iv_rng _).2 | exact (iv_rng _).1 | decide) (by first | omega | assumption | exact (iv_rng _).2 | exact (iv_rng _).1 | decide) (by first | omega | assumption | (show v205.toInt ≤ LOq m 3; omega) | decide) kb37 kb37n kb37m kbM37 I195 K196 (by omega)
                    have kin : SHp m76 y6.toInt y38.toInt y75.toInt v110.toInt := SHp_dn kl kg26 (fun a b c d h1 h2 h3 h4 h5 h6 h7 h8 h9 => by have q := LO4 kl; omega)
                    have kinn : SHn m76 n77 y6.toInt y38.toInt y75.toInt v110.toInt := SHn_dn kl kg26n (fun a b c d h1 h2 h3 h4 h5 h6 h7 h8 h9 => by have q := LO4 kl; omega)
                    have kinm : SHm m76 y6.toInt y38.toInt y75.toInt v110.toInt := SHm_dn kl kg26m (fun a b c d h1 h2 h3 h4 h5 h6 h7 h8 h9 => by have q := LO4 kl; omega)
                    exact lp118 (((v110.toInt - (-1)) : Int).toNat + 1) v110 m76 n77 (by first | omega | assumption | exact (iv_rng _).2 | exact (iv_rng _).1 | decide) (by first | omega | assumption | exact (iv_rng _).2 | exact (iv_rng _).1 | decide) (by first | omega | assumption | (show v110.toInt ≤ LOq m 3; omega) | decide) kin kinn kinm kgM26 I78 K79 (by omega)
              have kin : SHp m39 y6.toInt y38.toInt v73.toInt 16 := SHp_dn kl kg16 (fun a b c d h1 h2 h3 h4 h5 h6 h7 h8 h9 => by have q := LO4 kl; omega)
              have kinn : SHn m39 n40 y6.toInt y38.toInt v73.toInt 16 := SHn_dn kl kg16n (fun a b c d h1 h2 h3 h4 h5 h6 h7 h8 h9 => by have q := LO4 kl; omega)
              have kinm : SHm m39 y6.toInt y38.toInt v73.toInt 16 := SHm_dn kl kg16m (fun a b c d h1 h2 h3 h4 h5 h6 h7 h8 h9 => by have q := LO4 kl; omega)
              exact lp81 (((v73.toInt - (-1)) : Int).toNat + 1) v73 m39 n40 (by first | omega | assumption | exact (iv_rng _).2 | exact (iv_rng _).1 | decide) (by first | omega | assumption | exact (iv_rng _).2 | exact (iv_rng _).1 | decide) (by first | omega | assumption | (show v73.toInt ≤ LOq m 2; omega) | decide) kin kinn kinm kgM16 I41 K42 (by omega)
        have kin : SHp m7 y6.toInt v36.toInt 16 16 := SHp_dn kl kg6 (fun a b c d h1 h2 h3 h4 h5 h6 h7 h8 h9 => by have q := LO4 kl; omega)
        have kinn : SHn m7 n8 y6.toInt v36.toInt 16 16 := SHn_dn kl kg6n (fun a b c d h1 h2 h3 h4 h5 h6 h7 h8 h9 => by have q := LO4 kl; omega)
        have kinm : SHm m7 y6.toInt v36.toInt 16 16 := SHm_dn kl kg6m (fun a b c d h1 h2 h3 h4 h5 h6 h7 h8 h9 => by have q := LO4 kl; omega)
        exact lp44 (((v36.toInt - (-1)) : Int).toNat + 1) v36 m7 n8 (by first | omega | assumption | exact (iv_rng _).2 | exact (iv_rng _).1 | decide) (by first | omega | assumption | exact (iv_rng _).2 | exact (iv_rng _).1 | decide) (by first | omega | assumption | (show v36.toInt ≤ LOq m 1; omega) | decide) kin kinn kinm kgM6 I9 K10 (by omega)
  exact lp12 (((v4.toInt - (-1)) : Int).toNat + 1) v4 m n (by first | omega | assumption | exact (iv_rng _).2 | exact (iv_rng _).1 | decide) (by first | omega | assumption | exact (iv_rng _).2 | exact (iv_rng _).1 | decide) (by first | omega | assumption | (show v4.toInt ≤ LOq m 0; omega) | decide) (SHp_a hp0 (by omega)) (SHn_a hp0 (by omega)) (SHm_a hp0 (by omega)) nM.rf I Kp (by omega)

set_option maxHeartbeats 2000000 in
set_option maxRecDepth 20000 in
theorem s_X12_shortestMany_vq (g : pv_G) {T : List mv_T} {m : Nat → Nat → Int32} {n : Nat → Nat → Int64} {r : Nat → Value} (hT : TX T) (I : IV BB m) (x0 : Int32) : PM g mX12_shortestMany yX12_shortestMany (sqJn T BB (wl [(123, 123, some 50), (157, 157, none), (158, 158, none), (159, 159, none), (163, 163, none)]) r m (fun m' n' v => MNV (SPR m x0 2 4) (¬ TOO m x0) (SHM m x0) v ∧ nM n n')) 5 0 0 [.ref 123, .int x0] (mk T m n r) := by
  have Kp : fr (wl [(123, 123, some 50), (157, 157, none), (158, 158, none), (159, 159, none), (163, 163, none)]) m m := fr.rf
  refine PM.of 0 (lo := [.ref 123, .int x0]) rfl (by decide) rfl rfl (Nat.le_of_ble_eq_true rfl) ?_
  refine pv_aload_n (M := mX12_shortestMany) 0 dX12_shortestMany_0 1 rfl rfl rfl ?_
  refine pv_iload_n (M := mX12_shortestMany) 1 dX12_shortestMany_1 2 rfl rfl rfl ?_
  refine pv_iconst (M := mX12_shortestMany) (v := 2) dX12_shortestMany_2 3 rfl (by decide) ?_
  refine pv_iconst (M := mX12_shortestMany) (v := 4) dX12_shortestMany_3 4 rfl (by decide) ?_
  have z1 : (2 : Int32).toInt = 2 := by decide
  have z2 : (4 : Int32).toInt = 4 := by decide
  refine pv_callv (M := mX12_shortestMany) (as := [.int x0, .int 2, .int 4]) (st := []) (kc2 := 0) (ks2 := 0) dX12_shortestMany_4 wd1622 YX12_spreads ⟨wd1624, wd96⟩ (mk_get (tl123 hT)) rfl rfl (s_X12_spreads_ve g hT I x0 2 (by decide) (by decide) 4 (by decide) (by decide)) rfl rfl (Nat.le_of_ble_eq_true rfl) (by decide) rfl rfl 7 rfl (fun rv h1 q3 => ?_)
  obtain ⟨m4, n5, v8, rfl, rfl, I6, K7, pv8, qv8, rv8⟩ := q3
  have NK7c := rv8.1
  replace rv8 := rv8.2
  replace rv8 : (v8.toInt = 0 ∧ ¬ SPR m x0 (2 : Int) (4 : Int) ∧ m4 = m) ∨ (v8.toInt = 1 ∧ SPR m x0 (2 : Int) (4 : Int) ∧ CHLi m4 x0 8 ∧ CHI m4 x0 8 ∧ CHA m4 x0 8) := by have q_ := rv8; (try rw [z1] at q_); (try rw [z2] at q_); exact q_
  have K7c := K7
  have K7 := Kp.trans (K7.sub (wl_sub (by decide)))
  show PV _ _ _ _ _ _ _ 7 [.ref 123, .int x0] [.int v8] _
  have k7 := rv8
  have kNs := NK7c
  refine pv_if_ne (M := mX12_shortestMany) (tgt := 14) dX12_shortestMany_7 10 rfl (by decide) (fun c11 => ?_) (fun c11 => ?_)
  · have c11 := iv_ne (X := v8.toInt) (Y := 0) c11 rfl (by decide)
    have k12 := k7.resolve_left (fun q => by omega)
    have kSP := k12.2.1
    have kCL := k12.2.2.1
    refine pv_aload_n (M := mX12_shortestMany) 0 dX12_shortestMany_14 15 rfl rfl rfl ?_
    refine pv_callv (M := mX12_shortestMany) (as := []) (st := []) (kc2 := 0) (ks2 := 0) dX12_shortestMany_15 wd1660 YX12_isTooLong ⟨wd1662, wd103⟩ (mk_get (tl123 hT)) rfl rfl (s_X12_isTooLong_ve g hT I6) rfl rfl (Nat.le_of_ble_eq_true rfl) (by decide) rfl rfl 18 rfl (fun rv h1 q15 => ?_)
    obtain ⟨v16, rfl, rfl, pv16, qv16, rv16⟩ := q15
    replace rv16 : (v16.toInt = 1 ∧ ∃ q : Nat, (q : Int) < (m4 123 50).toInt ∧ 12 < LOq m4 q) ∨ (v16.toInt = 0 ∧ LO12 m4) := rv16
    show PV _ _ _ _ _ _ _ 18 [.ref 123, .int x0] [.int v16] _
    have k16 := rv16
    refine pv_if_eq (M := mX12_shortestMany) (tgt := 25) dX12_shortestMany_18 21 rfl (by decide) (fun c18 => ?_) (fun c18 => ?_)
    · have c18 := iv_eq (X := v16.toInt) (Y := 0) c18 rfl (by decide)
      have kl := (k16.resolve_left (fun q => by omega)).2
      have kD0 := D12_of k12.2.2.2.2 kl
      have kD : D12 m x0 := fun k a b c => by rw [← K7 126 k.toNat rfl]; exact kD0 k a b c
      have kC0 := k12.2.2.2.1
      have kTO : ¬ TOO m x0 := fun ⟨k, hk, h12⟩ => by have z := mbs_lt hk; have y := mbs_am hk; rw [amv_bt] at y; have b := bt_b x0 k; have q := kD k (by omega) (by omega) (by omega); rw [show ((k : Nat) : Int).toNat = k by omega] at q; omega
      refine pv_aload_n (M := mX12_shortestMany) 0 dX12_shortestMany_25 26 rfl rfl rfl ?_
      refine pv_callv (M := mX12_shortestMany) (as := []) (st := []) (kc2 := 0) (ks2 := 0) dX12_shortestMany_26 wd1664 YX12_laysShort ⟨wd1666, wd104⟩ (mk_get (tl123 hT)) rfl rfl (s_X12_laysShort_vq g hT I6 kl) rfl rfl (Nat.le_of_ble_eq_true rfl) (by decide) rfl rfl 29 rfl (fun rv h1 q24 => ?_)
      obtain ⟨m25, n26, rfl, rfl, I27, K28, rm25⟩ := q24
      replace rm25 : SHp m25 (-1) 16 16 16 ∧ SHm m25 (-1) 16 16 16 ∧ SHn m25 n26 (-1) 16 16 16 ∧ nM n5 n26 := rm25
      have K28c := K28
      have K28 := K7.trans (K28.sub (wl_sub (by decide)))
      show PV _ _ _ _ _ _ _ 29 [.ref 123, .int x0] [] _
      have k29 := rm25
      have kCL2 : CHLi m25 x0 8 := ⟨by rw [K28c 123 50 rfl]; exact kCL.1, fun q k z => by rw [K28c 157 q rfl]; exact kCL.2 q k z⟩
      have kSM : SHM m x0 (n26 164 0) := SHM_eq (fun j => (K28 126 j rfl).symm) (fun j => (K28 127 j rfl).symm) (SHM_tb I27 kCL2 k29.1 k29.2.1 k29.2.2.1)
      refine pv_aload_n (M := mX12_shortestMany) 0 dX12_shortestMany_29 30 rfl rfl rfl ?_
      refine mv_get (M := mX12_shortestMany) (v := .ref 164) dX12_shortestMany_30 FX12 58 wd1231 (by decide) (tl123 hT) rfl rfl 33 rfl ?_
      refine pv_iconst (M := mX12_shortestMany) (v := 0) dX12_shortestMany_33 34 rfl (by decide) ?_
      refine iv_lald (M := mX12_shortestMany) (X := 0) dX12_shortestMany_34 (tl164 hT) (by decide) (by omega) (by omega) 35 rfl (fun v32 ev32 => ?_)
      have k35 : v32 = n26 164 0 := ev32
      exact pv_lret (M := mX12_shortestMany) dX12_shortestMany_35 rfl ⟨_, _, _, rfl, rfl, I27, K28, ⟨Or.inr (Or.inr ⟨kSP, kTO, by rw [k35]; exact kSM⟩), nM.trans (nE_M kNs) k29.2.2.2⟩⟩
    · have c18 := iv_ne (X := v16.toInt) (Y := 0) c18 rfl (by decide)
      refine pv_ldc2 (M := mX12_shortestMany) (v := (-2)) dX12_shortestMany_21 24 rfl wd1687 ?_
      exact pv_lret (M := mX12_shortestMany) dX12_shortestMany_24 rfl ⟨_, _, _, rfl, rfl, I6, K7, ⟨Or.inr (Or.inl ⟨kSP, fun z => z (by obtain ⟨q, hq, h12⟩ := (k16.resolve_right (fun q => by omega)).2; rw [CHL_LO kCL] at h12; unfold nmr at h12; cases hz : (mbs x0 8)[q]? with | none => (rw [hz] at h12; exact absurd h12 (show ¬ (12 : Int) < 0 by decide)) | some k => (rw [hz] at h12; exact ⟨k, List.mem_of_getElem? hz, by rw [← K7 126 k rfl]; exact h12⟩)), rfl⟩), nE_M kNs⟩⟩
  · have c11 := iv_eq (X := v8.toInt) (Y := 0) c11 rfl (by decide)
    refine pv_ldc2 (M := mX12_shortestMany) (v := (-1)) dX12_shortestMany_10 13 rfl wd1562 ?_
    exact pv_lret (M := mX12_shortestMany) dX12_shortestMany_13 rfl ⟨_, _, _, rfl, rfl, I6, K7, ⟨Or.inl ⟨(k7.resolve_right (fun q => by omega)).2.1, rfl⟩, nE_M kNs⟩⟩
