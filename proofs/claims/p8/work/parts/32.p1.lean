set_option maxHeartbeats 2000000 in
set_option maxRecDepth 20000 in
theorem s_X12_here (g : pv_G) {T : List mv_T} {m : Nat → Nat → Int32} {n : Nat → Nat → Int64} {r : Nat → Value} (hT : TX T) (I : IV BB m) : PM g mX12_here yX12_here (sqP (mk T m n r) (-1) 255 (fun v => v.toInt = hereV m ∧ (v.toInt = -1 ∨ (m 123 12).toInt < (m 123 13).toInt))) 1 0 0 [.ref 123] (mk T m n r) := by
  have Kp : fr (wl []) m m := fr.rf
  have z9 : 0 ≤ (m 123 12).toInt ∧ (m 123 12).toInt ≤ 160 := I 123 12
  have z10 : 0 ≤ (m 123 13).toInt ∧ (m 123 13).toInt ≤ 160 := I 123 13
  have z11 : 0 ≤ (m 123 16).toInt ∧ (m 123 16).toInt ≤ 180 := I 123 16
  have z12 : 0 ≤ (m 123 17).toInt ∧ (m 123 17).toInt ≤ 180 := I 123 17
  refine PM.of 0 (lo := [.ref 123]) rfl (by decide) rfl rfl (Nat.le_of_ble_eq_true rfl) ?_
  refine pv_aload_n (M := mX12_here) 0 dX12_here_0 1 rfl rfl rfl ?_
  refine iv_get (M := mX12_here) (l1 := 0) (l2 := 160) dX12_here_1 FX12 12 wd1185 (by decide) (tl123 hT) rfl I rfl 4 rfl (fun v1 ev1 pv1 qv1 => ?_)
  have wv1 : v1.toInt = (m 123 12).toInt := congrArg Int32.toInt ev1
  refine pv_aload_n (M := mX12_here) 0 dX12_here_4 5 rfl rfl rfl ?_
  refine iv_get (M := mX12_here) (l1 := 0) (l2 := 160) dX12_here_5 FX12 13 wd1186 (by decide) (tl123 hT) rfl I rfl 8 rfl (fun v2 ev2 pv2 qv2 => ?_)
  have wv2 : v2.toInt = (m 123 13).toInt := congrArg Int32.toInt ev2
  refine pv_icmp_ge (M := mX12_here) (tgt := 27) dX12_here_8 11 rfl (by decide) (fun c3 => ?_) (fun c3 => ?_)
  · have c3 := iv_le (X := v2.toInt) (Y := v1.toInt) c3 rfl rfl
    refine pv_iconst (M := mX12_here) (v := (-1)) dX12_here_27 28 rfl (by decide) ?_
    have z4 : ((-1) : Int32).toInt = (-1) := by decide
    exact pv_iret (M := mX12_here) dX12_here_28 rfl rfl ⟨_, rfl, rfl, by decide, by decide, ⟨by unfold hereV; rw [if_neg (by omega)]; rfl, Or.inl (by decide)⟩⟩
  · have c3 := iv_nle (X := v2.toInt) (Y := v1.toInt) c3 rfl rfl
    refine pv_aload_n (M := mX12_here) 0 dX12_here_11 12 rfl rfl rfl ?_
    refine mv_get (M := mX12_here) (v := .ref 129) dX12_here_12 FX12 10 wd1183 (by decide) (tl123 hT) rfl rfl 15 rfl ?_
    refine pv_aload_n (M := mX12_here) 0 dX12_here_15 16 rfl rfl rfl ?_
    refine iv_get (M := mX12_here) (l1 := 0) (l2 := 160) dX12_here_16 FX12 12 wd1185 (by decide) (tl123 hT) rfl I rfl 19 rfl (fun v5 ev5 pv5 qv5 => ?_)
    have wv5 : v5.toInt = (m 123 12).toInt := congrArg Int32.toInt ev5
    refine iv_bald (M := mX12_here) (X := v5.toInt) (l1 := (-128)) (l2 := 127) dX12_here_19 (tl129 hT) rfl (by omega) (by omega) I (fun _ => rfl) 20 rfl (fun v6 ev6 pv6 qv6 => ?_)
    have k20 : v6 = m 129 (m 123 12).toInt.toNat := ev6.trans (congrArg (fun z => m 129 z) (by omega))
    refine pv_sipush (M := mX12_here) (v := 255) dX12_here_20 23 rfl (by decide) ?_
    refine iv_iandm (M := mX12_here) dX12_here_23 24 rfl 8 (by decide) (by decide) (fun v8 ev8 pv8 qv8 => ?_)
    have qv8 : v8.toInt < 256 := qv8
    refine pv_goto (M := mX12_here) (tgt := 28) dX12_here_24 (by decide) ?_
    exact pv_iret (M := mX12_here) dX12_here_28 rfl rfl ⟨_, rfl, rfl, by omega, by omega, ⟨by unfold hereV; rw [if_pos (by omega), ← k20]; exact congrArg Int32.toInt ev8, Or.inr (by omega)⟩⟩

set_option maxHeartbeats 2000000 in
set_option maxRecDepth 20000 in
theorem s_X12_isDigit (g : pv_G) {T : List mv_T} {m : Nat → Nat → Int32} {n : Nat → Nat → Int64} {r : Nat → Value} (hT : TX T) (I : IV BB m) : PM g mX12_isDigit yX12_isDigit (sqP (mk T m n r) 0 1 (fun v => (v.toInt = 0 ∧ ¬ (48 ≤ hereV m ∧ hereV m ≤ 57)) ∨ (v.toInt = 1 ∧ 48 ≤ hereV m ∧ hereV m ≤ 57 ∧ (m 123 12).toInt < (m 123 13).toInt))) 2 0 0 [.ref 123] (mk T m n r) := by
  have Kp : fr (wl []) m m := fr.rf
  refine PM.of 0 (lo := [.ref 123]) rfl (by decide) rfl rfl (Nat.le_of_ble_eq_true rfl) ?_
  refine pv_aload_n (M := mX12_isDigit) 0 dX12_isDigit_0 1 rfl rfl rfl ?_
  refine pv_callv (M := mX12_isDigit) (as := []) (st := []) (kc2 := 0) (ks2 := 0) dX12_isDigit_1 wd1417 YX12_here ⟨wd1419, wd60⟩ (mk_get (tl123 hT)) rfl rfl (s_X12_here g hT I) rfl rfl (Nat.le_of_ble_eq_true rfl) (by decide) rfl rfl 4 rfl (fun rv h1 q1 => ?_)
  obtain ⟨v2, rfl, rfl, pv2, qv2, rv2⟩ := q1
  replace rv2 : v2.toInt = hereV m ∧ (v2.toInt = -1 ∨ (m 123 12).toInt < (m 123 13).toInt) := rv2
  show PV _ _ _ _ _ _ _ 4 [.ref 123] [.int v2] _
  refine pv_bipush (M := mX12_isDigit) (v := 48) dX12_isDigit_4 6 rfl (by decide) ?_
  refine pv_icmp_lt (M := mX12_isDigit) (tgt := 22) dX12_isDigit_6 9 rfl (by decide) (fun c3 => ?_) (fun c3 => ?_)
  · have c3 := iv_lt (X := v2.toInt) (Y := 48) c3 rfl (by decide)
    refine pv_iconst (M := mX12_isDigit) (v := 0) dX12_isDigit_22 23 rfl (by decide) ?_
    have z4 : (0 : Int32).toInt = 0 := by decide
    exact pv_iret (M := mX12_isDigit) dX12_isDigit_23 rfl rfl ⟨_, rfl, rfl, by decide, by decide, (Or.inl ⟨by decide, by omega⟩)⟩
  · have c3 := iv_nlt (X := v2.toInt) (Y := 48) c3 rfl (by decide)
    refine pv_aload_n (M := mX12_isDigit) 0 dX12_isDigit_9 10 rfl rfl rfl ?_
    refine pv_callv (M := mX12_isDigit) (as := []) (st := []) (kc2 := 0) (ks2 := 0) dX12_isDigit_10 wd1417 YX12_here ⟨wd1419, wd60⟩ (mk_get (tl123 hT)) rfl rfl (s_X12_here g hT I) rfl rfl (Nat.le_of_ble_eq_true rfl) (by decide) rfl rfl 13 rfl (fun rv h1 q5 => ?_)
    obtain ⟨v6, rfl, rfl, pv6, qv6, rv6⟩ := q5
    replace rv6 : v6.toInt = hereV m ∧ (v6.toInt = -1 ∨ (m 123 12).toInt < (m 123 13).toInt) := rv6
    show PV _ _ _ _ _ _ _ 13 [.ref 123] [.int v6] _
    refine pv_bipush (M := mX12_isDigit) (v := 57) dX12_isDigit_13 15 rfl (by decide) ?_
    refine pv_icmp_gt (M := mX12_isDigit) (tgt := 22) dX12_isDigit_15 18 rfl (by decide) (fun c7 => ?_) (fun c7 => ?_)
    · have c7 := iv_lt (X := 57) (Y := v6.toInt) c7 (by decide) rfl
      refine pv_iconst (M := mX12_isDigit) (v := 0) dX12_isDigit_22 23 rfl (by decide) ?_
      have z8 : (0 : Int32).toInt = 0 := by decide
      exact pv_iret (M := mX12_isDigit) dX12_isDigit_23 rfl rfl ⟨_, rfl, rfl, by decide, by decide, (Or.inl ⟨by decide, by omega⟩)⟩
    · have c7 := iv_nlt (X := 57) (Y := v6.toInt) c7 (by decide) rfl
      refine pv_iconst (M := mX12_isDigit) (v := 1) dX12_isDigit_18 19 rfl (by decide) ?_
      refine pv_goto (M := mX12_isDigit) (tgt := 23) dX12_isDigit_19 (by decide) ?_
      have z9 : (1 : Int32).toInt = 1 := by decide
      exact pv_iret (M := mX12_isDigit) dX12_isDigit_23 rfl rfl ⟨_, rfl, rfl, by decide, by decide, (Or.inr ⟨by decide, by omega, by omega, by omega⟩)⟩

set_option maxHeartbeats 2000000 in
set_option maxRecDepth 20000 in
theorem s_X12_notes (g : pv_G) {T : List mv_T} {m : Nat → Nat → Int32} {n : Nat → Nat → Int64} {r : Nat → Value} (hT : TX T) (I : IV BB m) (x0 : Int32) (hl0 : 0 ≤ x0.toInt) (hh0 : x0.toInt ≤ 12) (x1 : Int32) (hl1 : 0 ≤ x1.toInt) (hh1 : x1.toInt ≤ 1048575) (hp0 : (m 123 16).toInt ≤ 179) : PM g mX12_notes yX12_notes (sqV T BB (wl [(123, 123, some 16), (130, 130, none)]) r m (fun m' => NOTE x0.toInt x1.toInt m m')) 1 0 0 [.ref 123, .int x0, .int x1] (mk T m n r) := by
  have Kp : fr (wl [(123, 123, some 16), (130, 130, none)]) m m := fr.rf
  have z23 : 0 ≤ (m 123 12).toInt ∧ (m 123 12).toInt ≤ 160 := I 123 12
  have z24 : 0 ≤ (m 123 13).toInt ∧ (m 123 13).toInt ≤ 160 := I 123 13
  have z25 : 0 ≤ (m 123 16).toInt ∧ (m 123 16).toInt ≤ 180 := I 123 16
  have z26 : 0 ≤ (m 123 17).toInt ∧ (m 123 17).toInt ≤ 180 := I 123 17
  refine PM.of 0 (lo := [.ref 123, .int x0, .int x1]) rfl (by decide) rfl rfl (Nat.le_of_ble_eq_true rfl) ?_
  refine pv_aload_n (M := mX12_notes) 0 dX12_notes_0 1 rfl rfl rfl ?_
  refine mv_get (M := mX12_notes) (v := .ref 130) dX12_notes_1 FX12 21 wd1194 (by decide) (tl123 hT) rfl rfl 4 rfl ?_
  refine pv_aload_n (M := mX12_notes) 0 dX12_notes_4 5 rfl rfl rfl ?_
  refine iv_get (M := mX12_notes) (l1 := 0) (l2 := 180) dX12_notes_5 FX12 16 wd1189 (by decide) (tl123 hT) rfl I rfl 8 rfl (fun v1 ev1 pv1 qv1 => ?_)
  have wv1 : v1.toInt = (m 123 16).toInt := congrArg Int32.toInt ev1
  refine pv_ldc (M := mX12_notes) (v := 1048576) dX12_notes_8 10 rfl wd1437 ?_
  refine pv_iload_n (M := mX12_notes) 1 dX12_notes_10 11 rfl rfl rfl ?_
  refine iv_imul (M := mX12_notes) (X := 1048576) (Y := x0.toInt) dX12_notes_11 12 rfl (by decide) rfl (by omega) (by omega) (fun v2 ev2 => ?_)
  refine pv_iload_n (M := mX12_notes) 2 dX12_notes_12 13 rfl rfl rfl ?_
  refine iv_iadd (M := mX12_notes) (X := v2.toInt) (Y := x1.toInt) dX12_notes_13 14 rfl rfl rfl (by omega) (by omega) (fun v3 ev3 => ?_)
  refine iv_iast (M := mX12_notes) (X := v1.toInt) (l1 := 0) (l2 := 13631487) dX12_notes_14 (tl130 hT) rfl (by omega) (by omega) I (fun _ => rfl) (by omega) (by omega) 15 rfl (fun m4 e7 I5 => ?_)
  have K6 := Kp.set e7 rfl
  have w8 : (m4 123 12).toInt = (m 123 12).toInt := by rw [e7, up2_ne (by omega)]
  have w9 : (m4 123 13).toInt = (m 123 13).toInt := by rw [e7, up2_ne (by omega)]
  have w10 : (m4 123 16).toInt = (m 123 16).toInt := by rw [e7, up2_ne (by omega)]
  have w11 : (m4 123 17).toInt = (m 123 17).toInt := by rw [e7, up2_ne (by omega)]
  have k15 := (e7).trans (up2_ix (j := (m 123 16).toInt.toNat) (by omega))
  refine pv_aload_n (M := mX12_notes) 0 dX12_notes_15 16 rfl rfl rfl ?_
  refine pv_aload_n (M := mX12_notes) 0 dX12_notes_16 17 rfl rfl rfl ?_
  refine iv_get (M := mX12_notes) (l1 := 0) (l2 := 180) dX12_notes_17 FX12 16 wd1189 (by decide) (tl123 hT) rfl I5 rfl 20 rfl (fun v13 ev13 pv13 qv13 => ?_)
  have wv13 : v13.toInt = (m4 123 16).toInt := congrArg Int32.toInt ev13
  refine pv_iconst (M := mX12_notes) (v := 1) dX12_notes_20 21 rfl (by decide) ?_
  refine iv_iadd (M := mX12_notes) (X := v13.toInt) (Y := 1) dX12_notes_21 22 rfl rfl (by decide) (by omega) (by omega) (fun v14 ev14 => ?_)
  refine iv_put (M := mX12_notes) (l1 := 0) (l2 := 180) dX12_notes_22 FX12 16 wd1189 (by decide) rfl (tl123 hT) rfl rfl rfl I5 rfl (by omega) (by omega) 25 rfl (fun m15 e18 I16 => ?_)
  have K17 := K6.set e18 rfl
  have w19 : (m15 123 12).toInt = (m4 123 12).toInt := by rw [e18, up2_ne (by omega)]
  have w20 : (m15 123 13).toInt = (m4 123 13).toInt := by rw [e18, up2_ne (by omega)]
  have w21 : (m15 123 16).toInt = v14.toInt := by rw [e18, up2_eq]
  have w22 : (m15 123 17).toInt = (m4 123 17).toInt := by rw [e18, up2_ne (by omega)]
  exact pv_vret (M := mX12_notes) dX12_notes_25 rfl ⟨_, _, rfl, rfl, I16, K17, ⟨_, _, (e18).trans (congrArg (fun q => up2 q 123 16 _) k15), by omega, by omega⟩⟩

set_option maxHeartbeats 2000000 in
set_option maxRecDepth 20000 in
theorem s_X12_top (g : pv_G) {T : List mv_T} {m : Nat → Nat → Int32} {n : Nat → Nat → Int64} {r : Nat → Value} (hT : TX T) (I : IV BB m) : PM g mX12_top yX12_top (sqP (mk T m n r) (-1) 14 (fun v => (v.toInt = -1 ∧ (m 123 17).toInt = 0) ∨ (1 ≤ (m 123 17).toInt ∧ v.toInt = opv (m 131 ((m 123 17).toInt - 1).toNat)))) 1 0 0 [.ref 123] (mk T m n r) := by
  have Kp : fr (wl []) m m := fr.rf
  have z9 : 0 ≤ (m 123 12).toInt ∧ (m 123 12).toInt ≤ 160 := I 123 12
  have z10 : 0 ≤ (m 123 13).toInt ∧ (m 123 13).toInt ≤ 160 := I 123 13
  have z11 : 0 ≤ (m 123 16).toInt ∧ (m 123 16).toInt ≤ 180 := I 123 16
  have z12 : 0 ≤ (m 123 17).toInt ∧ (m 123 17).toInt ≤ 180 := I 123 17
  refine PM.of 0 (lo := [.ref 123]) rfl (by decide) rfl rfl (Nat.le_of_ble_eq_true rfl) ?_
  refine pv_aload_n (M := mX12_top) 0 dX12_top_0 1 rfl rfl rfl ?_
  refine iv_get (M := mX12_top) (l1 := 0) (l2 := 180) dX12_top_1 FX12 17 wd1190 (by decide) (tl123 hT) rfl I rfl 4 rfl (fun v1 ev1 pv1 qv1 => ?_)
  have wv1 : v1.toInt = (m 123 17).toInt := congrArg Int32.toInt ev1
  refine pv_if_ne (M := mX12_top) (tgt := 11) dX12_top_4 7 rfl (by decide) (fun c2 => ?_) (fun c2 => ?_)
  · have c2 := iv_ne (X := v1.toInt) (Y := 0) c2 rfl (by decide)
    refine pv_aload_n (M := mX12_top) 0 dX12_top_11 12 rfl rfl rfl ?_
    refine mv_get (M := mX12_top) (v := .ref 131) dX12_top_12 FX12 22 wd1195 (by decide) (tl123 hT) rfl rfl 15 rfl ?_
    refine pv_aload_n (M := mX12_top) 0 dX12_top_15 16 rfl rfl rfl ?_
    refine iv_get (M := mX12_top) (l1 := 0) (l2 := 180) dX12_top_16 FX12 17 wd1190 (by decide) (tl123 hT) rfl I rfl 19 rfl (fun v3 ev3 pv3 qv3 => ?_)
    have wv3 : v3.toInt = (m 123 17).toInt := congrArg Int32.toInt ev3
    refine pv_iconst (M := mX12_top) (v := 1) dX12_top_19 20 rfl (by decide) ?_
    refine iv_isub (M := mX12_top) (X := v3.toInt) (Y := 1) dX12_top_20 21 rfl rfl (by decide) (by omega) (by omega) (fun v4 ev4 => ?_)
    refine iv_iald (M := mX12_top) (X := v4.toInt) (l1 := 0) (l2 := 15728639) dX12_top_21 (tl131 hT) rfl (by omega) (by omega) I (fun _ => rfl) 22 rfl (fun v5 ev5 pv5 qv5 => ?_)
    have k22 : v5.toInt = (m 131 ((m 123 17).toInt - 1).toNat).toInt := (congrArg Int32.toInt ev5).trans (congrArg (fun z => (m 131 z).toInt) (by omega))
    refine pv_ldc (M := mX12_top) (v := 1048576) dX12_top_22 24 rfl wd1437 ?_
    refine iv_idiv (M := mX12_top) (X := v5.toInt) (Y := 1048576) dX12_top_24 25 rfl rfl (by decide) (by omega) (by omega) (fun v7 ev7 => ?_)
    exact pv_iret (M := mX12_top) dX12_top_25 rfl rfl ⟨_, rfl, rfl, by omega, by omega, (Or.inr ⟨by omega, by unfold opv; omega⟩)⟩
  · have c2 := iv_eq (X := v1.toInt) (Y := 0) c2 rfl (by decide)
    refine pv_iconst (M := mX12_top) (v := (-1)) dX12_top_7 8 rfl (by decide) ?_
    refine pv_goto (M := mX12_top) (tgt := 25) dX12_top_8 (by decide) ?_
    have z8 : ((-1) : Int32).toInt = (-1) := by decide
    exact pv_iret (M := mX12_top) dX12_top_25 rfl rfl ⟨_, rfl, rfl, by decide, by decide, (Or.inl ⟨by decide, by omega⟩)⟩
