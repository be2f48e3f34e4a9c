set_option maxHeartbeats 2000000 in
set_option maxRecDepth 20000 in
theorem s_X12_here (g : pv_G) {T : List mv_T} {m : Nat → Nat → Int32} {n : Nat → Nat → Int64} {r : Nat → Value} (hT : TX T) (I : IV BB m) : PM g mX12_here yX12_here (sqP (mk T m n r) (-1) 255 (fun v => v.toInt = hereV m ∧ (v.toInt = -1 ∨ (m 123 12).toInt < (m 123 13).toInt))) 1 0 0 [.ref 123] (mk T m n r) := by
  have Kp : fr (wl []) m m := fr.rf
  have z9 : 0 ≤ (m 123 12).toInt ∧ (m 123 12).toInt ≤ 160 := I 123 12
  have z10 : 0 ≤ (m 123 13).toInt ∧ (m 123 13).toInt ≤ 160 := I 123 13
  have z11 : 0 ≤ (m 123 16).toInt ∧ (m 123 16).toInt ≤ 180 := I 123 16
  have z12 : 0 ≤ (m 123 17).toInt ∧ (m 123 17).toInt ≤ 180 := I 123 17
  refine PM.of 0 (lo := [.ref 123]) rfl (by decide) rfl rfl (Nat.le_of_ble_eq_true rfl) ?_
  refine pv_aload_n (M := mX12_here) 0 dX12_here_0 1 rfl rfl rfl ?_
  refine iv_get (M := mX12_here) (l1 := 0) (l2 := 160) dX12_here_1 FX12 12 wd1185 (by decide) (tl123 hT) rfl I rfl 4 rfl (fun v1 ev1 pv1 qv1 => ?_)
  have wv1 : v1.toInt = (m 123 12).toInt := congrArg Int32.toInt ev1
  refine pv_aload_n (M := mX12_here) 0 dX12_here_4 5 rfl rfl rfl ?_
  refine iv_get (M := mX12_here) (l1 := 0) (l2 := 160) dX12_here_5 FX12 13 wd1186 (by decide) (tl123 hT) rfl I rfl 8 rfl (fun v2 ev2 pv2 qv2 => ?_)
  have wv2 : v2.toInt = (m 123 13).toInt := congrArg Int32.toInt ev2
  refine pv_icmp_ge (M := mX12_here) (tgt := 27) dX12_here_8 11 rfl (by decide) (fun c3 => ?_) (fun c3 => ?_)
  · have c3 := iv_le (X := v2.toInt) (Y := v1.toInt) c3 rfl rfl
    refine pv_iconst (M := mX12_here) (v := (-1)) dX12_here_27 28 rfl (by decide) ?_
    have z4 : ((-1) : Int32).toInt = (-1) := by decide
    exact pv_iret (M := mX12_here) dX12_here_28 rfl rfl ⟨_, rfl, rfl, by decide, by decide, ⟨by unfold hereV; rw [if_neg (by omega)]; rfl, Or.inl (by decide)⟩⟩
  · have c3 := iv_nle (X := v2.toInt) (Y := v1.toInt) c3 rfl rfl
    refine pv_aload_n (M := mX12_here) 0 dX12_here_11 12 rfl rfl rfl ?_
    refine mv_get (M := mX12_here) (v := .ref 129) dX12_here_12 FX12 10 wd1183 (by decide) (tl123 hT) rfl rfl 15 rfl ?_
    refine pv_aload_n (M := mX12_here) 0 dX12_here_15 16 rfl rfl rfl ?_
    refine iv_get (M := mX12_here) (l1 := 0) (l2 := 160) dX12_here_16 FX12 12 wd1185 (by decide) (tl123 hT) rfl I rfl 19 rfl (fun v5 ev5 pv5 qv5 => ?_)
    have wv5 : v5.toInt = (m 123 12).toInt := congrArg Int32.toInt ev5
    refine iv_bald (M := mX12_here) (X := v5.toInt) (l1 := (-128)) (l2 := 127) dX12_here_19 (tl129 hT) rfl (by omega) (by omega) I (fun _ => rfl) 20 rfl (fun v6 ev6 pv6 qv6 => ?_)
    have k20 : v6 = m 129 (m 123 12).toInt.toNat := ev6.trans (congrArg (fun z => m 129 z) (by omega))
    refine pv_sipush (M := mX12_here) (v := 255) dX12_here_20 23 rfl (by decide) ?_
    refine iv_iandm (M := mX12_here) dX12_here_23 24 rfl 8 (by decide) (by decide) (fun v8 ev8 pv8 qv8 => ?_)
    have qv8 : v8.toInt < 256 := qv8
    refine pv_goto (M := mX12_here) (tgt := 28) dX12_here_24 (by decide) ?_
    exact pv_iret (M := mX12_here) dX12_here_28 rfl rfl ⟨_, rfl, rfl, by omega, by omega, ⟨by unfold hereV; rw [if_pos (by omega), ← k20]; exact congrArg Int32.toInt ev8, Or.inr (by omega)⟩⟩

set_option maxHeartbeats 2000000 in
set_option maxRecDepth 20000 in
theorem s_X12_isDigit (g : pv_G) {T : List mv_T} {m : Nat → Nat → Int32} {n : Nat → Nat → Int64} {r : Nat → Value} (hT : TX T) (I : IV BB m) : PM g mX12_isDigit yX12_isDigit (sqP (mk T m n r) 0 1 (fun v => (v.toInt = 0 ∧ ¬ (48 ≤ hereV m ∧ hereV m ≤ 57)) ∨ (v.toInt = 1 ∧ 48 ≤ hereV m ∧ hereV m ≤ 57 ∧ (m 123 12).toInt < (m 123 13).toInt))) 2 0 0 [.ref 123] (mk T m n r) := by
  have Kp : fr (wl []) m m := fr.rf
  refine PM.of 0 (lo := [.ref 123]) rfl (by decide) rfl rfl (Nat.le_of_ble_eq_true rfl) ?_
  refine pv_aload_n (M := mX12_isDigit) 0 dX12_isDigit_0 1 rfl rfl rfl ?_
  refine pv_callv (M := mX12_isDigit) (as := []) (st := []) (kc2 := 0) (ks2 := 0) dX12_isDigit_1 wd1417 YX12_here ⟨wd1419, wd60⟩ (mk_get (tl123 hT)) rfl rfl (s_X12_here g hT I) rfl rfl (Nat.le_of_ble_eq_true rfl) (by decide) rfl rfl 4 rfl (fun rv h1 q1 => ?_)
  obtain ⟨v2, rfl, rfl, pv2, qv2, rv2⟩ := q1
  replace rv2 : v2.toInt = hereV m ∧ (v2.toInt = -1 ∨ (m 123 12).toInt < (m 123 13).toInt) := rv2
  show PV _ _ _ _ _ _ _ 4 [.ref 123] [.int v2] _
  refine pv_bipush (M := mX12_isDigit) (v := 48) dX12_isDigit_4 6 rfl (by decide) ?_
  refine pv_icmp_lt (M := mX12_isDigit) (tgt := 22) dX12_isDigit_6 9 rfl (by decide) (fun c3 => ?_) (fun c3 => ?_)
  · have c3 := iv_lt (X := v2.toInt) (Y := 48) c3 rfl (by decide)
    refine pv_iconst (M := mX12_isDigit) (v := 0) dX12_isDigit_22 23 rfl (by decide) ?_
    have z4 : (0 : Int32).toInt = 0 := by decide
    exact pv_iret (M := mX12_isDigit) dX12_isDigit_23 rfl rfl ⟨_, rfl, rfl, by decide, by decide, (Or.inl ⟨by decide, by omega⟩)⟩
  · have c3 := iv_nlt (X := v2.toInt) (Y := 48) c3 rfl (by decide)
    refine pv_aload_n (M := mX12_isDigit) 0 dX12_isDigit_9 10 rfl rfl rfl ?_
    refine pv_callv (M := mX12_isDigit) (as := []) (st := []) (kc2 := 0) (ks2 := 0) dX12_isDigit_10 wd1417 YX12_here ⟨wd1419, wd60⟩ (mk_get (tl123 hT)) rfl rfl (s_X12_here g hT I) rfl rfl (Nat.le_of_ble_eq_true rfl) (by decide) rfl rfl 13 rfl (fun rv h1 q5 => ?_)
    obtain ⟨v6, rfl, rfl, pv6, qv6, rv6⟩ := q5
    replace rv6 : v6.toInt = hereV m ∧ (v6.toInt = -1 ∨ (m 123 12).toInt < (m 123 13).toInt) := rv6
    show PV _ _ _ _ _ _ _ 13 [.ref 123] [.int v6] _
    refine pv_bipush (M := mX12_isDigit) (v := 57) dX12_isDigit_13 15 rfl (by decide) ?_
    refine pv_icmp_gt (M := mX12_isDigit) (tgt := 22) dX12_isDigit_15 18 rfl (by decide) (fun c7 => ?_) (fun c7 => ?_)
    · have c7 := iv_lt (X := 57) (Y := v6.toInt) c7 (by decide) rfl
      refine pv_iconst (M := mX12_isDigit) (v := 0) dX12_isDigit_22 23 rfl (by decide) ?_
      have z8 : (0 : Int32).toInt = 0 := by decide
      exact pv_iret (M := mX12_isDigit) dX12_isDigit_23 rfl rfl ⟨_, rfl, rfl, by decide, by decide, (Or.inl ⟨by decide, by omega⟩)⟩
    · have c7 := iv_nlt (X := 57) (Y := v6.toInt) c7 (by decide) rfl
      refine pv_iconst (M := mX12_isDigit) (v := 1) dX12_isDigit_18 19 rfl (by decide) ?_
      refine pv_goto (M := mX12_isDigit) (tgt := 23) dX12_isDigit_19 (by decide) ?_
      have z9 : (1 : Int32).toInt = 1 := by decide
      exact pv_iret (M := mX12_isDigit) dX12_isDigit_23 rfl rfl ⟨_, rfl, rfl, by decide, by decide, (Or.inr ⟨by decide, by omega, by omega, by omega⟩)⟩

set_option maxHeartbeats 2000000 in
set_option maxRecDepth 20000 in
theorem s_X12_wrongAt (g : pv_G) {T : List mv_T} {m : Nat → Nat → Int32} {n : Nat → Nat → Int64} {r : Nat → Value} (hT : TX T) (I : IV BB m) (x0 : Int32) (hl0 : 1 ≤ x0.toInt) (hh0 : x0.toInt ≤ 5) (x1 : Int32) (hl1 : 0 ≤ x1.toInt) (hh1 : x1.toInt ≤ 160) : PM g mX12_wrongAt yX12_wrongAt (sqI T BB (wl [(123, 123, some 14)]) r m 0 0 (fun m' v => True)) 1 0 0 [.ref 123, .int x0, .int x1] (mk T m n r) := by
  have Kp : fr (wl [(123, 123, some 14)]) m m := fr.rf
  refine PM.of 0 (lo := [.ref 123, .int x0, .int x1]) rfl (by decide) rfl rfl (Nat.le_of_ble_eq_true rfl) ?_
  refine pv_aload_n (M := mX12_wrongAt) 0 dX12_wrongAt_0 1 rfl rfl rfl ?_
  refine pv_sipush (M := mX12_wrongAt) (v := (-1000)) dX12_wrongAt_1 4 rfl (by decide) ?_
  refine pv_iload_n (M := mX12_wrongAt) 1 dX12_wrongAt_4 5 rfl rfl rfl ?_
  refine iv_imul (M := mX12_wrongAt) (X := (-1000)) (Y := x0.toInt) dX12_wrongAt_5 6 rfl (by decide) rfl (by omega) (by omega) (fun v1 ev1 => ?_)
  refine pv_iload_n (M := mX12_wrongAt) 2 dX12_wrongAt_6 7 rfl rfl rfl ?_
  refine iv_isub (M := mX12_wrongAt) (X := v1.toInt) (Y := x1.toInt) dX12_wrongAt_7 8 rfl rfl rfl (by omega) (by omega) (fun v2 ev2 => ?_)
  refine iv_put (M := mX12_wrongAt) (l1 := (-2147483648)) (l2 := 2147483647) dX12_wrongAt_8 FX12 14 wd1187 (by decide) rfl (tl123 hT) rfl rfl rfl I rfl (iv_rng v2).1 (iv_rng v2).2 11 rfl (fun m3 e6 I4 => ?_)
  have K5 := Kp.set e6 rfl
  refine pv_iconst (M := mX12_wrongAt) (v := 0) dX12_wrongAt_11 12 rfl (by decide) ?_
  exact pv_iret (M := mX12_wrongAt) dX12_wrongAt_12 rfl rfl ⟨_, _, _, rfl, rfl, I4, K5, by decide, by decide, trivial⟩

set_option maxHeartbeats 2000000 in
set_option maxRecDepth 20000 in
theorem s_X12_takes (g : pv_G) {T : List mv_T} {m : Nat → Nat → Int32} {n : Nat → Nat → Int64} {r : Nat → Value} (hT : TX T) (I : IV BB m) (x0 : Int32) (hl0 : 0 ≤ x0.toInt) (hh0 : x0.toInt ≤ 255) (hp0 : (m 123 12).toInt ≤ (m 123 13).toInt) : PM g mX12_takes yX12_takes (sqI T BB (wl [(123, 123, some 12), (123, 123, some 14)]) r m 0 1 (fun m' v => (v.toInt = 0 ∨ (m' 123 12).toInt = (m 123 12).toInt + 1) ∧ (m 123 12).toInt ≤ (m' 123 12).toInt ∧ (m' 123 12).toInt ≤ (m' 123 13).toInt ∧ (m' 123 13).toInt = (m 123 13).toInt)) 2 0 0 [.ref 123, .int x0] (mk T m n r) := by
  have Kp : fr (wl [(123, 123, some 12), (123, 123, some 14)]) m m := fr.rf
  have z26 : 0 ≤ (m 123 12).toInt ∧ (m 123 12).toInt ≤ 160 := I 123 12
  have z27 : 0 ≤ (m 123 13).toInt ∧ (m 123 13).toInt ≤ 160 := I 123 13
  have z28 : 0 ≤ (m 123 16).toInt ∧ (m 123 16).toInt ≤ 180 := I 123 16
  have z29 : 0 ≤ (m 123 17).toInt ∧ (m 123 17).toInt ≤ 180 := I 123 17
  refine PM.of 0 (lo := [.ref 123, .int x0]) rfl (by decide) rfl rfl (Nat.le_of_ble_eq_true rfl) ?_
  refine pv_aload_n (M := mX12_takes) 0 dX12_takes_0 1 rfl rfl rfl ?_
  refine pv_callv (M := mX12_takes) (as := []) (st := []) (kc2 := 0) (ks2 := 0) dX12_takes_1 wd1417 YX12_here ⟨wd1419, wd60⟩ (mk_get (tl123 hT)) rfl rfl (s_X12_here g hT I) rfl rfl (Nat.le_of_ble_eq_true rfl) (by decide) rfl rfl 4 rfl (fun rv h1 q1 => ?_)
  obtain ⟨v2, rfl, rfl, pv2, qv2, rv2⟩ := q1
  replace rv2 : v2.toInt = hereV m ∧ (v2.toInt = -1 ∨ (m 123 12).toInt < (m 123 13).toInt) := rv2
  show PV _ _ _ _ _ _ _ 4 [.ref 123, .int x0] [.int v2] _
  refine pv_iload_n (M := mX12_takes) 1 dX12_takes_4 5 rfl rfl rfl ?_
  refine pv_icmp_eq (M := mX12_takes) (tgt := 18) dX12_takes_5 8 rfl (by decide) (fun c3 => ?_) (fun c3 => ?_)
  · have c3 := iv_eq (X := v2.toInt) (Y := x0.toInt) c3 rfl rfl
    refine pv_aload_n (M := mX12_takes) 0 dX12_takes_18 19 rfl rfl rfl ?_
    refine pv_aload_n (M := mX12_takes) 0 dX12_takes_19 20 rfl rfl rfl ?_
    refine iv_get (M := mX12_takes) (l1 := 0) (l2 := 160) dX12_takes_20 FX12 12 wd1185 (by decide) (tl123 hT) rfl I rfl 23 rfl (fun v4 ev4 pv4 qv4 => ?_)
    have wv4 : v4.toInt = (m 123 12).toInt := congrArg Int32.toInt ev4
    refine pv_iconst (M := mX12_takes) (v := 1) dX12_takes_23 24 rfl (by decide) ?_
    refine iv_iadd (M := mX12_takes) (X := v4.toInt) (Y := 1) dX12_takes_24 25 rfl rfl (by decide) (by omega) (by omega) (fun v5 ev5 => ?_)
    refine iv_put (M := mX12_takes) (l1 := 0) (l2 := 160) dX12_takes_25 FX12 12 wd1185 (by decide) rfl (tl123 hT) rfl rfl rfl I rfl (by omega) (by omega) 28 rfl (fun m6 e9 I7 => ?_)
    have K8 := Kp.set e9 rfl
    have w10 : (m6 123 12).toInt = v5.toInt := by rw [e9, up2_eq]
    have w11 : (m6 123 13).toInt = (m 123 13).toInt := by rw [e9, up2_ne (by omega)]
    have w12 : (m6 123 16).toInt = (m 123 16).toInt := by rw [e9, up2_ne (by omega)]
    have w13 : (m6 123 17).toInt = (m 123 17).toInt := by rw [e9, up2_ne (by omega)]
    refine pv_iconst (M := mX12_takes) (v := 1) dX12_takes_28 29 rfl (by decide) ?_
    have z14 : (1 : Int32).toInt = 1 := by decide
    exact pv_iret (M := mX12_takes) dX12_takes_29 rfl rfl ⟨_, _, _, rfl, rfl, I7, K8, by decide, by decide, (by refine ⟨?_, ?_, ?_, ?_⟩ <;> omega)⟩
  · have c3 := iv_ne (X := v2.toInt) (Y := x0.toInt) c3 rfl rfl
    refine pv_aload_n (M := mX12_takes) 0 dX12_takes_8 9 rfl rfl rfl ?_
    refine pv_iconst (M := mX12_takes) (v := 1) dX12_takes_9 10 rfl (by decide) ?_
    refine pv_aload_n (M := mX12_takes) 0 dX12_takes_10 11 rfl rfl rfl ?_
    refine iv_get (M := mX12_takes) (l1 := 0) (l2 := 160) dX12_takes_11 FX12 12 wd1185 (by decide) (tl123 hT) rfl I rfl 14 rfl (fun v15 ev15 pv15 qv15 => ?_)
    have wv15 : v15.toInt = (m 123 12).toInt := congrArg Int32.toInt ev15
    refine pv_callv (M := mX12_takes) (as := [.int 1, .int v15]) (st := []) (kc2 := 0) (ks2 := 0) dX12_takes_14 wd1421 YX12_wrongAt ⟨wd1423, wd61⟩ (mk_get (tl123 hT)) rfl rfl (s_X12_wrongAt g hT I 1 (by decide) (by decide) v15 (by omega) (by omega)) rfl rfl (Nat.le_of_ble_eq_true rfl) (by decide) rfl rfl 17 rfl (fun rv h1 q16 => ?_)
    obtain ⟨m17, n18, v21, rfl, rfl, I19, K20, pv21, qv21, rv21⟩ := q16
    have K20c := K20
    have w22 : (m17 123 12).toInt = (m 123 12).toInt := congrArg Int32.toInt (K20 123 12 rfl)
    have w23 : (m17 123 13).toInt = (m 123 13).toInt := congrArg Int32.toInt (K20 123 13 rfl)
    have w24 : (m17 123 16).toInt = (m 123 16).toInt := congrArg Int32.toInt (K20 123 16 rfl)
    have w25 : (m17 123 17).toInt = (m 123 17).toInt := congrArg Int32.toInt (K20 123 17 rfl)
    have K20 := Kp.trans (K20.sub (wl_sub (by decide)))
    show PV _ _ _ _ _ _ _ 17 [.ref 123, .int x0] [.int v21] _
    exact pv_iret (M := mX12_takes) dX12_takes_17 rfl (iv_nz (by omega) (by omega)) ⟨_, _, _, rfl, rfl, I19, K20, by omega, by omega, (by refine ⟨?_, ?_, ?_, ?_⟩ <;> omega)⟩

set_option maxHeartbeats 2000000 in
set_option maxRecDepth 20000 in
theorem s_X12_readsNumber (g : pv_G) {T : List mv_T} {m : Nat → Nat → Int32} {n : Nat → Nat → Int64} {r : Nat → Value} (hT : TX T) (I : IV BB m) (hp0 : (m 123 12).toInt ≤ (m 123 13).toInt) : PM g mX12_readsNumber yX12_readsNumber (sqI T BB (wl [(123, 123, some 12), (123, 123, some 14), (123, 123, some 19)]) r m 0 1 (fun m' v => (v.toInt = 0 ∨ (48 ≤ hereV m ∧ hereV m ≤ 57 → (m 123 12).toInt + 1 ≤ (m' 123 12).toInt)) ∧ (m 123 12).toInt ≤ (m' 123 12).toInt ∧ (m' 123 12).toInt ≤ (m' 123 13).toInt ∧ (m' 123 13).toInt = (m 123 13).toInt)) 3 0 0 [.ref 123] (mk T m n r) := by
  have Kp : fr (wl [(123, 123, some 12), (123, 123, some 14), (123, 123, some 19)]) m m := fr.rf
  have z79 : 0 ≤ (m 123 12).toInt ∧ (m 123 12).toInt ≤ 160 := I 123 12
  have z80 : 0 ≤ (m 123 13).toInt ∧ (m 123 13).toInt ≤ 160 := I 123 13
  have z81 : 0 ≤ (m 123 16).toInt ∧ (m 123 16).toInt ≤ 180 := I 123 16
  have z82 : 0 ≤ (m 123 17).toInt ∧ (m 123 17).toInt ≤ 180 := I 123 17
  have z83 : 0 ≤ (m 123 19).toInt ∧ (m 123 19).toInt ≤ 99999 := I 123 19
  refine PM.of 1 (lo := [.ref 123, pv_U]) rfl (by decide) rfl rfl (Nat.le_of_ble_eq_true rfl) ?_
  refine pv_aload_n (M := mX12_readsNumber) 0 dX12_readsNumber_0 1 rfl rfl rfl ?_
  refine iv_get (M := mX12_readsNumber) (l1 := 0) (l2 := 160) dX12_readsNumber_1 FX12 12 wd1185 (by decide) (tl123 hT) rfl I rfl 4 rfl (fun v1 ev1 pv1 qv1 => ?_)
  have wv1 : v1.toInt = (m 123 12).toInt := congrArg Int32.toInt ev1
  refine pv_istore_n (M := mX12_readsNumber) 1 (lo2 := [.ref 123, .int v1]) dX12_readsNumber_4 5 rfl rfl (by decide) rfl rfl ?_
  refine pv_aload_n (M := mX12_readsNumber) 0 dX12_readsNumber_5 6 rfl rfl rfl ?_
  refine pv_iconst (M := mX12_readsNumber) (v := 0) dX12_readsNumber_6 7 rfl (by decide) ?_
  refine iv_put (M := mX12_readsNumber) (l1 := 0) (l2 := 99999) dX12_readsNumber_7 FX12 19 wd1192 (by decide) rfl (tl123 hT) rfl rfl rfl I rfl (by decide) (by decide) 10 rfl (fun m2 e5 I3 => ?_)
  have K4 := Kp.set e5 rfl
  have w6 : (m2 123 12).toInt = (m 123 12).toInt := by rw [e5, up2_ne (by omega)]
  have w7 : (m2 123 13).toInt = (m 123 13).toInt := by rw [e5, up2_ne (by omega)]
  have w8 : (m2 123 16).toInt = (m 123 16).toInt := by rw [e5, up2_ne (by omega)]
  have w9 : (m2 123 17).toInt = (m 123 17).toInt := by rw [e5, up2_ne (by omega)]
  have w10 : (m2 123 19).toInt = 0 := by rw [e5, up2_eq] <;> rfl
  have lp16 : ∀ (fuel15 : Nat)  (m11 : Nat → Nat → Int32) (n12 : Nat → Nat → Int64), (v1.toInt = (m 123 12).toInt) → ((m 123 12).toInt ≤ (m11 123 12).toInt) → ((m11 123 12).toInt ≤ (m 123 12).toInt + 5) → ((m11 123 12).toInt ≤ (m11 123 13).toInt) → ((m11 123 13).toInt = (m 123 13).toInt) → ((m11 123 19).toInt + 1 ≤ pow10 ((m11 123 12).toInt - (m 123 12).toInt)) → ((m11 123 12).toInt = (m 123 12).toInt → hereV m11 = hereV m) → IV BB m11 → fr (wl [(123, 123, some 12), (123, 123, some 14), (123, 123, some 19)]) m m11 → ((160 - (m11 123 12).toInt) : Int).toNat < fuel15 → PV none g mX12_readsNumber (sqI T BB (wl [(123, 123, some 12), (123, 123, some 14), (123, 123, some 19)]) r m 0 1 (fun m' v => (v.toInt = 0 ∨ (48 ≤ hereV m ∧ hereV m ≤ 57 → (m 123 12).toInt + 1 ≤ (m' 123 12).toInt)) ∧ (m 123 12).toInt ≤ (m' 123 12).toInt ∧ (m' 123 12).toInt ≤ (m' 123 13).toInt ∧ (m' 123 13).toInt = (m 123 13).toInt)) 3 0 0 10 [.ref 123, .int v1] [] (mk T m11 n12 r) := by
    intro fuel15
    induction fuel15 with
    | zero => intro  m11 n12 b18 b19 b20 b21 b22 b23 b24 I13 K14 z25; omega
    | succ fuel15 ih17 =>
      intro  m11 n12 b18 b19 b20 b21 b22 b23 b24 I13 K14 z25
      have z26 : 0 ≤ (m11 123 12).toInt ∧ (m11 123 12).toInt ≤ 160 := I13 123 12
      have z27 : 0 ≤ (m11 123 13).toInt ∧ (m11 123 13).toInt ≤ 160 := I13 123 13
      have z28 : 0 ≤ (m11 123 16).toInt ∧ (m11 123 16).toInt ≤ 180 := I13 123 16
      have z29 : 0 ≤ (m11 123 17).toInt ∧ (m11 123 17).toInt ≤ 180 := I13 123 17
      have z30 : 0 ≤ (m11 123 19).toInt ∧ (m11 123 19).toInt ≤ 99999 := I13 123 19
      refine pv_aload_n (M := mX12_readsNumber) 0 dX12_readsNumber_10 11 rfl rfl rfl ?_
      refine pv_callv (M := mX12_readsNumber) (as := []) (st := []) (kc2 := 0) (ks2 := 0) dX12_readsNumber_11 wd1438 YX12_isDigit ⟨wd1440, wd65⟩ (mk_get (tl123 hT)) rfl rfl (s_X12_isDigit g hT I13) rfl rfl (Nat.le_of_ble_eq_true rfl) (by decide) rfl rfl 14 rfl (fun rv h1 q31 => ?_)
      obtain ⟨v32, rfl, rfl, pv32, qv32, rv32⟩ := q31
      replace rv32 : (v32.toInt = 0 ∧ ¬ (48 ≤ hereV m11 ∧ hereV m11 ≤ 57)) ∨ (v32.toInt = 1 ∧ 48 ≤ hereV m11 ∧ hereV m11 ≤ 57 ∧ (m11 123 12).toInt < (m11 123 13).toInt) := rv32
      show PV _ _ _ _ _ _ _ 14 [.ref 123, .int v1] [.int v32] _
      refine pv_if_eq (M := mX12_readsNumber) (tgt := 69) dX12_readsNumber_14 17 rfl (by decide) (fun c33 => ?_) (fun c33 => ?_)
      · have c33 := iv_eq (X := v32.toInt) (Y := 0) c33 rfl (by decide)
        refine pv_iconst (M := mX12_readsNumber) (v := 1) dX12_readsNumber_69 70 rfl (by decide) ?_
        have z34 : (1 : Int32).toInt = 1 := by decide
        exact pv_iret (M := mX12_readsNumber) dX12_readsNumber_70 rfl rfl ⟨_, _, _, rfl, rfl, I13, K14, by decide, by decide, (by refine ⟨?_, ?_, ?_, ?_⟩ <;> first | omega | (right; intro q; omega))⟩
      · have c33 := iv_ne (X := v32.toInt) (Y := 0) c33 rfl (by decide)
        refine pv_aload_n (M := mX12_readsNumber) 0 dX12_readsNumber_17 18 rfl rfl rfl ?_
        refine iv_get (M := mX12_readsNumber) (l1 := 0) (l2 := 160) dX12_readsNumber_18 FX12 12 wd1185 (by decide) (tl123 hT) rfl I13 rfl 21 rfl (fun v35 ev35 pv35 qv35 => ?_)
        have wv35 : v35.toInt = (m11 123 12).toInt := congrArg Int32.toInt ev35
        refine pv_iload_n (M := mX12_readsNumber) 1 dX12_readsNumber_21 22 rfl rfl rfl ?_
        refine pv_iconst (M := mX12_readsNumber) (v := 5) dX12_readsNumber_22 23 rfl (by decide) ?_
        refine iv_iadd (M := mX12_readsNumber) (X := v1.toInt) (Y := 5) dX12_readsNumber_23 24 rfl rfl (by decide) (by omega) (by omega) (fun v36 ev36 => ?_)
        refine pv_icmp_ne (M := mX12_readsNumber) (tgt := 37) dX12_readsNumber_24 27 rfl (by decide) (fun c37 => ?_) (fun c37 => ?_)
        · have c37 := iv_ne (X := v35.toInt) (Y := v36.toInt) c37 rfl rfl
          refine pv_aload_n (M := mX12_readsNumber) 0 dX12_readsNumber_37 38 rfl rfl rfl ?_
          refine pv_bipush (M := mX12_readsNumber) (v := 10) dX12_readsNumber_38 40 rfl (by decide) ?_
          refine pv_aload_n (M := mX12_readsNumber) 0 dX12_readsNumber_40 41 rfl rfl rfl ?_
          refine iv_get (M := mX12_readsNumber) (l1 := 0) (l2 := 99999) dX12_readsNumber_41 FX12 19 wd1192 (by decide) (tl123 hT) rfl I13 rfl 44 rfl (fun v38 ev38 pv38 qv38 => ?_)
          have wv38 : v38.toInt = (m11 123 19).toInt := congrArg Int32.toInt ev38
          refine iv_imul (M := mX12_readsNumber) (X := 10) (Y := v38.toInt) dX12_readsNumber_44 45 rfl (by decide) rfl (by omega) (by omega) (fun v39 ev39 => ?_)
          refine pv_aload_n (M := mX12_readsNumber) 0 dX12_readsNumber_45 46 rfl rfl rfl ?_
          refine pv_callv (M := mX12_readsNumber) (as := []) (st := [.int v39, .ref 123]) (kc2 := 0) (ks2 := 0) dX12_readsNumber_46 wd1417 YX12_here ⟨wd1419, wd60⟩ (mk_get (tl123 hT)) rfl rfl (s_X12_here g hT I13) rfl rfl (Nat.le_of_ble_eq_true rfl) (by decide) rfl rfl 49 rfl (fun rv h1 q40 => ?_)
          obtain ⟨v41, rfl, rfl, pv41, qv41, rv41⟩ := q40
          replace rv41 : v41.toInt = hereV m11 ∧ (v41.toInt = -1 ∨ (m11 123 12).toInt < (m11 123 13).toInt) := rv41
          show PV _ _ _ _ _ _ _ 49 [.ref 123, .int v1] [.int v41, .int v39, .ref 123] _
          refine iv_iadd (M := mX12_readsNumber) (X := v39.toInt) (Y := v41.toInt) dX12_readsNumber_49 50 rfl rfl rfl (by omega) (by omega) (fun v42 ev42 => ?_)
          refine pv_bipush (M := mX12_readsNumber) (v := 48) dX12_readsNumber_50 52 rfl (by decide) ?_
          refine iv_isub (M := mX12_readsNumber) (X := v42.toInt) (Y := 48) dX12_readsNumber_52 53 rfl rfl (by decide) (by omega) (by omega) (fun v43 ev43 => ?_)
          have kz := pow10_4 (k := (m11 123 12).toInt - (m 123 12).toInt) (by omega)
          refine iv_put (M := mX12_readsNumber) (l1 := 0) (l2 := 99999) dX12_readsNumber_53 FX12 19 wd1192 (by decide) rfl (tl123 hT) rfl rfl rfl I13 rfl (by omega) (by omega) 56 rfl (fun m45 e48 I46 => ?_)
          have K47 := K14.set e48 rfl
          have w49 : (m45 123 12).toInt = (m11 123 12).toInt := by rw [e48, up2_ne (by omega)]
          have w50 : (m45 123 13).toInt = (m11 123 13).toInt := by rw [e48, up2_ne (by omega)]
          have w51 : (m45 123 16).toInt = (m11 123 16).toInt := by rw [e48, up2_ne (by omega)]
          have w52 : (m45 123 17).toInt = (m11 123 17).toInt := by rw [e48, up2_ne (by omega)]
          have w53 : (m45 123 19).toInt = v43.toInt := by rw [e48, up2_eq]
          refine pv_aload_n (M := mX12_readsNumber) 0 dX12_readsNumber_56 57 rfl rfl rfl ?_
          refine pv_aload_n (M := mX12_readsNumber) 0 dX12_readsNumber_57 58 rfl rfl rfl ?_
          refine iv_get (M := mX12_readsNumber) (l1 := 0) (l2 := 160) dX12_readsNumber_58 FX12 12 wd1185 (by decide) (tl123 hT) rfl I46 rfl 61 rfl (fun v54 ev54 pv54 qv54 => ?_)
          have wv54 : v54.toInt = (m45 123 12).toInt := congrArg Int32.toInt ev54
          refine pv_iconst (M := mX12_readsNumber) (v := 1) dX12_readsNumber_61 62 rfl (by decide) ?_
          refine iv_iadd (M := mX12_readsNumber) (X := v54.toInt) (Y := 1) dX12_readsNumber_62 63 rfl rfl (by decide) (by omega) (by omega) (fun v55 ev55 => ?_)
          refine iv_put (M := mX12_readsNumber) (l1 := 0) (l2 := 160) dX12_readsNumber_63 FX12 12 wd1185 (by decide) rfl (tl123 hT) rfl rfl rfl I46 rfl (by omega) (by omega) 66 rfl (fun m56 e59 I57 => ?_)
          have K58 := K47.set e59 rfl
          have w60 : (m56 123 12).toInt = v55.toInt := by rw [e59, up2_eq]
          have w61 : (m56 123 13).toInt = (m45 123 13).toInt := by rw [e59, up2_ne (by omega)]
          have w62 : (m56 123 16).toInt = (m45 123 16).toInt := by rw [e59, up2_ne (by omega)]
          have w63 : (m56 123 17).toInt = (m45 123 17).toInt := by rw [e59, up2_ne (by omega)]
          have w64 : (m56 123 19).toInt = (m45 123 19).toInt := by rw [e59, up2_ne (by omega)]
          refine pv_goto (M := mX12_readsNumber) (tgt := 10) dX12_readsNumber_66 (by decide) ?_
          have kp : pow10 ((m56 123 12).toInt - (m 123 12).toInt) = 10 * pow10 ((m56 123 12).toInt - (m 123 12).toInt - 1) := pow10_s (by omega) (by omega)
          have kq : pow10 ((m56 123 12).toInt - (m 123 12).toInt - 1) = pow10 ((m11 123 12).toInt - (m 123 12).toInt) := congrArg pow10 (by omega)
          exact ih17  m56 n12 (by first | omega | assumption | (show v1.toInt = (m 123 12).toInt; omega) | decide) (by first | omega | assumption | (show (m 123 12).toInt ≤ (m56 123 12).toInt; omega) | decide) (by first | omega | assumption | (show (m56 123 12).toInt ≤ (m 123 12).toInt + 5; omega) | decide) (by first | omega | assumption | (show (m56 123 12).toInt ≤ (m56 123 13).toInt; omega) | decide) (by first | omega | assumption | (show (m56 123 13).toInt = (m 123 13).toInt; omega) | decide) (by first | omega | assumption | (show (m56 123 19).toInt + 1 ≤ pow10 ((m56 123 12).toInt - (m 123 12).toInt); omega) | decide) (fun q => by omega) I57 K58 (by omega)
        · have c37 := iv_eq (X := v35.toInt) (Y := v36.toInt) c37 rfl rfl
          refine pv_aload_n (M := mX12_readsNumber) 0 dX12_readsNumber_27 28 rfl rfl rfl ?_
          refine pv_iconst (M := mX12_readsNumber) (v := 2) dX12_readsNumber_28 29 rfl (by decide) ?_
          refine pv_aload_n (M := mX12_readsNumber) 0 dX12_readsNumber_29 30 rfl rfl rfl ?_
          refine iv_get (M := mX12_readsNumber) (l1 := 0) (l2 := 160) dX12_readsNumber_30 FX12 12 wd1185 (by decide) (tl123 hT) rfl I13 rfl 33 rfl (fun v67 ev67 pv67 qv67 => ?_)
          have wv67 : v67.toInt = (m11 123 12).toInt := congrArg Int32.toInt ev67
          refine pv_callv (M := mX12_readsNumber) (as := [.int 2, .int v67]) (st := []) (kc2 := 0) (ks2 := 0) dX12_readsNumber_33 wd1421 YX12_wrongAt ⟨wd1423, wd61⟩ (mk_get (tl123 hT)) rfl rfl (s_X12_wrongAt g hT I13 2 (by decide) (by decide) v67 (by omega) (by omega)) rfl rfl (Nat.le_of_ble_eq_true rfl) (by decide) rfl rfl 36 rfl (fun rv h1 q68 => ?_)
          obtain ⟨m69, n70, v73, rfl, rfl, I71, K72, pv73, qv73, rv73⟩ := q68
          have K72c := K72
          have w74 : (m69 123 12).toInt = (m11 123 12).toInt := congrArg Int32.toInt (K72 123 12 rfl)
          have w75 : (m69 123 13).toInt = (m11 123 13).toInt := congrArg Int32.toInt (K72 123 13 rfl)
          have w76 : (m69 123 16).toInt = (m11 123 16).toInt := congrArg Int32.toInt (K72 123 16 rfl)
          have w77 : (m69 123 17).toInt = (m11 123 17).toInt := congrArg Int32.toInt (K72 123 17 rfl)
          have w78 : (m69 123 19).toInt = (m11 123 19).toInt := congrArg Int32.toInt (K72 123 19 rfl)
          have K72 := K14.trans (K72.sub (wl_sub (by decide)))
          show PV _ _ _ _ _ _ _ 36 [.ref 123, .int v1] [.int v73] _
          exact pv_iret (M := mX12_readsNumber) dX12_readsNumber_36 rfl (iv_nz (by omega) (by omega)) ⟨_, _, _, rfl, rfl, I71, K72, by omega, by omega, (by refine ⟨?_, ?_, ?_, ?_⟩ <;> first | omega | (right; intro q; omega))⟩
  exact lp16 (((160 - (m2 123 12).toInt) : Int).toNat + 1)  m2 n (by first | omega | assumption | (show v1.toInt = (m 123 12).toInt; omega) | decide) (by first | omega | assumption | (show (m 123 12).toInt ≤ (m2 123 12).toInt; omega) | decide) (by first | omega | assumption | (show (m2 123 12).toInt ≤ (m 123 12).toInt + 5; omega) | decide) (by first | omega | assumption | (show (m2 123 12).toInt ≤ (m2 123 13).toInt; omega) | decide) (by first | omega | assumption | (show (m2 123 13).toInt = (m 123 13).toInt; omega) | decide) (by rw [show (m2 123 12).toInt - (m 123 12).toInt = 0 by omega]; show (m2 123 19).toInt + 1 ≤ 1; omega) (fun _ => by unfold hereV; rw [e5, up2_ne (by omega), up2_ne (by omega), up2_off (by omega)]) I3 K4 (by omega)

set_option maxHeartbeats 2000000 in
set_option maxRecDepth 20000 in
theorem s_X12_factOf (g : pv_G) {T : List mv_T} {m : Nat → Nat → Int32} {n : Nat → Nat → Int64} {r : Nat → Value} (hT : TX T) (I : IV BB m) (x0 : Int32) : PM g mX12_factOf yX12_factOf (sqP (mk T m n r) (-1) 9 (fun v => v.toInt = -1 ∨ 0 ≤ x0.toInt)) 1 0 0 [.int x0] (mk T m n r) := by
  have Kp : fr (wl []) m m := fr.rf
  refine PM.of 0 (lo := [.int x0]) rfl (by decide) rfl rfl (Nat.le_of_ble_eq_true rfl) ?_
  refine pv_iload_n (M := mX12_factOf) 0 dX12_factOf_0 1 rfl rfl rfl ?_
  by_cases c1 : x0.toInt = 98
  · refine iv_tabIn (M := mX12_factOf) (X := 98) (off := 118) (tgt := 119) dX12_factOf_1 c1 (by decide) (by decide) (by decide) (by decide) ?_
    refine pv_bipush (M := mX12_factOf) (v := 7) dX12_factOf_119 121 rfl (by decide) ?_
    have z2 : (7 : Int32).toInt = 7 := by decide
    exact pv_iret (M := mX12_factOf) dX12_factOf_121 rfl rfl ⟨_, rfl, rfl, by decide, by decide, (by first | omega | assumption)⟩
  by_cases c3 : x0.toInt = 99
  · refine iv_tabIn (M := mX12_factOf) (X := 99) (off := 127) (tgt := 128) dX12_factOf_1 c3 (by decide) (by decide) (by decide) (by decide) ?_
    refine pv_iconst (M := mX12_factOf) (v := (-1)) dX12_factOf_128 129 rfl (by decide) ?_
    have z4 : ((-1) : Int32).toInt = (-1) := by decide
    exact pv_iret (M := mX12_factOf) dX12_factOf_129 rfl rfl ⟨_, rfl, rfl, by decide, by decide, (by first | omega | assumption)⟩
  by_cases c5 : x0.toInt = 100
  · refine iv_tabIn (M := mX12_factOf) (X := 100) (off := 115) (tgt := 116) dX12_factOf_1 c5 (by decide) (by decide) (by decide) (by decide) ?_
    refine pv_bipush (M := mX12_factOf) (v := 6) dX12_factOf_116 118 rfl (by decide) ?_
    have z6 : (6 : Int32).toInt = 6 := by decide
    exact pv_iret (M := mX12_factOf) dX12_factOf_118 rfl rfl ⟨_, rfl, rfl, by decide, by decide, (by first | omega | assumption)⟩
  by_cases c7 : x0.toInt = 101
  · refine iv_tabIn (M := mX12_factOf) (X := 101) (off := 127) (tgt := 128) dX12_factOf_1 c7 (by decide) (by decide) (by decide) (by decide) ?_
    refine pv_iconst (M := mX12_factOf) (v := (-1)) dX12_factOf_128 129 rfl (by decide) ?_
    have z8 : ((-1) : Int32).toInt = (-1) := by decide
    exact pv_iret (M := mX12_factOf) dX12_factOf_129 rfl rfl ⟨_, rfl, rfl, by decide, by decide, (by first | omega | assumption)⟩
  by_cases c9 : x0.toInt = 102
  · refine iv_tabIn (M := mX12_factOf) (X := 102) (off := 121) (tgt := 122) dX12_factOf_1 c9 (by decide) (by decide) (by decide) (by decide) ?_
    refine pv_bipush (M := mX12_factOf) (v := 8) dX12_factOf_122 124 rfl (by decide) ?_
    have z10 : (8 : Int32).toInt = 8 := by decide
    exact pv_iret (M := mX12_factOf) dX12_factOf_124 rfl rfl ⟨_, rfl, rfl, by decide, by decide, (by first | omega | assumption)⟩
  by_cases c11 : x0.toInt = 103
  · refine iv_tabIn (M := mX12_factOf) (X := 103) (off := 124) (tgt := 125) dX12_factOf_1 c11 (by decide) (by decide) (by decide) (by decide) ?_
    refine pv_bipush (M := mX12_factOf) (v := 9) dX12_factOf_125 127 rfl (by decide) ?_
    have z12 : (9 : Int32).toInt = 9 := by decide
    exact pv_iret (M := mX12_factOf) dX12_factOf_127 rfl rfl ⟨_, rfl, rfl, by decide, by decide, (by first | omega | assumption)⟩
  by_cases c13 : x0.toInt = 104
  · refine iv_tabIn (M := mX12_factOf) (X := 104) (off := 127) (tgt := 128) dX12_factOf_1 c13 (by decide) (by decide) (by decide) (by decide) ?_
    refine pv_iconst (M := mX12_factOf) (v := (-1)) dX12_factOf_128 129 rfl (by decide) ?_
    have z14 : ((-1) : Int32).toInt = (-1) := by decide
    exact pv_iret (M := mX12_factOf) dX12_factOf_129 rfl rfl ⟨_, rfl, rfl, by decide, by decide, (by first | omega | assumption)⟩
  by_cases c15 : x0.toInt = 105
  · refine iv_tabIn (M := mX12_factOf) (X := 105) (off := 105) (tgt := 106) dX12_factOf_1 c15 (by decide) (by decide) (by decide) (by decide) ?_
    refine pv_iconst (M := mX12_factOf) (v := 1) dX12_factOf_106 107 rfl (by decide) ?_
    have z16 : (1 : Int32).toInt = 1 := by decide
    exact pv_iret (M := mX12_factOf) dX12_factOf_107 rfl rfl ⟨_, rfl, rfl, by decide, by decide, (by first | omega | assumption)⟩
  by_cases c17 : x0.toInt = 106
  · refine iv_tabIn (M := mX12_factOf) (X := 106) (off := 127) (tgt := 128) dX12_factOf_1 c17 (by decide) (by decide) (by decide) (by decide) ?_
    refine pv_iconst (M := mX12_factOf) (v := (-1)) dX12_factOf_128 129 rfl (by decide) ?_
    have z18 : ((-1) : Int32).toInt = (-1) := by decide
    exact pv_iret (M := mX12_factOf) dX12_factOf_129 rfl rfl ⟨_, rfl, rfl, by decide, by decide, (by first | omega | assumption)⟩
  by_cases c19 : x0.toInt = 107
  · refine iv_tabIn (M := mX12_factOf) (X := 107) (off := 113) (tgt := 114) dX12_factOf_1 c19 (by decide) (by decide) (by decide) (by decide) ?_
    refine pv_iconst (M := mX12_factOf) (v := 5) dX12_factOf_114 115 rfl (by decide) ?_
    have z20 : (5 : Int32).toInt = 5 := by decide
    exact pv_iret (M := mX12_factOf) dX12_factOf_115 rfl rfl ⟨_, rfl, rfl, by decide, by decide, (by first | omega | assumption)⟩
  by_cases c21 : x0.toInt = 108
  · refine iv_tabIn (M := mX12_factOf) (X := 108) (off := 103) (tgt := 104) dX12_factOf_1 c21 (by decide) (by decide) (by decide) (by decide) ?_
    refine pv_iconst (M := mX12_factOf) (v := 0) dX12_factOf_104 105 rfl (by decide) ?_
    have z22 : (0 : Int32).toInt = 0 := by decide
    exact pv_iret (M := mX12_factOf) dX12_factOf_105 rfl rfl ⟨_, rfl, rfl, by decide, by decide, (by first | omega | assumption)⟩
  by_cases c23 : x0.toInt = 109
  · refine iv_tabIn (M := mX12_factOf) (X := 109) (off := 109) (tgt := 110) dX12_factOf_1 c23 (by decide) (by decide) (by decide) (by decide) ?_
    refine pv_iconst (M := mX12_factOf) (v := 3) dX12_factOf_110 111 rfl (by decide) ?_
    have z24 : (3 : Int32).toInt = 3 := by decide
    exact pv_iret (M := mX12_factOf) dX12_factOf_111 rfl rfl ⟨_, rfl, rfl, by decide, by decide, (by first | omega | assumption)⟩
  by_cases c25 : x0.toInt = 110
  · refine iv_tabIn (M := mX12_factOf) (X := 110) (off := 127) (tgt := 128) dX12_factOf_1 c25 (by decide) (by decide) (by decide) (by decide) ?_
    refine pv_iconst (M := mX12_factOf) (v := (-1)) dX12_factOf_128 129 rfl (by decide) ?_
    have z26 : ((-1) : Int32).toInt = (-1) := by decide
    exact pv_iret (M := mX12_factOf) dX12_factOf_129 rfl rfl ⟨_, rfl, rfl, by decide, by decide, (by first | omega | assumption)⟩
  by_cases c27 : x0.toInt = 111
  · refine iv_tabIn (M := mX12_factOf) (X := 111) (off := 111) (tgt := 112) dX12_factOf_1 c27 (by decide) (by decide) (by decide) (by decide) ?_
    refine pv_iconst (M := mX12_factOf) (v := 4) dX12_factOf_112 113 rfl (by decide) ?_
    have z28 : (4 : Int32).toInt = 4 := by decide
    exact pv_iret (M := mX12_factOf) dX12_factOf_113 rfl rfl ⟨_, rfl, rfl, by decide, by decide, (by first | omega | assumption)⟩
  by_cases c29 : x0.toInt = 112
  · refine iv_tabIn (M := mX12_factOf) (X := 112) (off := 127) (tgt := 128) dX12_factOf_1 c29 (by decide) (by decide) (by decide) (by decide) ?_
    refine pv_iconst (M := mX12_factOf) (v := (-1)) dX12_factOf_128 129 rfl (by decide) ?_
    have z30 : ((-1) : Int32).toInt = (-1) := by decide
    exact pv_iret (M := mX12_factOf) dX12_factOf_129 rfl rfl ⟨_, rfl, rfl, by decide, by decide, (by first | omega | assumption)⟩
  by_cases c31 : x0.toInt = 113
  · refine iv_tabIn (M := mX12_factOf) (X := 113) (off := 127) (tgt := 128) dX12_factOf_1 c31 (by decide) (by decide) (by decide) (by decide) ?_
    refine pv_iconst (M := mX12_factOf) (v := (-1)) dX12_factOf_128 129 rfl (by decide) ?_
    have z32 : ((-1) : Int32).toInt = (-1) := by decide
    exact pv_iret (M := mX12_factOf) dX12_factOf_129 rfl rfl ⟨_, rfl, rfl, by decide, by decide, (by first | omega | assumption)⟩
  by_cases c33 : x0.toInt = 114
  · refine iv_tabIn (M := mX12_factOf) (X := 114) (off := 127) (tgt := 128) dX12_factOf_1 c33 (by decide) (by decide) (by decide) (by decide) ?_
    refine pv_iconst (M := mX12_factOf) (v := (-1)) dX12_factOf_128 129 rfl (by decide) ?_
    have z34 : ((-1) : Int32).toInt = (-1) := by decide
    exact pv_iret (M := mX12_factOf) dX12_factOf_129 rfl rfl ⟨_, rfl, rfl, by decide, by decide, (by first | omega | assumption)⟩
  by_cases c35 : x0.toInt = 115
  · refine iv_tabIn (M := mX12_factOf) (X := 115) (off := 127) (tgt := 128) dX12_factOf_1 c35 (by decide) (by decide) (by decide) (by decide) ?_
    refine pv_iconst (M := mX12_factOf) (v := (-1)) dX12_factOf_128 129 rfl (by decide) ?_
    have z36 : ((-1) : Int32).toInt = (-1) := by decide
    exact pv_iret (M := mX12_factOf) dX12_factOf_129 rfl rfl ⟨_, rfl, rfl, by decide, by decide, (by first | omega | assumption)⟩
  by_cases c37 : x0.toInt = 116
  · refine iv_tabIn (M := mX12_factOf) (X := 116) (off := 127) (tgt := 128) dX12_factOf_1 c37 (by decide) (by decide) (by decide) (by decide) ?_
    refine pv_iconst (M := mX12_factOf) (v := (-1)) dX12_factOf_128 129 rfl (by decide) ?_
    have z38 : ((-1) : Int32).toInt = (-1) := by decide
    exact pv_iret (M := mX12_factOf) dX12_factOf_129 rfl rfl ⟨_, rfl, rfl, by decide, by decide, (by first | omega | assumption)⟩
  by_cases c39 : x0.toInt = 117
  · refine iv_tabIn (M := mX12_factOf) (X := 117) (off := 127) (tgt := 128) dX12_factOf_1 c39 (by decide) (by decide) (by decide) (by decide) ?_
    refine pv_iconst (M := mX12_factOf) (v := (-1)) dX12_factOf_128 129 rfl (by decide) ?_
    have z40 : ((-1) : Int32).toInt = (-1) := by decide
    exact pv_iret (M := mX12_factOf) dX12_factOf_129 rfl rfl ⟨_, rfl, rfl, by decide, by decide, (by first | omega | assumption)⟩
  by_cases c41 : x0.toInt = 118
  · refine iv_tabIn (M := mX12_factOf) (X := 118) (off := 127) (tgt := 128) dX12_factOf_1 c41 (by decide) (by decide) (by decide) (by decide) ?_
    refine pv_iconst (M := mX12_factOf) (v := (-1)) dX12_factOf_128 129 rfl (by decide) ?_
    have z42 : ((-1) : Int32).toInt = (-1) := by decide
    exact pv_iret (M := mX12_factOf) dX12_factOf_129 rfl rfl ⟨_, rfl, rfl, by decide, by decide, (by first | omega | assumption)⟩
  by_cases c43 : x0.toInt = 119
  · refine iv_tabIn (M := mX12_factOf) (X := 119) (off := 107) (tgt := 108) dX12_factOf_1 c43 (by decide) (by decide) (by decide) (by decide) ?_
    refine pv_iconst (M := mX12_factOf) (v := 2) dX12_factOf_108 109 rfl (by decide) ?_
    have z44 : (2 : Int32).toInt = 2 := by decide
    exact pv_iret (M := mX12_factOf) dX12_factOf_109 rfl rfl ⟨_, rfl, rfl, by decide, by decide, (by first | omega | assumption)⟩
  refine pv_tableOut (M := mX12_factOf) (tgt := 128) dX12_factOf_1 (by omega) (by decide) ?_
  refine pv_iconst (M := mX12_factOf) (v := (-1)) dX12_factOf_128 129 rfl (by decide) ?_
  have z45 : ((-1) : Int32).toInt = (-1) := by decide
  exact pv_iret (M := mX12_factOf) dX12_factOf_129 rfl rfl ⟨_, rfl, rfl, by decide, by decide, (by first | omega | assumption)⟩

set_option maxHeartbeats 2000000 in
set_option maxRecDepth 20000 in
theorem s_X12_sumSign (g : pv_G) {T : List mv_T} {m : Nat → Nat → Int32} {n : Nat → Nat → Int64} {r : Nat → Value} (hT : TX T) (I : IV BB m) (x0 : Int32) : PM g mX12_sumSign yX12_sumSign (sqP (mk T m n r) (-1) 6 (fun v => v.toInt = -1 ∨ (2 ≤ v.toInt ∧ 0 ≤ x0.toInt))) 1 0 0 [.int x0] (mk T m n r) := by
  have Kp : fr (wl []) m m := fr.rf
  refine PM.of 0 (lo := [.int x0]) rfl (by decide) rfl rfl (Nat.le_of_ble_eq_true rfl) ?_
  refine pv_iload_n (M := mX12_sumSign) 0 dX12_sumSign_0 1 rfl rfl rfl ?_
  refine pv_bipush (M := mX12_sumSign) (v := 43) dX12_sumSign_1 3 rfl (by decide) ?_
  refine pv_icmp_ne (M := mX12_sumSign) (tgt := 10) dX12_sumSign_3 6 rfl (by decide) (fun c1 => ?_) (fun c1 => ?_)
  · have c1 := iv_ne (X := x0.toInt) (Y := 43) c1 rfl (by decide)
    refine pv_iload_n (M := mX12_sumSign) 0 dX12_sumSign_10 11 rfl rfl rfl ?_
    refine pv_bipush (M := mX12_sumSign) (v := 45) dX12_sumSign_11 13 rfl (by decide) ?_
    refine pv_icmp_ne (M := mX12_sumSign) (tgt := 20) dX12_sumSign_13 16 rfl (by decide) (fun c2 => ?_) (fun c2 => ?_)
    · have c2 := iv_ne (X := x0.toInt) (Y := 45) c2 rfl (by decide)
      refine pv_iload_n (M := mX12_sumSign) 0 dX12_sumSign_20 21 rfl rfl rfl ?_
      refine pv_bipush (M := mX12_sumSign) (v := 42) dX12_sumSign_21 23 rfl (by decide) ?_
      refine pv_icmp_ne (M := mX12_sumSign) (tgt := 30) dX12_sumSign_23 26 rfl (by decide) (fun c3 => ?_) (fun c3 => ?_)
      · have c3 := iv_ne (X := x0.toInt) (Y := 42) c3 rfl (by decide)
        refine pv_iload_n (M := mX12_sumSign) 0 dX12_sumSign_30 31 rfl rfl rfl ?_
        refine pv_bipush (M := mX12_sumSign) (v := 47) dX12_sumSign_31 33 rfl (by decide) ?_
        refine pv_icmp_ne (M := mX12_sumSign) (tgt := 40) dX12_sumSign_33 36 rfl (by decide) (fun c4 => ?_) (fun c4 => ?_)
        · have c4 := iv_ne (X := x0.toInt) (Y := 47) c4 rfl (by decide)
          refine pv_iload_n (M := mX12_sumSign) 0 dX12_sumSign_40 41 rfl rfl rfl ?_
          refine pv_bipush (M := mX12_sumSign) (v := 37) dX12_sumSign_41 43 rfl (by decide) ?_
          refine pv_icmp_ne (M := mX12_sumSign) (tgt := 51) dX12_sumSign_43 46 rfl (by decide) (fun c5 => ?_) (fun c5 => ?_)
          · have c5 := iv_ne (X := x0.toInt) (Y := 37) c5 rfl (by decide)
            refine pv_iconst (M := mX12_sumSign) (v := (-1)) dX12_sumSign_51 52 rfl (by decide) ?_
            have z6 : ((-1) : Int32).toInt = (-1) := by decide
            exact pv_iret (M := mX12_sumSign) dX12_sumSign_52 rfl rfl ⟨_, rfl, rfl, by decide, by decide, (by first | omega | assumption)⟩
          · have c5 := iv_eq (X := x0.toInt) (Y := 37) c5 rfl (by decide)
            refine pv_bipush (M := mX12_sumSign) (v := 6) dX12_sumSign_46 48 rfl (by decide) ?_
            refine pv_goto (M := mX12_sumSign) (tgt := 52) dX12_sumSign_48 (by decide) ?_
            have z7 : (6 : Int32).toInt = 6 := by decide
            exact pv_iret (M := mX12_sumSign) dX12_sumSign_52 rfl rfl ⟨_, rfl, rfl, by decide, by decide, (by first | omega | assumption)⟩
        · have c4 := iv_eq (X := x0.toInt) (Y := 47) c4 rfl (by decide)
          refine pv_iconst (M := mX12_sumSign) (v := 5) dX12_sumSign_36 37 rfl (by decide) ?_
          refine pv_goto (M := mX12_sumSign) (tgt := 52) dX12_sumSign_37 (by decide) ?_
          have z8 : (5 : Int32).toInt = 5 := by decide
          exact pv_iret (M := mX12_sumSign) dX12_sumSign_52 rfl rfl ⟨_, rfl, rfl, by decide, by decide, (by first | omega | assumption)⟩
      · have c3 := iv_eq (X := x0.toInt) (Y := 42) c3 rfl (by decide)
        refine pv_iconst (M := mX12_sumSign) (v := 4) dX12_sumSign_26 27 rfl (by decide) ?_
        refine pv_goto (M := mX12_sumSign) (tgt := 52) dX12_sumSign_27 (by decide) ?_
        have z9 : (4 : Int32).toInt = 4 := by decide
        exact pv_iret (M := mX12_sumSign) dX12_sumSign_52 rfl rfl ⟨_, rfl, rfl, by decide, by decide, (by first | omega | assumption)⟩
    · have c2 := iv_eq (X := x0.toInt) (Y := 45) c2 rfl (by decide)
      refine pv_iconst (M := mX12_sumSign) (v := 3) dX12_sumSign_16 17 rfl (by decide) ?_
      refine pv_goto (M := mX12_sumSign) (tgt := 52) dX12_sumSign_17 (by decide) ?_
      have z10 : (3 : Int32).toInt = 3 := by decide
      exact pv_iret (M := mX12_sumSign) dX12_sumSign_52 rfl rfl ⟨_, rfl, rfl, by decide, by decide, (by first | omega | assumption)⟩
  · have c1 := iv_eq (X := x0.toInt) (Y := 43) c1 rfl (by decide)
    refine pv_iconst (M := mX12_sumSign) (v := 2) dX12_sumSign_6 7 rfl (by decide) ?_
    refine pv_goto (M := mX12_sumSign) (tgt := 52) dX12_sumSign_7 (by decide) ?_
    have z11 : (2 : Int32).toInt = 2 := by decide
    exact pv_iret (M := mX12_sumSign) dX12_sumSign_52 rfl rfl ⟨_, rfl, rfl, by decide, by decide, (by first | omega | assumption)⟩

set_option maxHeartbeats 2000000 in
set_option maxRecDepth 20000 in
theorem s_X12_notes (g : pv_G) {T : List mv_T} {m : Nat → Nat → Int32} {n : Nat → Nat → Int64} {r : Nat → Value} (hT : TX T) (I : IV BB m) (x0 : Int32) (hl0 : 0 ≤ x0.toInt) (hh0 : x0.toInt ≤ 12) (x1 : Int32) (hl1 : 0 ≤ x1.toInt) (hh1 : x1.toInt ≤ 1048575) (hp0 : (m 123 16).toInt ≤ 179) : PM g mX12_notes yX12_notes (sqV T BB (wl [(123, 123, some 16), (130, 130, none)]) r m (fun m' => NOTE x0.toInt x1.toInt m m')) 1 0 0 [.ref 123, .int x0, .int x1] (mk T m n r) := by
  have Kp : fr (wl [(123, 123, some 16), (130, 130, none)]) m m := fr.rf
  have z23 : 0 ≤ (m 123 12).toInt ∧ (m 123 12).toInt ≤ 160 := I 123 12
  have z24 : 0 ≤ (m 123 13).toInt ∧ (m 123 13).toInt ≤ 160 := I 123 13
  have z25 : 0 ≤ (m 123 16).toInt ∧ (m 123 16).toInt ≤ 180 := I 123 16
  have z26 : 0 ≤ (m 123 17).toInt ∧ (m 123 17).toInt ≤ 180 := I 123 17
  refine PM.of 0 (lo := [.ref 123, .int x0, .int x1]) rfl (by decide) rfl rfl (Nat.le_of_ble_eq_true rfl) ?_
  refine pv_aload_n (M := mX12_notes) 0 dX12_notes_0 1 rfl rfl rfl ?_
  refine mv_get (M := mX12_notes) (v := .ref 130) dX12_notes_1 FX12 21 wd1194 (by decide) (tl123 hT) rfl rfl 4 rfl ?_
  refine pv_aload_n (M := mX12_notes) 0 dX12_notes_4 5 rfl rfl rfl ?_
  refine iv_get (M := mX12_notes) (l1 := 0) (l2 := 180) dX12_notes_5 FX12 16 wd1189 (by decide) (tl123 hT) rfl I rfl 8 rfl (fun v1 ev1 pv1 qv1 => ?_)
  have wv1 : v1.toInt = (m 123 16).toInt := congrArg Int32.toInt ev1
  refine pv_ldc (M := mX12_notes) (v := 1048576) dX12_notes_8 10 rfl wd1437 ?_
  refine pv_iload_n (M := mX12_notes) 1 dX12_notes_10 11 rfl rfl rfl ?_
  refine iv_imul (M := mX12_notes) (X := 1048576) (Y := x0.toInt) dX12_notes_11 12 rfl (by decide) rfl (by omega) (by omega) (fun v2 ev2 => ?_)
  refine pv_iload_n (M := mX12_notes) 2 dX12_notes_12 13 rfl rfl rfl ?_
  refine iv_iadd (M := mX12_notes) (X := v2.toInt) (Y := x1.toInt) dX12_notes_13 14 rfl rfl rfl (by omega) (by omega) (fun v3 ev3 => ?_)
  refine iv_iast (M := mX12_notes) (X := v1.toInt) (l1 := 0) (l2 := 13631487) dX12_notes_14 (tl130 hT) rfl (by omega) (by omega) I (fun _ => rfl) (by omega) (by omega) 15 rfl (fun m4 e7 I5 => ?_)
  have K6 := Kp.set e7 rfl
  have w8 : (m4 123 12).toInt = (m 123 12).toInt := by rw [e7, up2_ne (by omega)]
  have w9 : (m4 123 13).toInt = (m 123 13).toInt := by rw [e7, up2_ne (by omega)]
  have w10 : (m4 123 16).toInt = (m 123 16).toInt := by rw [e7, up2_ne (by omega)]
  have w11 : (m4 123 17).toInt = (m 123 17).toInt := by rw [e7, up2_ne (by omega)]
  have k15 := (e7).trans (up2_ix (j := (m 123 16).toInt.toNat) (by omega))
  refine pv_aload_n (M := mX12_notes) 0 dX12_notes_15 16 rfl rfl rfl ?_
  refine pv_aload_n (M := mX12_notes) 0 dX12_notes_16 17 rfl rfl rfl ?_
  refine iv_get (M := mX12_notes) (l1 := 0) (l2 := 180) dX12_notes_17 FX12 16 wd1189 (by decide) (tl123 hT) rfl I5 rfl 20 rfl (fun v13 ev13 pv13 qv13 => ?_)
  have wv13 : v13.toInt = (m4 123 16).toInt := congrArg Int32.toInt ev13
  refine pv_iconst (M := mX12_notes) (v := 1) dX12_notes_20 21 rfl (by decide) ?_
  refine iv_iadd (M := mX12_notes) (X := v13.toInt) (Y := 1) dX12_notes_21 22 rfl rfl (by decide) (by omega) (by omega) (fun v14 ev14 => ?_)
  refine iv_put (M := mX12_notes) (l1 := 0) (l2 := 180) dX12_notes_22 FX12 16 wd1189 (by decide) rfl (tl123 hT) rfl rfl rfl I5 rfl (by omega) (by omega) 25 rfl (fun m15 e18 I16 => ?_)
  have K17 := K6.set e18 rfl
  have w19 : (m15 123 12).toInt = (m4 123 12).toInt := by rw [e18, up2_ne (by omega)]
  have w20 : (m15 123 13).toInt = (m4 123 13).toInt := by rw [e18, up2_ne (by omega)]
  have w21 : (m15 123 16).toInt = v14.toInt := by rw [e18, up2_eq]
  have w22 : (m15 123 17).toInt = (m4 123 17).toInt := by rw [e18, up2_ne (by omega)]
  exact pv_vret (M := mX12_notes) dX12_notes_25 rfl ⟨_, _, rfl, rfl, I16, K17, ⟨_, _, (e18).trans (congrArg (fun q => up2 q 123 16 _) k15), by omega, by omega⟩⟩

set_option maxHeartbeats 2000000 in
set_option maxRecDepth 20000 in
theorem s_X12_opens (g : pv_G) {T : List mv_T} {m : Nat → Nat → Int32} {n : Nat → Nat → Int64} {r : Nat → Value} (hT : TX T) (I : IV BB m) (x0 : Int32) (hl0 : 10 ≤ x0.toInt) (hh0 : x0.toInt ≤ 14) (hp0 : (m 123 12).toInt < (m 123 13).toInt) (hp1 : (m 123 17).toInt ≤ 179) : PM g mX12_opens yX12_opens (sqI T BB (wl [(123, 123, some 12), (123, 123, some 14), (123, 123, some 15), (123, 123, some 17), (131, 131, none)]) r m 0 1 (fun m' v => (v.toInt = 0 ∧ (m' 123 12).toInt = (m 123 12).toInt) ∨ (v.toInt = 1 ∧ ∃ o u w z : Int32, m' = up2 (up2 (up2 (up2 m 123 15 o) 131 (m 123 17).toInt.toNat u) 123 17 w) 123 12 z ∧ u.toInt = 1048576 * x0.toInt ∧ w.toInt = (m 123 17).toInt + 1 ∧ z.toInt = (m 123 12).toInt + 1))) 2 0 0 [.ref 123, .int x0] (mk T m n r) := by
  have Kp : fr (wl [(123, 123, some 12), (123, 123, some 14), (123, 123, some 15), (123, 123, some 17), (131, 131, none)]) m m := fr.rf
  have z56 : 0 ≤ (m 123 12).toInt ∧ (m 123 12).toInt ≤ 160 := I 123 12
  have z57 : 0 ≤ (m 123 13).toInt ∧ (m 123 13).toInt ≤ 160 := I 123 13
  have z58 : 0 ≤ (m 123 16).toInt ∧ (m 123 16).toInt ≤ 180 := I 123 16
  have z59 : 0 ≤ (m 123 17).toInt ∧ (m 123 17).toInt ≤ 180 := I 123 17
  refine PM.of 0 (lo := [.ref 123, .int x0]) rfl (by decide) rfl rfl (Nat.le_of_ble_eq_true rfl) ?_
  refine pv_aload_n (M := mX12_opens) 0 dX12_opens_0 1 rfl rfl rfl ?_
  refine iv_get (M := mX12_opens) (l1 := (-2147483648)) (l2 := 2147483647) dX12_opens_1 FX12 15 wd1188 (by decide) (tl123 hT) rfl I rfl 4 rfl (fun v1 ev1 pv1 qv1 => ?_)
  refine pv_bipush (M := mX12_opens) (v := 6) dX12_opens_4 6 rfl (by decide) ?_
  refine pv_icmp_ne (M := mX12_opens) (tgt := 19) dX12_opens_6 9 rfl (by decide) (fun c2 => ?_) (fun c2 => ?_)
  · have c2 := iv_ne (X := v1.toInt) (Y := 6) c2 rfl (by decide)
    refine pv_aload_n (M := mX12_opens) 0 dX12_opens_19 20 rfl rfl rfl ?_
    refine pv_aload_n (M := mX12_opens) 0 dX12_opens_20 21 rfl rfl rfl ?_
    refine iv_get (M := mX12_opens) (l1 := (-2147483648)) (l2 := 2147483647) dX12_opens_21 FX12 15 wd1188 (by decide) (tl123 hT) rfl I rfl 24 rfl (fun v3 ev3 pv3 qv3 => ?_)
    refine pv_iconst (M := mX12_opens) (v := 1) dX12_opens_24 25 rfl (by decide) ?_
    refine iv_addU (M := mX12_opens) dX12_opens_25 26 rfl (fun v4 ev4 => ?_)
    refine iv_put (M := mX12_opens) (l1 := (-2147483648)) (l2 := 2147483647) dX12_opens_26 FX12 15 wd1188 (by decide) rfl (tl123 hT) rfl rfl rfl I rfl (iv_rng v4).1 (iv_rng v4).2 29 rfl (fun m5 e8 I6 => ?_)
    have K7 := Kp.set e8 rfl
    have w9 : (m5 123 12).toInt = (m 123 12).toInt := by rw [e8, up2_ne (by omega)]
    have w10 : (m5 123 13).toInt = (m 123 13).toInt := by rw [e8, up2_ne (by omega)]
    have w11 : (m5 123 16).toInt = (m 123 16).toInt := by rw [e8, up2_ne (by omega)]
    have w12 : (m5 123 17).toInt = (m 123 17).toInt := by rw [e8, up2_ne (by omega)]
    refine pv_aload_n (M := mX12_opens) 0 dX12_opens_29 30 rfl rfl rfl ?_
    refine mv_get (M := mX12_opens) (v := .ref 131) dX12_opens_30 FX12 22 wd1195 (by decide) (tl123 hT) rfl rfl 33 rfl ?_
    refine pv_aload_n (M := mX12_opens) 0 dX12_opens_33 34 rfl rfl rfl ?_
    refine iv_get (M := mX12_opens) (l1 := 0) (l2 := 180) dX12_opens_34 FX12 17 wd1190 (by decide) (tl123 hT) rfl I6 rfl 37 rfl (fun v13 ev13 pv13 qv13 => ?_)
    have wv13 : v13.toInt = (m5 123 17).toInt := congrArg Int32.toInt ev13
    refine pv_ldc (M := mX12_opens) (v := 1048576) dX12_opens_37 39 rfl wd1437 ?_
    refine pv_iload_n (M := mX12_opens) 1 dX12_opens_39 40 rfl rfl rfl ?_
    refine iv_imul (M := mX12_opens) (X := 1048576) (Y := x0.toInt) dX12_opens_40 41 rfl (by decide) rfl (by omega) (by omega) (fun v14 ev14 => ?_)
    refine iv_iast (M := mX12_opens) (X := v13.toInt) (l1 := 0) (l2 := 15728639) dX12_opens_41 (tl131 hT) rfl (by omega) (by omega) I6 (fun _ => rfl) (by omega) (by omega) 42 rfl (fun m15 e18 I16 => ?_)
    have K17 := K7.set e18 rfl
    have w19 : (m15 123 12).toInt = (m5 123 12).toInt := by rw [e18, up2_ne (by omega)]
    have w20 : (m15 123 13).toInt = (m5 123 13).toInt := by rw [e18, up2_ne (by omega)]
    have w21 : (m15 123 16).toInt = (m5 123 16).toInt := by rw [e18, up2_ne (by omega)]
    have w22 : (m15 123 17).toInt = (m5 123 17).toInt := by rw [e18, up2_ne (by omega)]
    have k42 := (e18).trans (up2_ix (j := (m 123 17).toInt.toNat) (by omega))
    refine pv_aload_n (M := mX12_opens) 0 dX12_opens_42 43 rfl rfl rfl ?_
    refine pv_aload_n (M := mX12_opens) 0 dX12_opens_43 44 rfl rfl rfl ?_
    refine iv_get (M := mX12_opens) (l1 := 0) (l2 := 180) dX12_opens_44 FX12 17 wd1190 (by decide) (tl123 hT) rfl I16 rfl 47 rfl (fun v24 ev24 pv24 qv24 => ?_)
    have wv24 : v24.toInt = (m15 123 17).toInt := congrArg Int32.toInt ev24
    refine pv_iconst (M := mX12_opens) (v := 1) dX12_opens_47 48 rfl (by decide) ?_
    refine iv_iadd (M := mX12_opens) (X := v24.toInt) (Y := 1) dX12_opens_48 49 rfl rfl (by decide) (by omega) (by omega) (fun v25 ev25 => ?_)
    refine iv_put (M := mX12_opens) (l1 := 0) (l2 := 180) dX12_opens_49 FX12 17 wd1190 (by decide) rfl (tl123 hT) rfl rfl rfl I16 rfl (by omega) (by omega) 52 rfl (fun m26 e29 I27 => ?_)
    have K28 := K17.set e29 rfl
    have w30 : (m26 123 12).toInt = (m15 123 12).toInt := by rw [e29, up2_ne (by omega)]
    have w31 : (m26 123 13).toInt = (m15 123 13).toInt := by rw [e29, up2_ne (by omega)]
    have w32 : (m26 123 16).toInt = (m15 123 16).toInt := by rw [e29, up2_ne (by omega)]
    have w33 : (m26 123 17).toInt = v25.toInt := by rw [e29, up2_eq]
    refine pv_aload_n (M := mX12_opens) 0 dX12_opens_52 53 rfl rfl rfl ?_
    refine pv_aload_n (M := mX12_opens) 0 dX12_opens_53 54 rfl rfl rfl ?_
    refine iv_get (M := mX12_opens) (l1 := 0) (l2 := 160) dX12_opens_54 FX12 12 wd1185 (by decide) (tl123 hT) rfl I27 rfl 57 rfl (fun v34 ev34 pv34 qv34 => ?_)
    have wv34 : v34.toInt = (m26 123 12).toInt := congrArg Int32.toInt ev34
    refine pv_iconst (M := mX12_opens) (v := 1) dX12_opens_57 58 rfl (by decide) ?_
    refine iv_iadd (M := mX12_opens) (X := v34.toInt) (Y := 1) dX12_opens_58 59 rfl rfl (by decide) (by omega) (by omega) (fun v35 ev35 => ?_)
    refine iv_put (M := mX12_opens) (l1 := 0) (l2 := 160) dX12_opens_59 FX12 12 wd1185 (by decide) rfl (tl123 hT) rfl rfl rfl I27 rfl (by omega) (by omega) 62 rfl (fun m36 e39 I37 => ?_)
    have K38 := K28.set e39 rfl
    have w40 : (m36 123 12).toInt = v35.toInt := by rw [e39, up2_eq]
    have w41 : (m36 123 13).toInt = (m26 123 13).toInt := by rw [e39, up2_ne (by omega)]
    have w42 : (m36 123 16).toInt = (m26 123 16).toInt := by rw [e39, up2_ne (by omega)]
    have w43 : (m36 123 17).toInt = (m26 123 17).toInt := by rw [e39, up2_ne (by omega)]
    refine pv_iconst (M := mX12_opens) (v := 1) dX12_opens_62 63 rfl (by decide) ?_
    have z44 : (1 : Int32).toInt = 1 := by decide
    exact pv_iret (M := mX12_opens) dX12_opens_63 rfl rfl ⟨_, _, _, rfl, rfl, I37, K38, by decide, by decide, (Or.inr ⟨by decide, _, _, _, _, (e39).trans (congrArg (fun q => up2 q 123 12 _) ((e29).trans (congrArg (fun q => up2 q 123 17 _) (k42.trans (congrArg (fun q => up2 q 131 _ _) e8))))), by omega, by omega, by omega⟩)⟩
  · have c2 := iv_eq (X := v1.toInt) (Y := 6) c2 rfl (by decide)
    refine pv_aload_n (M := mX12_opens) 0 dX12_opens_9 10 rfl rfl rfl ?_
    refine pv_iconst (M := mX12_opens) (v := 5) dX12_opens_10 11 rfl (by decide) ?_
    refine pv_aload_n (M := mX12_opens) 0 dX12_opens_11 12 rfl rfl rfl ?_
    refine iv_get (M := mX12_opens) (l1 := 0) (l2 := 160) dX12_opens_12 FX12 12 wd1185 (by decide) (tl123 hT) rfl I rfl 15 rfl (fun v45 ev45 pv45 qv45 => ?_)
    have wv45 : v45.toInt = (m 123 12).toInt := congrArg Int32.toInt ev45
    refine pv_callv (M := mX12_opens) (as := [.int 5, .int v45]) (st := []) (kc2 := 0) (ks2 := 0) dX12_opens_15 wd1421 YX12_wrongAt ⟨wd1423, wd61⟩ (mk_get (tl123 hT)) rfl rfl (s_X12_wrongAt g hT I 5 (by decide) (by decide) v45 (by omega) (by omega)) rfl rfl (Nat.le_of_ble_eq_true rfl) (by decide) rfl rfl 18 rfl (fun rv h1 q46 => ?_)
    obtain ⟨m47, n48, v51, rfl, rfl, I49, K50, pv51, qv51, rv51⟩ := q46
    have K50c := K50
    have w52 : (m47 123 12).toInt = (m 123 12).toInt := congrArg Int32.toInt (K50 123 12 rfl)
    have w53 : (m47 123 13).toInt = (m 123 13).toInt := congrArg Int32.toInt (K50 123 13 rfl)
    have w54 : (m47 123 16).toInt = (m 123 16).toInt := congrArg Int32.toInt (K50 123 16 rfl)
    have w55 : (m47 123 17).toInt = (m 123 17).toInt := congrArg Int32.toInt (K50 123 17 rfl)
    have K50 := Kp.trans (K50.sub (wl_sub (by decide)))
    show PV _ _ _ _ _ _ _ 18 [.ref 123, .int x0] [.int v51] _
    exact pv_iret (M := mX12_opens) dX12_opens_18 rfl (iv_nz (by omega) (by omega)) ⟨_, _, _, rfl, rfl, I49, K50, by omega, by omega, (Or.inl ⟨by omega, by omega⟩)⟩

set_option maxHeartbeats 2000000 in
set_option maxRecDepth 20000 in
theorem s_X12_top (g : pv_G) {T : List mv_T} {m : Nat → Nat → Int32} {n : Nat → Nat → Int64} {r : Nat → Value} (hT : TX T) (I : IV BB m) : PM g mX12_top yX12_top (sqP (mk T m n r) (-1) 14 (fun v => (v.toInt = -1 ∧ (m 123 17).toInt = 0) ∨ (1 ≤ (m 123 17).toInt ∧ v.toInt = opv (m 131 ((m 123 17).toInt - 1).toNat)))) 1 0 0 [.ref 123] (mk T m n r) := by
  have Kp : fr (wl []) m m := fr.rf
  have z9 : 0 ≤ (m 123 12).toInt ∧ (m 123 12).toInt ≤ 160 := I 123 12
  have z10 : 0 ≤ (m 123 13).toInt ∧ (m 123 13).toInt ≤ 160 := I 123 13
  have z11 : 0 ≤ (m 123 16).toInt ∧ (m 123 16).toInt ≤ 180 := I 123 16
  have z12 : 0 ≤ (m 123 17).toInt ∧ (m 123 17).toInt ≤ 180 := I 123 17
  refine PM.of 0 (lo := [.ref 123]) rfl (by decide) rfl rfl (Nat.le_of_ble_eq_true rfl) ?_
  refine pv_aload_n (M := mX12_top) 0 dX12_top_0 1 rfl rfl rfl ?_
  refine iv_get (M := mX12_top) (l1 := 0) (l2 := 180) dX12_top_1 FX12 17 wd1190 (by decide) (tl123 hT) rfl I rfl 4 rfl (fun v1 ev1 pv1 qv1 => ?_)
  have wv1 : v1.toInt = (m 123 17).toInt := congrArg Int32.toInt ev1
  refine pv_if_ne (M := mX12_top) (tgt := 11) dX12_top_4 7 rfl (by decide) (fun c2 => ?_) (fun c2 => ?_)
  · have c2 := iv_ne (X := v1.toInt) (Y := 0) c2 rfl (by decide)
    refine pv_aload_n (M := mX12_top) 0 dX12_top_11 12 rfl rfl rfl ?_
    refine mv_get (M := mX12_top) (v := .ref 131) dX12_top_12 FX12 22 wd1195 (by decide) (tl123 hT) rfl rfl 15 rfl ?_
    refine pv_aload_n (M := mX12_top) 0 dX12_top_15 16 rfl rfl rfl ?_
    refine iv_get (M := mX12_top) (l1 := 0) (l2 := 180) dX12_top_16 FX12 17 wd1190 (by decide) (tl123 hT) rfl I rfl 19 rfl (fun v3 ev3 pv3 qv3 => ?_)
    have wv3 : v3.toInt = (m 123 17).toInt := congrArg Int32.toInt ev3
    refine pv_iconst (M := mX12_top) (v := 1) dX12_top_19 20 rfl (by decide) ?_
    refine iv_isub (M := mX12_top) (X := v3.toInt) (Y := 1) dX12_top_20 21 rfl rfl (by decide) (by omega) (by omega) (fun v4 ev4 => ?_)
    refine iv_iald (M := mX12_top) (X := v4.toInt) (l1 := 0) (l2 := 15728639) dX12_top_21 (tl131 hT) rfl (by omega) (by omega) I (fun _ => rfl) 22 rfl (fun v5 ev5 pv5 qv5 => ?_)
    have k22 : v5.toInt = (m 131 ((m 123 17).toInt - 1).toNat).toInt := (congrArg Int32.toInt ev5).trans (congrArg (fun z => (m 131 z).toInt) (by omega))
    refine pv_ldc (M := mX12_top) (v := 1048576) dX12_top_22 24 rfl wd1437 ?_
    refine iv_idiv (M := mX12_top) (X := v5.toInt) (Y := 1048576) dX12_top_24 25 rfl rfl (by decide) (by omega) (by omega) (fun v7 ev7 => ?_)
    exact pv_iret (M := mX12_top) dX12_top_25 rfl rfl ⟨_, rfl, rfl, by omega, by omega, (Or.inr ⟨by omega, by unfold opv; omega⟩)⟩
  · have c2 := iv_eq (X := v1.toInt) (Y := 0) c2 rfl (by decide)
    refine pv_iconst (M := mX12_top) (v := (-1)) dX12_top_7 8 rfl (by decide) ?_
    refine pv_goto (M := mX12_top) (tgt := 25) dX12_top_8 (by decide) ?_
    have z8 : ((-1) : Int32).toInt = (-1) := by decide
    exact pv_iret (M := mX12_top) dX12_top_25 rfl rfl ⟨_, rfl, rfl, by decide, by decide, (Or.inl ⟨by decide, by omega⟩)⟩
