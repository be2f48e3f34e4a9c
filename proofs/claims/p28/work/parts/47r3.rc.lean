set_option maxHeartbeats 2000000 in
set_option maxRecDepth 20000 in
theorem s_J0_coder_7d493_vx (g : pv_G) {T : List mv_T} {m : Nat → Nat → Int32} {n : Nat → Nat → Int64} {r : Nat → Value} (hT : TX T) (I : IV BB m) : PM g mJ0_coder_7d493 yJ0_coder_7d493 (sqP (mk T m n r) 0 0 (fun v => True)) 1 0 0 [.retAddr (g.2.2.1 6 + 1)] (mk T m n r) := by
  have Kp : fr (wl []) m m := fr.rf
  refine PM.of 0 (lo := [.retAddr (g.2.2.1 6 + 1)]) rfl (by decide) rfl rfl (Nat.le_of_ble_eq_true rfl) ?_
  refine pv_gets (M := mJ0_coder_7d493) (v := 1) dJ0_coder_7d493_0 wd584 3 rfl ?_
  refine pv_if_eq (M := mJ0_coder_7d493) (tgt := 13) dJ0_coder_7d493_3 6 rfl (by decide) (fun q => absurd q (by decide)) (fun _ => ?_)
  refine pv_aloadS_n (M := mJ0_coder_7d493) 0 dJ0_coder_7d493_6 7 rfl rfl rfl ?_
  refine pv_getC (M := mJ0_coder_7d493) dJ0_coder_7d493_7 wd1799 10 rfl ?_
  refine pv_goto (M := mJ0_coder_7d493) (tgt := 14) dJ0_coder_7d493_10 (by decide) ?_
  exact pv_iret (M := mJ0_coder_7d493) dJ0_coder_7d493_14 rfl rfl ⟨_, rfl, rfl, by decide, by decide, trivial⟩

set_option maxHeartbeats 2000000 in
set_option maxRecDepth 20000 in
theorem s_J0_length_8abf5_vx (g : pv_G) {T : List mv_T} {m : Nat → Nat → Int32} {n : Nat → Nat → Int64} {r : Nat → Value} (hT : TX T) (I : IV BB m) : PM g mJ0_length_8abf5 yJ0_length_8abf5 (sqP (mk T m n r) 10 10 (fun v => True)) 2 0 0 [.retAddr (g.2.2.1 6 + 1)] (mk T m n r) := by
  have Kp : fr (wl []) m m := fr.rf
  refine PM.of 0 (lo := [.retAddr (g.2.2.1 6 + 1)]) rfl (by decide) rfl rfl (Nat.le_of_ble_eq_true rfl) ?_
  refine pv_aloadS_n (M := mJ0_length_8abf5) 0 dJ0_length_8abf5_0 1 rfl rfl rfl ?_
  refine pv_getV (M := mJ0_length_8abf5) dJ0_length_8abf5_1 wd1800 4 rfl ?_
  refine pv_strlen (M := mJ0_length_8abf5) dJ0_length_8abf5_4 5 rfl ?_
  refine pv_aloadS_n (M := mJ0_length_8abf5) 0 dJ0_length_8abf5_5 6 rfl rfl rfl ?_
  refine pv_callvS (M := mJ0_length_8abf5) (as := []) (st := [.int 10]) (kc2 := 0) (ks2 := 0) dJ0_length_8abf5_6 wd590 YJ0_coder_7d493 ⟨wd591, wd592⟩ rfl (s_J0_coder_7d493_vx g hT I) rfl rfl (Nat.le_of_ble_eq_true rfl) (by decide) rfl rfl 9 rfl (fun rv h1 q2 => ?_)
  obtain ⟨v3, rfl, rfl, pv3, qv3, rv3⟩ := q2
  show PV _ _ _ _ _ _ _ 9 [.retAddr (g.2.2.1 6 + 1)] [.int v3, .int 10] _
  have kc : v3 = 0 := Int32.toInt_inj.mp (by rw [Int32.toInt_zero]; omega)
  refine iv_shrU (M := mJ0_length_8abf5) dJ0_length_8abf5_9 10 rfl (fun v5 ev5 => ?_)
  have k10 : v5.toInt = 10 := by rw [ev5, kc]; decide
  exact pv_iret (M := mJ0_length_8abf5) dJ0_length_8abf5_10 rfl rfl ⟨_, rfl, rfl, by omega, by omega, trivial⟩

set_option maxHeartbeats 2000000 in
set_option maxRecDepth 20000 in
theorem s_X6_clear_vx (g : pv_G) {T : List mv_T} {m : Nat → Nat → Int32} {n : Nat → Nat → Int64} {r : Nat → Value} (hT : TX T) (I : IV BB m) (aT : Nat) (haT : LawAt T aT) : PM g mX6_clear yX6_clear (sqV T BB (wl [(aT, (aT + 8), none)]) r m (fun m' => (m' aT 7).toInt = 0)) 1 0 0 [.ref aT] (mk T m n r) := by
  have Kp : fr (wl [(aT, (aT + 8), none)]) m m := fr.rf
  have zwT := haT.1
  refine PM.of 0 (lo := [.ref aT]) rfl (by decide) rfl rfl (Nat.le_of_ble_eq_true rfl) ?_
  refine pv_aload_n (M := mX6_clear) 0 dX6_clear_0 1 rfl rfl rfl ?_
  refine pv_iconst (M := mX6_clear) (v := 0) dX6_clear_1 2 rfl (by decide) ?_
  refine iv_put (M := mX6_clear) (l1 := 0) (l2 := 160) dX6_clear_2 FX6 2 wd235 (by decide) rfl haT.2.1 rfl rfl rfl I (law_b2 haT) (by decide) (by decide) 5 rfl (fun m1 e4 I2 => ?_)
  have K3 := Kp.set e4 (wl_r (by omega) (by omega))
  have w5 : (m1 aT 2).toInt = 0 := by rw [e4, up2_eq] <;> rfl
  have w6 : (m1 aT 7).toInt = (m aT 7).toInt := by rw [e4, up2_ne (by omega)]
  have w7 : (m1 aT 10).toInt = (m aT 10).toInt := by rw [e4, up2_ne (by omega)]
  refine pv_aload_n (M := mX6_clear) 0 dX6_clear_5 6 rfl rfl rfl ?_
  refine pv_iconst (M := mX6_clear) (v := 0) dX6_clear_6 7 rfl (by decide) ?_
  refine iv_put (M := mX6_clear) (l1 := 0) (l2 := 12) dX6_clear_7 FX6 7 wd240 (by decide) rfl haT.2.1 rfl rfl rfl I2 (law_b7 haT) (by decide) (by decide) 10 rfl (fun m8 e11 I9 => ?_)
  have K10 := K3.set e11 (wl_r (by omega) (by omega))
  have w12 : (m8 aT 2).toInt = (m1 aT 2).toInt := by rw [e11, up2_ne (by omega)]
  have w13 : (m8 aT 7).toInt = 0 := by rw [e11, up2_eq] <;> rfl
  have w14 : (m8 aT 10).toInt = (m1 aT 10).toInt := by rw [e11, up2_ne (by omega)]
  exact pv_vret (M := mX6_clear) dX6_clear_10 rfl ⟨_, _, rfl, rfl, I9, K10, (by omega)⟩

set_option maxHeartbeats 2000000 in
set_option maxRecDepth 20000 in
theorem s_X6_beginClause_vx (g : pv_G) {T : List mv_T} {m : Nat → Nat → Int32} {n : Nat → Nat → Int64} {r : Nat → Value} (hT : TX T) (I : IV BB m) (aT : Nat) (haT : LawAt T aT) (x0 : Int32) : PM g mX6_beginClause yX6_beginClause (sqV T BB (wl [(aT, (aT + 8), none)]) r m (fun m' => (m' aT 7).toInt = (m aT 7).toInt)) 1 0 0 [.ref aT, .int x0] (mk T m n r) := by
  have Kp : fr (wl [(aT, (aT + 8), none)]) m m := fr.rf
  have zwT := haT.1
  refine PM.of 0 (lo := [.ref aT, .int x0]) rfl (by decide) rfl rfl (Nat.le_of_ble_eq_true rfl) ?_
  refine pv_aload_n (M := mX6_beginClause) 0 dX6_beginClause_0 1 rfl rfl rfl ?_
  refine iv_get (M := mX6_beginClause) (l1 := 0) (l2 := 12) dX6_beginClause_1 FX6 7 wd240 (by decide) haT.2.1 rfl I (law_b7 haT) 4 rfl (fun v1 ev1 pv1 qv1 => ?_)
  have wv1 : v1.toInt = (m aT 7).toInt := congrArg Int32.toInt ev1
  refine pv_bipush (M := mX6_beginClause) (v := 12) dX6_beginClause_4 6 rfl (by decide) ?_
  refine pv_icmp_ge (M := mX6_beginClause) (tgt := 32) dX6_beginClause_6 9 rfl (by decide) (fun c2 => ?_) (fun c2 => ?_)
  · have c2 := iv_le (X := 12) (Y := v1.toInt) c2 (by decide) rfl
    exact pv_vret (M := mX6_beginClause) dX6_beginClause_32 rfl ⟨_, _, rfl, rfl, I, Kp, (by omega)⟩
  · have c2 := iv_nle (X := 12) (Y := v1.toInt) c2 (by decide) rfl
    refine pv_aload_n (M := mX6_beginClause) 0 dX6_beginClause_9 10 rfl rfl rfl ?_
    refine mv_get (M := mX6_beginClause) (v := .ref (aT + 3)) dX6_beginClause_10 FX6 3 wd236 (by decide) haT.2.1 rfl rfl 13 rfl ?_
    refine pv_aload_n (M := mX6_beginClause) 0 dX6_beginClause_13 14 rfl rfl rfl ?_
    refine iv_get (M := mX6_beginClause) (l1 := 0) (l2 := 12) dX6_beginClause_14 FX6 7 wd240 (by decide) haT.2.1 rfl I (law_b7 haT) 17 rfl (fun v3 ev3 pv3 qv3 => ?_)
    have wv3 : v3.toInt = (m aT 7).toInt := congrArg Int32.toInt ev3
    refine pv_iload_n (M := mX6_beginClause) 1 dX6_beginClause_17 18 rfl rfl rfl ?_
    refine iv_iast (M := mX6_beginClause) (X := v3.toInt) (l1 := (-2147483648)) (l2 := 2147483647) dX6_beginClause_18 (law_a3 haT) rfl (by omega) (by omega) I (law_c3 haT) (iv_rng x0).1 (iv_rng x0).2 19 rfl (fun m4 e7 I5 => ?_)
    have K6 := Kp.set e7 (wl_r (by omega) (by omega))
    have w8 : (m4 aT 2).toInt = (m aT 2).toInt := by rw [e7, up2_ne (by omega)]
    have w9 : (m4 aT 7).toInt = (m aT 7).toInt := by rw [e7, up2_ne (by omega)]
    have w10 : (m4 aT 10).toInt = (m aT 10).toInt := by rw [e7, up2_ne (by omega)]
    refine pv_aload_n (M := mX6_beginClause) 0 dX6_beginClause_19 20 rfl rfl rfl ?_
    refine mv_get (M := mX6_beginClause) (v := .ref (aT + 4)) dX6_beginClause_20 FX6 4 wd237 (by decide) haT.2.1 rfl rfl 23 rfl ?_
    refine pv_aload_n (M := mX6_beginClause) 0 dX6_beginClause_23 24 rfl rfl rfl ?_
    refine iv_get (M := mX6_beginClause) (l1 := 0) (l2 := 12) dX6_beginClause_24 FX6 7 wd240 (by decide) haT.2.1 rfl I5 (law_b7 haT) 27 rfl (fun v11 ev11 pv11 qv11 => ?_)
    have wv11 : v11.toInt = (m4 aT 7).toInt := congrArg Int32.toInt ev11
    refine pv_aload_n (M := mX6_beginClause) 0 dX6_beginClause_27 28 rfl rfl rfl ?_
    refine iv_get (M := mX6_beginClause) (l1 := 0) (l2 := 160) dX6_beginClause_28 FX6 2 wd235 (by decide) haT.2.1 rfl I5 (law_b2 haT) 31 rfl (fun v12 ev12 pv12 qv12 => ?_)
    have wv12 : v12.toInt = (m4 aT 2).toInt := congrArg Int32.toInt ev12
    refine iv_iast (M := mX6_beginClause) (X := v11.toInt) (l1 := 0) (l2 := 160) dX6_beginClause_31 (law_a4 haT) rfl (by omega) (by omega) I5 (law_c4 haT) (by omega) (by omega) 32 rfl (fun m13 e16 I14 => ?_)
    have K15 := K6.set e16 (wl_r (by omega) (by omega))
    have w17 : (m13 aT 2).toInt = (m4 aT 2).toInt := by rw [e16, up2_ne (by omega)]
    have w18 : (m13 aT 7).toInt = (m4 aT 7).toInt := by rw [e16, up2_ne (by omega)]
    have w19 : (m13 aT 10).toInt = (m4 aT 10).toInt := by rw [e16, up2_ne (by omega)]
    exact pv_vret (M := mX6_beginClause) dX6_beginClause_32 rfl ⟨_, _, rfl, rfl, I14, K15, (by omega)⟩

set_option maxHeartbeats 2000000 in
set_option maxRecDepth 20000 in
theorem s_X6_beginCondition_vx (g : pv_G) {T : List mv_T} {m : Nat → Nat → Int32} {n : Nat → Nat → Int64} {r : Nat → Value} (hT : TX T) (I : IV BB m) (aT : Nat) (haT : LawAt T aT) : PM g mX6_beginCondition yX6_beginCondition (sqV T BB (wl [(aT, (aT + 8), none)]) r m (fun m' => (m' aT 7).toInt = (m aT 7).toInt)) 1 0 0 [.ref aT] (mk T m n r) := by
  have Kp : fr (wl [(aT, (aT + 8), none)]) m m := fr.rf
  have zwT := haT.1
  refine PM.of 0 (lo := [.ref aT]) rfl (by decide) rfl rfl (Nat.le_of_ble_eq_true rfl) ?_
  refine pv_aload_n (M := mX6_beginCondition) 0 dX6_beginCondition_0 1 rfl rfl rfl ?_
  refine iv_get (M := mX6_beginCondition) (l1 := 0) (l2 := 12) dX6_beginCondition_1 FX6 7 wd240 (by decide) haT.2.1 rfl I (law_b7 haT) 4 rfl (fun v1 ev1 pv1 qv1 => ?_)
  have wv1 : v1.toInt = (m aT 7).toInt := congrArg Int32.toInt ev1
  refine pv_bipush (M := mX6_beginCondition) (v := 12) dX6_beginCondition_4 6 rfl (by decide) ?_
  refine pv_icmp_ge (M := mX6_beginCondition) (tgt := 22) dX6_beginCondition_6 9 rfl (by decide) (fun c2 => ?_) (fun c2 => ?_)
  · have c2 := iv_le (X := 12) (Y := v1.toInt) c2 (by decide) rfl
    exact pv_vret (M := mX6_beginCondition) dX6_beginCondition_22 rfl ⟨_, _, rfl, rfl, I, Kp, (by omega)⟩
  · have c2 := iv_nle (X := 12) (Y := v1.toInt) c2 (by decide) rfl
    refine pv_aload_n (M := mX6_beginCondition) 0 dX6_beginCondition_9 10 rfl rfl rfl ?_
    refine mv_get (M := mX6_beginCondition) (v := .ref (aT + 5)) dX6_beginCondition_10 FX6 5 wd238 (by decide) haT.2.1 rfl rfl 13 rfl ?_
    refine pv_aload_n (M := mX6_beginCondition) 0 dX6_beginCondition_13 14 rfl rfl rfl ?_
    refine iv_get (M := mX6_beginCondition) (l1 := 0) (l2 := 12) dX6_beginCondition_14 FX6 7 wd240 (by decide) haT.2.1 rfl I (law_b7 haT) 17 rfl (fun v3 ev3 pv3 qv3 => ?_)
    have wv3 : v3.toInt = (m aT 7).toInt := congrArg Int32.toInt ev3
    refine pv_aload_n (M := mX6_beginCondition) 0 dX6_beginCondition_17 18 rfl rfl rfl ?_
    refine iv_get (M := mX6_beginCondition) (l1 := 0) (l2 := 160) dX6_beginCondition_18 FX6 2 wd235 (by decide) haT.2.1 rfl I (law_b2 haT) 21 rfl (fun v4 ev4 pv4 qv4 => ?_)
    have wv4 : v4.toInt = (m aT 2).toInt := congrArg Int32.toInt ev4
    refine iv_iast (M := mX6_beginCondition) (X := v3.toInt) (l1 := 0) (l2 := 160) dX6_beginCondition_21 (law_a5 haT) rfl (by omega) (by omega) I (law_c5 haT) (by omega) (by omega) 22 rfl (fun m5 e8 I6 => ?_)
    have K7 := Kp.set e8 (wl_r (by omega) (by omega))
    have w9 : (m5 aT 2).toInt = (m aT 2).toInt := by rw [e8, up2_ne (by omega)]
    have w10 : (m5 aT 7).toInt = (m aT 7).toInt := by rw [e8, up2_ne (by omega)]
    have w11 : (m5 aT 10).toInt = (m aT 10).toInt := by rw [e8, up2_ne (by omega)]
    exact pv_vret (M := mX6_beginCondition) dX6_beginCondition_22 rfl ⟨_, _, rfl, rfl, I6, K7, (by omega)⟩

set_option maxHeartbeats 2000000 in
set_option maxRecDepth 20000 in
theorem s_X6_endClause_vx (g : pv_G) {T : List mv_T} {m : Nat → Nat → Int32} {n : Nat → Nat → Int64} {r : Nat → Value} (hT : TX T) (I : IV BB m) (aT : Nat) (haT : LawAt T aT) : PM g mX6_endClause yX6_endClause (sqV T BB (wl [(aT, (aT + 8), none)]) r m (fun m' => (m aT 7).toInt < 12 → (m' aT 7).toInt = (m aT 7).toInt + 1)) 1 0 0 [.ref aT] (mk T m n r) := by
  have Kp : fr (wl [(aT, (aT + 8), none)]) m m := fr.rf
  have zwT := haT.1
  refine PM.of 0 (lo := [.ref aT]) rfl (by decide) rfl rfl (Nat.le_of_ble_eq_true rfl) ?_
  refine pv_aload_n (M := mX6_endClause) 0 dX6_endClause_0 1 rfl rfl rfl ?_
  refine iv_get (M := mX6_endClause) (l1 := 0) (l2 := 12) dX6_endClause_1 FX6 7 wd240 (by decide) haT.2.1 rfl I (law_b7 haT) 4 rfl (fun v1 ev1 pv1 qv1 => ?_)
  have wv1 : v1.toInt = (m aT 7).toInt := congrArg Int32.toInt ev1
  refine pv_bipush (M := mX6_endClause) (v := 12) dX6_endClause_4 6 rfl (by decide) ?_
  refine pv_icmp_ge (M := mX6_endClause) (tgt := 32) dX6_endClause_6 9 rfl (by decide) (fun c2 => ?_) (fun c2 => ?_)
  · have c2 := iv_le (X := 12) (Y := v1.toInt) c2 (by decide) rfl
    exact pv_vret (M := mX6_endClause) dX6_endClause_32 rfl ⟨_, _, rfl, rfl, I, Kp, (fun q => by omega)⟩
  · have c2 := iv_nle (X := 12) (Y := v1.toInt) c2 (by decide) rfl
    refine pv_aload_n (M := mX6_endClause) 0 dX6_endClause_9 10 rfl rfl rfl ?_
    refine mv_get (M := mX6_endClause) (v := .ref (aT + 6)) dX6_endClause_10 FX6 6 wd239 (by decide) haT.2.1 rfl rfl 13 rfl ?_
    refine pv_aload_n (M := mX6_endClause) 0 dX6_endClause_13 14 rfl rfl rfl ?_
    refine iv_get (M := mX6_endClause) (l1 := 0) (l2 := 12) dX6_endClause_14 FX6 7 wd240 (by decide) haT.2.1 rfl I (law_b7 haT) 17 rfl (fun v3 ev3 pv3 qv3 => ?_)
    have wv3 : v3.toInt = (m aT 7).toInt := congrArg Int32.toInt ev3
    refine pv_aload_n (M := mX6_endClause) 0 dX6_endClause_17 18 rfl rfl rfl ?_
    refine iv_get (M := mX6_endClause) (l1 := 0) (l2 := 160) dX6_endClause_18 FX6 2 wd235 (by decide) haT.2.1 rfl I (law_b2 haT) 21 rfl (fun v4 ev4 pv4 qv4 => ?_)
    have wv4 : v4.toInt = (m aT 2).toInt := congrArg Int32.toInt ev4
    refine iv_iast (M := mX6_endClause) (X := v3.toInt) (l1 := 0) (l2 := 160) dX6_endClause_21 (law_a6 haT) rfl (by omega) (by omega) I (law_c6 haT) (by omega) (by omega) 22 rfl (fun m5 e8 I6 => ?_)
    have K7 := Kp.set e8 (wl_r (by omega) (by omega))
    have w9 : (m5 aT 2).toInt = (m aT 2).toInt := by rw [e8, up2_ne (by omega)]
    have w10 : (m5 aT 7).toInt = (m aT 7).toInt := by rw [e8, up2_ne (by omega)]
    have w11 : (m5 aT 10).toInt = (m aT 10).toInt := by rw [e8, up2_ne (by omega)]
    refine pv_aload_n (M := mX6_endClause) 0 dX6_endClause_22 23 rfl rfl rfl ?_
    refine pv_dup (M := mX6_endClause) dX6_endClause_23 24 rfl rfl ?_
    refine iv_get (M := mX6_endClause) (l1 := 0) (l2 := 12) dX6_endClause_24 FX6 7 wd240 (by decide) haT.2.1 rfl I6 (law_b7 haT) 27 rfl (fun v12 ev12 pv12 qv12 => ?_)
    have wv12 : v12.toInt = (m5 aT 7).toInt := congrArg Int32.toInt ev12
    refine pv_iconst (M := mX6_endClause) (v := 1) dX6_endClause_27 28 rfl (by decide) ?_
    refine iv_iadd (M := mX6_endClause) (X := v12.toInt) (Y := 1) dX6_endClause_28 29 rfl rfl (by decide) (by omega) (by omega) (fun v13 ev13 => ?_)
    refine iv_put (M := mX6_endClause) (l1 := 0) (l2 := 12) dX6_endClause_29 FX6 7 wd240 (by decide) rfl haT.2.1 rfl rfl rfl I6 (law_b7 haT) (by omega) (by omega) 32 rfl (fun m14 e17 I15 => ?_)
    have K16 := K7.set e17 (wl_r (by omega) (by omega))
    have w18 : (m14 aT 2).toInt = (m5 aT 2).toInt := by rw [e17, up2_ne (by omega)]
    have w19 : (m14 aT 7).toInt = v13.toInt := by rw [e17, up2_eq]
    have w20 : (m14 aT 10).toInt = (m5 aT 10).toInt := by rw [e17, up2_ne (by omega)]
    exact pv_vret (M := mX6_endClause) dX6_endClause_32 rfl ⟨_, _, rfl, rfl, I15, K16, (fun q => by omega)⟩

set_option maxHeartbeats 2000000 in
set_option maxRecDepth 20000 in
theorem s_X6_emit_vx (g : pv_G) {T : List mv_T} {m : Nat → Nat → Int32} {n : Nat → Nat → Int64} {r : Nat → Value} (hT : TX T) (I : IV BB m) (aT : Nat) (haT : LawAt T aT) (x0 : Int32) (x1 : Int32) (hl1 : -1 ≤ x1.toInt) (hh1 : x1.toInt ≤ 99999) : PM g mX6_emit yX6_emit (sqV T BB (wl [(aT, (aT + 8), none)]) r m (fun m' => (m' aT 7).toInt = (m aT 7).toInt)) 1 0 0 [.ref aT, .int x0, .int x1] (mk T m n r) := by
  have Kp : fr (wl [(aT, (aT + 8), none)]) m m := fr.rf
  have zwT := haT.1
  refine PM.of 0 (lo := [.ref aT, .int x0, .int x1]) rfl (by decide) rfl rfl (Nat.le_of_ble_eq_true rfl) ?_
  refine pv_aload_n (M := mX6_emit) 0 dX6_emit_0 1 rfl rfl rfl ?_
  refine iv_get (M := mX6_emit) (l1 := 0) (l2 := 160) dX6_emit_1 FX6 2 wd235 (by decide) haT.2.1 rfl I (law_b2 haT) 4 rfl (fun v1 ev1 pv1 qv1 => ?_)
  have wv1 : v1.toInt = (m aT 2).toInt := congrArg Int32.toInt ev1
  refine pv_sipush (M := mX6_emit) (v := 160) dX6_emit_4 7 rfl (by decide) ?_
  refine pv_icmp_ge (M := mX6_emit) (tgt := 40) dX6_emit_7 10 rfl (by decide) (fun c2 => ?_) (fun c2 => ?_)
  · have c2 := iv_le (X := 160) (Y := v1.toInt) c2 (by decide) rfl
    exact pv_vret (M := mX6_emit) dX6_emit_40 rfl ⟨_, _, rfl, rfl, I, Kp, (by omega)⟩
  · have c2 := iv_nle (X := 160) (Y := v1.toInt) c2 (by decide) rfl
    refine pv_aload_n (M := mX6_emit) 0 dX6_emit_10 11 rfl rfl rfl ?_
    refine mv_get (M := mX6_emit) (v := .ref (aT + 1)) dX6_emit_11 FX6 0 wd233 (by decide) haT.2.1 rfl rfl 14 rfl ?_
    refine pv_aload_n (M := mX6_emit) 0 dX6_emit_14 15 rfl rfl rfl ?_
    refine iv_get (M := mX6_emit) (l1 := 0) (l2 := 160) dX6_emit_15 FX6 2 wd235 (by decide) haT.2.1 rfl I (law_b2 haT) 18 rfl (fun v3 ev3 pv3 qv3 => ?_)
    have wv3 : v3.toInt = (m aT 2).toInt := congrArg Int32.toInt ev3
    refine pv_iload_n (M := mX6_emit) 1 dX6_emit_18 19 rfl rfl rfl ?_
    refine iv_iast (M := mX6_emit) (X := v3.toInt) (l1 := (-2147483648)) (l2 := 2147483647) dX6_emit_19 (law_a1 haT) rfl (by omega) (by omega) I (law_c1 haT) (iv_rng x0).1 (iv_rng x0).2 20 rfl (fun m4 e7 I5 => ?_)
    have K6 := Kp.set e7 (wl_r (by omega) (by omega))
    have w8 : (m4 aT 2).toInt = (m aT 2).toInt := by rw [e7, up2_ne (by omega)]
    have w9 : (m4 aT 7).toInt = (m aT 7).toInt := by rw [e7, up2_ne (by omega)]
    have w10 : (m4 aT 10).toInt = (m aT 10).toInt := by rw [e7, up2_ne (by omega)]
    refine pv_aload_n (M := mX6_emit) 0 dX6_emit_20 21 rfl rfl rfl ?_
    refine mv_get (M := mX6_emit) (v := .ref (aT + 2)) dX6_emit_21 FX6 1 wd234 (by decide) haT.2.1 rfl rfl 24 rfl ?_
    refine pv_aload_n (M := mX6_emit) 0 dX6_emit_24 25 rfl rfl rfl ?_
    refine iv_get (M := mX6_emit) (l1 := 0) (l2 := 160) dX6_emit_25 FX6 2 wd235 (by decide) haT.2.1 rfl I5 (law_b2 haT) 28 rfl (fun v11 ev11 pv11 qv11 => ?_)
    have wv11 : v11.toInt = (m4 aT 2).toInt := congrArg Int32.toInt ev11
    refine pv_iload_n (M := mX6_emit) 2 dX6_emit_28 29 rfl rfl rfl ?_
    refine iv_iast (M := mX6_emit) (X := v11.toInt) (l1 := (-1)) (l2 := 99999) dX6_emit_29 (law_a2 haT) rfl (by omega) (by omega) I5 (law_c2 haT) (by omega) (by omega) 30 rfl (fun m12 e15 I13 => ?_)
    have K14 := K6.set e15 (wl_r (by omega) (by omega))
    have w16 : (m12 aT 2).toInt = (m4 aT 2).toInt := by rw [e15, up2_ne (by omega)]
    have w17 : (m12 aT 7).toInt = (m4 aT 7).toInt := by rw [e15, up2_ne (by omega)]
    have w18 : (m12 aT 10).toInt = (m4 aT 10).toInt := by rw [e15, up2_ne (by omega)]
    refine pv_aload_n (M := mX6_emit) 0 dX6_emit_30 31 rfl rfl rfl ?_
    refine pv_dup (M := mX6_emit) dX6_emit_31 32 rfl rfl ?_
    refine iv_get (M := mX6_emit) (l1 := 0) (l2 := 160) dX6_emit_32 FX6 2 wd235 (by decide) haT.2.1 rfl I13 (law_b2 haT) 35 rfl (fun v19 ev19 pv19 qv19 => ?_)
    have wv19 : v19.toInt = (m12 aT 2).toInt := congrArg Int32.toInt ev19
    refine pv_iconst (M := mX6_emit) (v := 1) dX6_emit_35 36 rfl (by decide) ?_
    refine iv_iadd (M := mX6_emit) (X := v19.toInt) (Y := 1) dX6_emit_36 37 rfl rfl (by decide) (by omega) (by omega) (fun v20 ev20 => ?_)
    refine iv_put (M := mX6_emit) (l1 := 0) (l2 := 160) dX6_emit_37 FX6 2 wd235 (by decide) rfl haT.2.1 rfl rfl rfl I13 (law_b2 haT) (by omega) (by omega) 40 rfl (fun m21 e24 I22 => ?_)
    have K23 := K14.set e24 (wl_r (by omega) (by omega))
    have w25 : (m21 aT 2).toInt = v20.toInt := by rw [e24, up2_eq]
    have w26 : (m21 aT 7).toInt = (m12 aT 7).toInt := by rw [e24, up2_ne (by omega)]
    have w27 : (m21 aT 10).toInt = (m12 aT 10).toInt := by rw [e24, up2_ne (by omega)]
    exact pv_vret (M := mX6_emit) dX6_emit_40 rfl ⟨_, _, rfl, rfl, I22, K23, (by omega)⟩

set_option maxHeartbeats 2000000 in
set_option maxRecDepth 20000 in
theorem s_X6_aimLeaps_vx (g : pv_G) {T : List mv_T} {m : Nat → Nat → Int32} {n : Nat → Nat → Int64} {r : Nat → Value} (hT : TX T) (I : IV BB m) (aT : Nat) (haT : LawAt T aT) (x0 : Int32) (x1 : Int32) : PM g mX6_aimLeaps yX6_aimLeaps (sqV T BB (wl [(aT, (aT + 8), none)]) r m (fun m' => (m' aT 7).toInt = (m aT 7).toInt)) 1 0 0 [.ref aT, .int x0, .int x1] (mk T m n r) := by
  have Kp : fr (wl [(aT, (aT + 8), none)]) m m := fr.rf
  have zwT := haT.1
  refine PM.of 1 (lo := [.ref aT, .int x0, .int x1, pv_U]) rfl (by decide) rfl rfl (Nat.le_of_ble_eq_true rfl) ?_
  refine pv_iload_n (M := mX6_aimLeaps) 2 dX6_aimLeaps_0 1 rfl rfl rfl ?_
  refine pv_iconst (M := mX6_aimLeaps) (v := 0) dX6_aimLeaps_1 2 rfl (by decide) ?_
  refine iv_max (M := mX6_aimLeaps) (X := x1.toInt) (Y := 0) dX6_aimLeaps_2 wd682 Wmmax (Nat.le_of_ble_eq_true rfl) (by decide) rfl (by decide) 5 rfl (fun v1 ev1 fv1 gv1 => ?_)
  refine pv_istore_n (M := mX6_aimLeaps) 3 (lo2 := [.ref aT, .int x0, .int x1, .int v1]) dX6_aimLeaps_5 6 rfl rfl (by decide) rfl rfl ?_
  have lp8 : ∀ (fuel7 : Nat) (y2 : Int32) (m3 : Nat → Nat → Int32) (n4 : Nat → Nat → Int64), (0 ≤ y2.toInt) → (y2.toInt ≤ 2147483647) → ((m3 aT 7).toInt = (m aT 7).toInt) → IV BB m3 → fr (wl [(aT, (aT + 8), none)]) m m3 → ((2147483647 - y2.toInt) : Int).toNat < fuel7 → PV none g mX6_aimLeaps (sqV T BB (wl [(aT, (aT + 8), none)]) r m (fun m' => (m' aT 7).toInt = (m aT 7).toInt)) 1 0 0 6 [.ref aT, .int x0, .int x1, .int y2] [] (mk T m3 n4 r) := by
    intro fuel7
    induction fuel7 with
    | zero => intro y2 m3 n4 b10 b11 b12 I5 K6 z13; omega
    | succ fuel7 ih9 =>
      intro y2 m3 n4 b10 b11 b12 I5 K6 z13
      refine pv_iload_n (M := mX6_aimLeaps) 3 dX6_aimLeaps_6 7 rfl rfl rfl ?_
      refine pv_aload_n (M := mX6_aimLeaps) 0 dX6_aimLeaps_7 8 rfl rfl rfl ?_
      refine iv_get (M := mX6_aimLeaps) (l1 := 0) (l2 := 160) dX6_aimLeaps_8 FX6 2 wd235 (by decide) haT.2.1 rfl I5 (law_b2 haT) 11 rfl (fun v14 ev14 pv14 qv14 => ?_)
      have wv14 : v14.toInt = (m3 aT 2).toInt := congrArg Int32.toInt ev14
      refine pv_icmp_ge (M := mX6_aimLeaps) (tgt := 50) dX6_aimLeaps_11 14 rfl (by decide) (fun c15 => ?_) (fun c15 => ?_)
      · have c15 := iv_le (X := v14.toInt) (Y := y2.toInt) c15 rfl rfl
        exact pv_vret (M := mX6_aimLeaps) dX6_aimLeaps_50 rfl ⟨_, _, rfl, rfl, I5, K6, (by omega)⟩
      · have c15 := iv_nle (X := v14.toInt) (Y := y2.toInt) c15 rfl rfl
        refine pv_aload_n (M := mX6_aimLeaps) 0 dX6_aimLeaps_14 15 rfl rfl rfl ?_
        refine mv_get (M := mX6_aimLeaps) (v := .ref (aT + 1)) dX6_aimLeaps_15 FX6 0 wd233 (by decide) haT.2.1 rfl rfl 18 rfl ?_
        refine pv_iload_n (M := mX6_aimLeaps) 3 dX6_aimLeaps_18 19 rfl rfl rfl ?_
        refine iv_iald (M := mX6_aimLeaps) (X := y2.toInt) (l1 := (-2147483648)) (l2 := 2147483647) dX6_aimLeaps_19 (law_a1 haT) rfl (by omega) (by omega) I5 (law_c1 haT) 20 rfl (fun v16 ev16 pv16 qv16 => ?_)
        refine pv_iload_n (M := mX6_aimLeaps) 1 dX6_aimLeaps_20 21 rfl rfl rfl ?_
        refine pv_icmp_ne (M := mX6_aimLeaps) (tgt := 44) dX6_aimLeaps_21 24 rfl (by decide) (fun c17 => ?_) (fun c17 => ?_)
        · have c17 := iv_ne (X := v16.toInt) (Y := x0.toInt) c17 rfl rfl
          refine iv_inc (M := mX6_aimLeaps) (C := 1) dX6_aimLeaps_44 47 rfl rfl (by decide) rfl rfl (by decide) (by omega) (by omega) (fun v18 ev18 => ?_)
          show PV _ _ _ _ _ _ _ 47 [.ref aT, .int x0, .int x1, .int v18] [] _
          refine pv_goto (M := mX6_aimLeaps) (tgt := 6) dX6_aimLeaps_47 (by decide) ?_
          exact ih9 v18 m3 n4 (by first | omega | assumption | exact (iv_rng _).2 | exact (iv_rng _).1 | decide) (by first | omega | assumption | exact (iv_rng _).2 | exact (iv_rng _).1 | decide) (by first | omega | assumption | (show (m3 aT 7).toInt = (m aT 7).toInt; omega) | decide) I5 K6 (by omega)
        · have c17 := iv_eq (X := v16.toInt) (Y := x0.toInt) c17 rfl rfl
          refine pv_aload_n (M := mX6_aimLeaps) 0 dX6_aimLeaps_24 25 rfl rfl rfl ?_
          refine mv_get (M := mX6_aimLeaps) (v := .ref (aT + 2)) dX6_aimLeaps_25 FX6 1 wd234 (by decide) haT.2.1 rfl rfl 28 rfl ?_
          refine pv_iload_n (M := mX6_aimLeaps) 3 dX6_aimLeaps_28 29 rfl rfl rfl ?_
          refine iv_iald (M := mX6_aimLeaps) (X := y2.toInt) (l1 := (-1)) (l2 := 99999) dX6_aimLeaps_29 (law_a2 haT) rfl (by omega) (by omega) I5 (law_c2 haT) 30 rfl (fun v19 ev19 pv19 qv19 => ?_)
          refine pv_iconst (M := mX6_aimLeaps) (v := (-1)) dX6_aimLeaps_30 31 rfl (by decide) ?_
          refine pv_icmp_ne (M := mX6_aimLeaps) (tgt := 44) dX6_aimLeaps_31 34 rfl (by decide) (fun c20 => ?_) (fun c20 => ?_)
          · have c20 := iv_ne (X := v19.toInt) (Y := (-1)) c20 rfl (by decide)
            refine iv_inc (M := mX6_aimLeaps) (C := 1) dX6_aimLeaps_44 47 rfl rfl (by decide) rfl rfl (by decide) (by omega) (by omega) (fun v21 ev21 => ?_)
            show PV _ _ _ _ _ _ _ 47 [.ref aT, .int x0, .int x1, .int v21] [] _
            refine pv_goto (M := mX6_aimLeaps) (tgt := 6) dX6_aimLeaps_47 (by decide) ?_
            exact ih9 v21 m3 n4 (by first | omega | assumption | exact (iv_rng _).2 | exact (iv_rng _).1 | decide) (by first | omega | assumption | exact (iv_rng _).2 | exact (iv_rng _).1 | decide) (by first | omega | assumption | (show (m3 aT 7).toInt = (m aT 7).toInt; omega) | decide) I5 K6 (by omega)
          · have c20 := iv_eq (X := v19.toInt) (Y := (-1)) c20 rfl (by decide)
            refine pv_aload_n (M := mX6_aimLeaps) 0 dX6_aimLeaps_34 35 rfl rfl rfl ?_
            refine mv_get (M := mX6_aimLeaps) (v := .ref (aT + 2)) dX6_aimLeaps_35 FX6 1 wd234 (by decide) haT.2.1 rfl rfl 38 rfl ?_
            refine pv_iload_n (M := mX6_aimLeaps) 3 dX6_aimLeaps_38 39 rfl rfl rfl ?_
            refine pv_aload_n (M := mX6_aimLeaps) 0 dX6_aimLeaps_39 40 rfl rfl rfl ?_
            refine iv_get (M := mX6_aimLeaps) (l1 := 0) (l2 := 160) dX6_aimLeaps_40 FX6 2 wd235 (by decide) haT.2.1 rfl I5 (law_b2 haT) 43 rfl (fun v22 ev22 pv22 qv22 => ?_)
            have wv22 : v22.toInt = (m3 aT 2).toInt := congrArg Int32.toInt ev22
            refine iv_iast (M := mX6_aimLeaps) (X := y2.toInt) (l1 := (-1)) (l2 := 99999) dX6_aimLeaps_43 (law_a2 haT) rfl (by omega) (by omega) I5 (law_c2 haT) (by omega) (by omega) 44 rfl (fun m23 e26 I24 => ?_)
            have K25 := K6.set e26 (wl_r (by omega) (by omega))
            have w27 : (m23 aT 2).toInt = (m3 aT 2).toInt := by rw [e26, up2_ne (by omega)]
            have w28 : (m23 aT 7).toInt = (m3 aT 7).toInt := by rw [e26, up2_ne (by omega)]
            have w29 : (m23 aT 10).toInt = (m3 aT 10).toInt := by rw [e26, up2_ne (by omega)]
            refine iv_inc (M := mX6_aimLeaps) (C := 1) dX6_aimLeaps_44 47 rfl rfl (by decide) rfl rfl (by decide) (by omega) (by omega) (fun v30 ev30 => ?_)
            show PV _ _ _ _ _ _ _ 47 [.ref aT, .int x0, .int x1, .int v30] [] _
            refine pv_goto (M := mX6_aimLeaps) (tgt := 6) dX6_aimLeaps_47 (by decide) ?_
            exact ih9 v30 m23 n4 (by first | omega | assumption | exact (iv_rng _).2 | exact (iv_rng _).1 | decide) (by first | omega | assumption | exact (iv_rng _).2 | exact (iv_rng _).1 | decide) (by first | omega | assumption | (show (m23 aT 7).toInt = (m aT 7).toInt; omega) | decide) I24 K25 (by omega)
  exact lp8 (((2147483647 - v1.toInt) : Int).toNat + 1) v1 m n (by first | omega | assumption | exact (iv_rng _).2 | exact (iv_rng _).1 | decide) (by first | omega | assumption | exact (iv_rng _).2 | exact (iv_rng _).1 | decide) (by first | omega | assumption | (show (m aT 7).toInt = (m aT 7).toInt; omega) | decide) I Kp (by omega)

set_option maxHeartbeats 2000000 in
set_option maxRecDepth 20000 in
theorem s_X7_peek_vx (g : pv_G) {T : List mv_T} {m : Nat → Nat → Int32} {n : Nat → Nat → Int64} {r : Nat → Value} {la lb : Nat} (hT : TX T) (I : IV BB m) (R : RX T r la lb) : PM g mX7_peek yX7_peek (sqP (mk T m n r) (-2147483648) 2147483647 (fun v => v.toInt = tC m (m 86 3).toInt ∧ (v.toInt = -1 ∨ (m 86 3).toInt < (m 86 2).toInt))) 1 0 0 [.ref 86] (mk T m n r) := by
  have Kp : fr (wl []) m m := fr.rf
  have R0 := R
  have zR := R.2.2.2.2.1.1
  have zR2 := R.2.2.2.2.2.1
  have z8 : 0 ≤ (m 86 3).toInt ∧ (m 86 3).toInt ≤ 160 := I 86 3
  have z9 : 0 ≤ (m 86 2).toInt ∧ (m 86 2).toInt ≤ 160 := I 86 2
  refine PM.of 0 (lo := [.ref 86]) rfl (by decide) rfl rfl (Nat.le_of_ble_eq_true rfl) ?_
  refine pv_aload_n (M := mX7_peek) 0 dX7_peek_0 1 rfl rfl rfl ?_
  refine iv_get (M := mX7_peek) (l1 := 0) (l2 := 160) dX7_peek_1 FX7 3 wd283 (by decide) (tl86 hT) rfl I rfl 4 rfl (fun v1 ev1 pv1 qv1 => ?_)
  have wv1 : v1.toInt = (m 86 3).toInt := congrArg Int32.toInt ev1
  refine pv_aload_n (M := mX7_peek) 0 dX7_peek_4 5 rfl rfl rfl ?_
  refine iv_get (M := mX7_peek) (l1 := 0) (l2 := 160) dX7_peek_5 FX7 2 wd282 (by decide) (tl86 hT) rfl I rfl 8 rfl (fun v2 ev2 pv2 qv2 => ?_)
  have wv2 : v2.toInt = (m 86 2).toInt := congrArg Int32.toInt ev2
  refine pv_icmp_ge (M := mX7_peek) (tgt := 23) dX7_peek_8 11 rfl (by decide) (fun c3 => ?_) (fun c3 => ?_)
  · have c3 := iv_le (X := v2.toInt) (Y := v1.toInt) c3 rfl rfl
    refine pv_iconst (M := mX7_peek) (v := (-1)) dX7_peek_23 24 rfl (by decide) ?_
    have z4 : ((-1) : Int32).toInt = (-1) := by decide
    exact pv_iret (M := mX7_peek) dX7_peek_24 rfl rfl ⟨_, rfl, rfl, by decide, by decide, ⟨by unfold tC; rw [if_neg (by omega)]; decide, Or.inl (by decide)⟩⟩
  · have c3 := iv_nle (X := v2.toInt) (Y := v1.toInt) c3 rfl rfl
    refine pv_aload_n (M := mX7_peek) 0 dX7_peek_11 12 rfl rfl rfl ?_
    refine mv_get (M := mX7_peek) (v := .ref 87) dX7_peek_12 FX7 0 wd280 (by decide) (tl86 hT) rfl rfl 15 rfl ?_
    refine pv_aload_n (M := mX7_peek) 0 dX7_peek_15 16 rfl rfl rfl ?_
    refine iv_get (M := mX7_peek) (l1 := 0) (l2 := 160) dX7_peek_16 FX7 3 wd283 (by decide) (tl86 hT) rfl I rfl 19 rfl (fun v5 ev5 pv5 qv5 => ?_)
    have wv5 : v5.toInt = (m 86 3).toInt := congrArg Int32.toInt ev5
    refine iv_iald (M := mX7_peek) (X := v5.toInt) (l1 := (-2147483648)) (l2 := 2147483647) dX7_peek_19 (tl87 hT) rfl (by omega) (by omega) I (fun _ => rfl) 20 rfl (fun v6 ev6 pv6 qv6 => ?_)
    have k20 : v6.toInt = (m 87 (m 86 3).toInt.toNat).toInt := (congrArg Int32.toInt ev6).trans (congrArg (fun z => (m 87 z).toInt) (by omega))
    refine pv_goto (M := mX7_peek) (tgt := 24) dX7_peek_20 (by decide) ?_
    exact pv_iret (M := mX7_peek) dX7_peek_24 rfl rfl ⟨_, rfl, rfl, (iv_rng v6).1, (iv_rng v6).2, ⟨by unfold tC; rw [if_pos (by omega)]; exact k20, Or.inr (by omega)⟩⟩

set_option maxHeartbeats 2000000 in
set_option maxRecDepth 20000 in
theorem s_X7_fail_vx (g : pv_G) {T : List mv_T} {m : Nat → Nat → Int32} {n : Nat → Nat → Int64} {r : Nat → Value} {la lb : Nat} (hT : TX T) (I : IV BB m) (R : RX T r la lb) (x0 : Int32) (hl0 : 1 ≤ x0.toInt) (hh0 : x0.toInt ≤ 5) (hp0 : (m 86 3).toInt ≤ (m 86 2).toInt) : PM g mX7_fail yX7_fail (sqI T BB wR7 r m 0 1 (fun m' v => (m 86 3).toInt ≤ (m' 86 3).toInt ∧ (m' 86 3).toInt ≤ (m' 86 2).toInt ∧ (m' 86 2).toInt = (m 86 2).toInt ∧ (v.toInt = 0 ∧ (m' 86 3).toInt = (m 86 3).toInt ∧ (m' 86 4).toInt = -1000 * x0.toInt - (m 86 3).toInt) ∧ (m' lb 7).toInt = (m lb 7).toInt)) 1 0 0 [.ref 86, .int x0] (mk T m n r) := by
  have Kp : fr wR7 m m := fr.rf
  have R0 := R
  have zR := R.2.2.2.2.1.1
  have zR2 := R.2.2.2.2.2.1
  have z13 : 0 ≤ (m 86 3).toInt ∧ (m 86 3).toInt ≤ 160 := I 86 3
  have z14 : 0 ≤ (m 86 2).toInt ∧ (m 86 2).toInt ≤ 160 := I 86 2
  refine PM.of 0 (lo := [.ref 86, .int x0]) rfl (by decide) rfl rfl (Nat.le_of_ble_eq_true rfl) ?_
  refine pv_aload_n (M := mX7_fail) 0 dX7_fail_0 1 rfl rfl rfl ?_
  refine pv_sipush (M := mX7_fail) (v := (-1000)) dX7_fail_1 4 rfl (by decide) ?_
  refine pv_iload_n (M := mX7_fail) 1 dX7_fail_4 5 rfl rfl rfl ?_
  refine iv_imul (M := mX7_fail) (X := (-1000)) (Y := x0.toInt) dX7_fail_5 6 rfl (by decide) rfl (by omega) (by omega) (fun v1 ev1 => ?_)
  refine pv_aload_n (M := mX7_fail) 0 dX7_fail_6 7 rfl rfl rfl ?_
  refine iv_get (M := mX7_fail) (l1 := 0) (l2 := 160) dX7_fail_7 FX7 3 wd283 (by decide) (tl86 hT) rfl I rfl 10 rfl (fun v2 ev2 pv2 qv2 => ?_)
  have wv2 : v2.toInt = (m 86 3).toInt := congrArg Int32.toInt ev2
  refine iv_isub (M := mX7_fail) (X := v1.toInt) (Y := v2.toInt) dX7_fail_10 11 rfl rfl rfl (by omega) (by omega) (fun v3 ev3 => ?_)
  refine iv_put (M := mX7_fail) (l1 := (-2147483648)) (l2 := 2147483647) dX7_fail_11 FX7 4 wd284 (by decide) rfl (tl86 hT) rfl rfl rfl I rfl (iv_rng v3).1 (iv_rng v3).2 14 rfl (fun m4 e7 I5 => ?_)
  have K6 := Kp.set e7 (by decide)
  have w8 : (m4 86 3).toInt = (m 86 3).toInt := by rw [e7, up2_ne (by omega)]
  have w9 : (m4 86 2).toInt = (m 86 2).toInt := by rw [e7, up2_ne (by omega)]
  have w10 : (m4 86 4).toInt = v3.toInt := by rw [e7, up2_eq]
  have w11 : (m4 lb 7).toInt = (m lb 7).toInt := by rw [e7, up2_ne (by omega)]
  refine pv_iconst (M := mX7_fail) (v := 0) dX7_fail_14 15 rfl (by decide) ?_
  have z12 : (0 : Int32).toInt = 0 := by decide
  exact pv_iret (M := mX7_fail) dX7_fail_15 rfl rfl ⟨_, _, _, rfl, rfl, I5, K6, by decide, by decide, ⟨by omega, by omega, by omega, ⟨by decide, by omega, by omega⟩, by omega⟩⟩

set_option maxHeartbeats 2000000 in
set_option maxRecDepth 20000 in
theorem s_X7_pass_vx (g : pv_G) {T : List mv_T} {m : Nat → Nat → Int32} {n : Nat → Nat → Int64} {r : Nat → Value} {la lb : Nat} (hT : TX T) (I : IV BB m) (R : RX T r la lb) (x0 : Int32) (hl0 : 0 ≤ x0.toInt) (hh0 : x0.toInt ≤ 1000) (hp0 : (m 86 3).toInt ≤ (m 86 2).toInt) : PM g mX7_pass yX7_pass (sqI T BB wR7 r m 0 1 (fun m' v => (m 86 3).toInt ≤ (m' 86 3).toInt ∧ (m' 86 3).toInt ≤ (m' 86 2).toInt ∧ (m' 86 2).toInt = (m 86 2).toInt ∧ ((v.toInt = 1 ∧ tC m (m 86 3).toInt = x0.toInt ∧ (m' 86 3).toInt = (m 86 3).toInt + 1) ∨ (v.toInt = 0 ∧ tC m (m 86 3).toInt ≠ x0.toInt ∧ (m' 86 4).toInt = -1000 - (m 86 3).toInt ∧ (m' 86 3).toInt = (m 86 3).toInt)) ∧ (m' lb 7).toInt = (m lb 7).toInt)) 2 0 0 [.ref 86, .int x0] (mk T m n r) := by
  have Kp : fr wR7 m m := fr.rf
  have R0 := R
  have zR := R.2.2.2.2.1.1
  have zR2 := R.2.2.2.2.2.1
  have z24 : 0 ≤ (m 86 3).toInt ∧ (m 86 3).toInt ≤ 160 := I 86 3
  have z25 : 0 ≤ (m 86 2).toInt ∧ (m 86 2).toInt ≤ 160 := I 86 2
  refine PM.of 0 (lo := [.ref 86, .int x0]) rfl (by decide) rfl rfl (Nat.le_of_ble_eq_true rfl) ?_
  refine pv_aload_n (M := mX7_pass) 0 dX7_pass_0 1 rfl rfl rfl ?_
  refine pv_callv (M := mX7_pass) (as := []) (st := []) (kc2 := 0) (ks2 := 0) dX7_pass_1 wd527 YX7_peek ⟨wd529, wd2⟩ (mk_get (tl86 hT)) rfl rfl (s_X7_peek_vx g hT I R) rfl rfl (Nat.le_of_ble_eq_true rfl) (by decide) rfl rfl 4 rfl (fun rv h1 q1 => ?_)
  obtain ⟨v2, rfl, rfl, pv2, qv2, rv2⟩ := q1
  replace rv2 : v2.toInt = tC m (m 86 3).toInt ∧ (v2.toInt = -1 ∨ (m 86 3).toInt < (m 86 2).toInt) := rv2
  show PV _ _ _ _ _ _ _ 4 [.ref 86, .int x0] [.int v2] _
  have k4 := rv2.1
  have k4b := rv2.2
  refine pv_iload_n (M := mX7_pass) 1 dX7_pass_4 5 rfl rfl rfl ?_
  refine pv_icmp_eq (M := mX7_pass) (tgt := 14) dX7_pass_5 8 rfl (by decide) (fun c5 => ?_) (fun c5 => ?_)
  · have c5 := iv_eq (X := v2.toInt) (Y := x0.toInt) c5 rfl rfl
    refine pv_aload_n (M := mX7_pass) 0 dX7_pass_14 15 rfl rfl rfl ?_
    refine pv_dup (M := mX7_pass) dX7_pass_15 16 rfl rfl ?_
    refine iv_get (M := mX7_pass) (l1 := 0) (l2 := 160) dX7_pass_16 FX7 3 wd283 (by decide) (tl86 hT) rfl I rfl 19 rfl (fun v6 ev6 pv6 qv6 => ?_)
    have wv6 : v6.toInt = (m 86 3).toInt := congrArg Int32.toInt ev6
    refine pv_iconst (M := mX7_pass) (v := 1) dX7_pass_19 20 rfl (by decide) ?_
    refine iv_iadd (M := mX7_pass) (X := v6.toInt) (Y := 1) dX7_pass_20 21 rfl rfl (by decide) (by omega) (by omega) (fun v7 ev7 => ?_)
    refine iv_put (M := mX7_pass) (l1 := 0) (l2 := 160) dX7_pass_21 FX7 3 wd283 (by decide) rfl (tl86 hT) rfl rfl rfl I rfl (by omega) (by omega) 24 rfl (fun m8 e11 I9 => ?_)
    have K10 := Kp.set e11 (by decide)
    have w12 : (m8 86 3).toInt = v7.toInt := by rw [e11, up2_eq]
    have w13 : (m8 86 2).toInt = (m 86 2).toInt := by rw [e11, up2_ne (by omega)]
    have w14 : (m8 86 4).toInt = (m 86 4).toInt := by rw [e11, up2_ne (by omega)]
    have w15 : (m8 lb 7).toInt = (m lb 7).toInt := by rw [e11, up2_ne (by omega)]
    refine pv_iconst (M := mX7_pass) (v := 1) dX7_pass_24 25 rfl (by decide) ?_
    have z16 : (1 : Int32).toInt = 1 := by decide
    exact pv_iret (M := mX7_pass) dX7_pass_25 rfl rfl ⟨_, _, _, rfl, rfl, I9, K10, by decide, by decide, ⟨by omega, by omega, by omega, Or.inl ⟨by decide, by omega, by omega⟩, by omega⟩⟩
  · have c5 := iv_ne (X := v2.toInt) (Y := x0.toInt) c5 rfl rfl
    refine pv_aload_n (M := mX7_pass) 0 dX7_pass_8 9 rfl rfl rfl ?_
    refine pv_iconst (M := mX7_pass) (v := 1) dX7_pass_9 10 rfl (by decide) ?_
    have z17 : (1 : Int32).toInt = 1 := by decide
    refine pv_callv (M := mX7_pass) (as := [.int 1]) (st := []) (kc2 := 0) (ks2 := 0) dX7_pass_10 wd531 YX7_fail ⟨wd533, wd3⟩ (mk_get (tl86 hT)) rfl rfl (s_X7_fail_vx g hT I R 1 (by decide) (by decide) (by first | omega | assumption | exact (iv_rng _).2 | exact (iv_rng _).1 | decide)) rfl rfl (Nat.le_of_ble_eq_true rfl) (by decide) rfl rfl 13 rfl (fun rv h1 q18 => ?_)
    obtain ⟨m19, n20, v23, rfl, rfl, I21, K22, pv23, qv23, rv23⟩ := q18
    replace rv23 : (m 86 3).toInt ≤ (m19 86 3).toInt ∧ (m19 86 3).toInt ≤ (m19 86 2).toInt ∧ (m19 86 2).toInt = (m 86 2).toInt ∧ (v23.toInt = 0 ∧ (m19 86 3).toInt = (m 86 3).toInt ∧ (m19 86 4).toInt = -1000 * (1 : Int) - (m 86 3).toInt) ∧ (m19 lb 7).toInt = (m lb 7).toInt := by have q_ := rv23; (try rw [z17] at q_); exact q_
    have K22c := K22
    have K22 := Kp.trans (K22.sub (fun _ _ q => q))
    show PV _ _ _ _ _ _ _ 13 [.ref 86, .int x0] [.int v23] _
    exact pv_iret (M := mX7_pass) dX7_pass_13 rfl (iv_nz (by omega) (by omega)) ⟨_, _, _, rfl, rfl, I21, K22, by omega, by omega, ⟨by omega, by omega, by omega, Or.inr ⟨by omega, by omega, by omega, by omega⟩, by omega⟩⟩

set_option maxHeartbeats 2000000 in
set_option maxRecDepth 20000 in
theorem s_X7_open_vx (g : pv_G) {T : List mv_T} {m : Nat → Nat → Int32} {n : Nat → Nat → Int64} {r : Nat → Value} {la lb : Nat} (hT : TX T) (I : IV BB m) (R : RX T r la lb) (x0 : Int32) (hl0 : 0 ≤ x0.toInt) (hh0 : x0.toInt ≤ 6) (hp0 : (m 86 3).toInt < (m 86 2).toInt) : PM g mX7_open yX7_open (sqI T BB wR7 r m 0 1 (fun m' v => (v = 0 ∨ x0.toInt ≤ 5) ∧ (m 86 3).toInt ≤ (m' 86 3).toInt ∧ (m' 86 3).toInt ≤ (m' 86 2).toInt ∧ (m' 86 2).toInt = (m 86 2).toInt ∧ ((v.toInt = 1 ∧ x0.toInt ≤ 5 ∧ (m' 86 3).toInt = (m 86 3).toInt + 1) ∨ (v.toInt = 0 ∧ 6 ≤ x0.toInt ∧ (m' 86 4).toInt = -5000 - (m 86 3).toInt ∧ (m' 86 3).toInt = (m 86 3).toInt)) ∧ (m' lb 7).toInt = (m lb 7).toInt)) 2 0 0 [.ref 86, .int x0] (mk T m n r) := by
  have Kp : fr wR7 m m := fr.rf
  have R0 := R
  have zR := R.2.2.2.2.1.1
  have zR2 := R.2.2.2.2.2.1
  have z20 : 0 ≤ (m 86 3).toInt ∧ (m 86 3).toInt ≤ 160 := I 86 3
  have z21 : 0 ≤ (m 86 2).toInt ∧ (m 86 2).toInt ≤ 160 := I 86 2
  refine PM.of 0 (lo := [.ref 86, .int x0]) rfl (by decide) rfl rfl (Nat.le_of_ble_eq_true rfl) ?_
  refine pv_iload_n (M := mX7_open) 1 dX7_open_0 1 rfl rfl rfl ?_
  refine pv_bipush (M := mX7_open) (v := 6) dX7_open_1 3 rfl (by decide) ?_
  refine pv_icmp_lt (M := mX7_open) (tgt := 12) dX7_open_3 6 rfl (by decide) (fun c1 => ?_) (fun c1 => ?_)
  · have c1 := iv_lt (X := x0.toInt) (Y := 6) c1 rfl (by decide)
    refine pv_aload_n (M := mX7_open) 0 dX7_open_12 13 rfl rfl rfl ?_
    refine pv_dup (M := mX7_open) dX7_open_13 14 rfl rfl ?_
    refine iv_get (M := mX7_open) (l1 := 0) (l2 := 160) dX7_open_14 FX7 3 wd283 (by decide) (tl86 hT) rfl I rfl 17 rfl (fun v2 ev2 pv2 qv2 => ?_)
    have wv2 : v2.toInt = (m 86 3).toInt := congrArg Int32.toInt ev2
    refine pv_iconst (M := mX7_open) (v := 1) dX7_open_17 18 rfl (by decide) ?_
    refine iv_iadd (M := mX7_open) (X := v2.toInt) (Y := 1) dX7_open_18 19 rfl rfl (by decide) (by omega) (by omega) (fun v3 ev3 => ?_)
    refine iv_put (M := mX7_open) (l1 := 0) (l2 := 160) dX7_open_19 FX7 3 wd283 (by decide) rfl (tl86 hT) rfl rfl rfl I rfl (by omega) (by omega) 22 rfl (fun m4 e7 I5 => ?_)
    have K6 := Kp.set e7 (by decide)
    have w8 : (m4 86 3).toInt = v3.toInt := by rw [e7, up2_eq]
    have w9 : (m4 86 2).toInt = (m 86 2).toInt := by rw [e7, up2_ne (by omega)]
    have w10 : (m4 86 4).toInt = (m 86 4).toInt := by rw [e7, up2_ne (by omega)]
    have w11 : (m4 lb 7).toInt = (m lb 7).toInt := by rw [e7, up2_ne (by omega)]
    refine pv_iconst (M := mX7_open) (v := 1) dX7_open_22 23 rfl (by decide) ?_
    have z12 : (1 : Int32).toInt = 1 := by decide
    exact pv_iret (M := mX7_open) dX7_open_23 rfl rfl ⟨_, _, _, rfl, rfl, I5, K6, by decide, by decide, ⟨Or.inr (by omega), by omega, by omega, by omega, Or.inl ⟨by decide, by omega, by omega⟩, by omega⟩⟩
  · have c1 := iv_nlt (X := x0.toInt) (Y := 6) c1 rfl (by decide)
    refine pv_aload_n (M := mX7_open) 0 dX7_open_6 7 rfl rfl rfl ?_
    refine pv_iconst (M := mX7_open) (v := 5) dX7_open_7 8 rfl (by decide) ?_
    have z13 : (5 : Int32).toInt = 5 := by decide
    refine pv_callv (M := mX7_open) (as := [.int 5]) (st := []) (kc2 := 0) (ks2 := 0) dX7_open_8 wd531 YX7_fail ⟨wd533, wd3⟩ (mk_get (tl86 hT)) rfl rfl (s_X7_fail_vx g hT I R 5 (by decide) (by decide) (by first | omega | assumption | exact (iv_rng _).2 | exact (iv_rng _).1 | decide)) rfl rfl (Nat.le_of_ble_eq_true rfl) (by decide) rfl rfl 11 rfl (fun rv h1 q14 => ?_)
    obtain ⟨m15, n16, v19, rfl, rfl, I17, K18, pv19, qv19, rv19⟩ := q14
    replace rv19 : (m 86 3).toInt ≤ (m15 86 3).toInt ∧ (m15 86 3).toInt ≤ (m15 86 2).toInt ∧ (m15 86 2).toInt = (m 86 2).toInt ∧ (v19.toInt = 0 ∧ (m15 86 3).toInt = (m 86 3).toInt ∧ (m15 86 4).toInt = -1000 * (5 : Int) - (m 86 3).toInt) ∧ (m15 lb 7).toInt = (m lb 7).toInt := by have q_ := rv19; (try rw [z13] at q_); exact q_
    have K18c := K18
    have K18 := Kp.trans (K18.sub (fun _ _ q => q))
    show PV _ _ _ _ _ _ _ 11 [.ref 86, .int x0] [.int v19] _
    exact pv_iret (M := mX7_open) dX7_open_11 rfl (iv_nz (by omega) (by omega)) ⟨_, _, _, rfl, rfl, I17, K18, by omega, by omega, ⟨Or.inl (Int32.toInt_inj.mp (by rw [Int32.toInt_zero]; omega)), by omega, by omega, by omega, Or.inr ⟨by omega, by omega, by omega, by omega⟩, by omega⟩⟩

set_option maxHeartbeats 2000000 in
set_option maxRecDepth 20000 in
theorem s_X7_digitAhead_vx (g : pv_G) {T : List mv_T} {m : Nat → Nat → Int32} {n : Nat → Nat → Int64} {r : Nat → Value} {la lb : Nat} (hT : TX T) (I : IV BB m) (R : RX T r la lb) : PM g mX7_digitAhead yX7_digitAhead (sqP (mk T m n r) 0 1 (fun v => (v = 0 ∨ ((m 86 3).toInt < (m 86 2).toInt ∧ 48 ≤ (m 87 (m 86 3).toInt.toNat).toInt ∧ (m 87 (m 86 3).toInt.toNat).toInt ≤ 57)) ∧ ((v.toInt = 1 ∧ dig (tC m (m 86 3).toInt) = true) ∨ (v.toInt = 0 ∧ dig (tC m (m 86 3).toInt) = false)))) 1 0 0 [.ref 86] (mk T m n r) := by
  have Kp : fr (wl []) m m := fr.rf
  have R0 := R
  have zR := R.2.2.2.2.1.1
  have zR2 := R.2.2.2.2.2.1
  have z16 : 0 ≤ (m 86 3).toInt ∧ (m 86 3).toInt ≤ 160 := I 86 3
  have z17 : 0 ≤ (m 86 2).toInt ∧ (m 86 2).toInt ≤ 160 := I 86 2
  refine PM.of 0 (lo := [.ref 86]) rfl (by decide) rfl rfl (Nat.le_of_ble_eq_true rfl) ?_
  refine pv_aload_n (M := mX7_digitAhead) 0 dX7_digitAhead_0 1 rfl rfl rfl ?_
  refine iv_get (M := mX7_digitAhead) (l1 := 0) (l2 := 160) dX7_digitAhead_1 FX7 3 wd283 (by decide) (tl86 hT) rfl I rfl 4 rfl (fun v1 ev1 pv1 qv1 => ?_)
  have wv1 : v1.toInt = (m 86 3).toInt := congrArg Int32.toInt ev1
  refine pv_aload_n (M := mX7_digitAhead) 0 dX7_digitAhead_4 5 rfl rfl rfl ?_
  refine iv_get (M := mX7_digitAhead) (l1 := 0) (l2 := 160) dX7_digitAhead_5 FX7 2 wd282 (by decide) (tl86 hT) rfl I rfl 8 rfl (fun v2 ev2 pv2 qv2 => ?_)
  have wv2 : v2.toInt = (m 86 2).toInt := congrArg Int32.toInt ev2
  refine pv_icmp_ge (M := mX7_digitAhead) (tgt := 43) dX7_digitAhead_8 11 rfl (by decide) (fun c3 => ?_) (fun c3 => ?_)
  · have c3 := iv_le (X := v2.toInt) (Y := v1.toInt) c3 rfl rfl
    refine pv_iconst (M := mX7_digitAhead) (v := 0) dX7_digitAhead_43 44 rfl (by decide) ?_
    have z4 : (0 : Int32).toInt = 0 := by decide
    exact pv_iret (M := mX7_digitAhead) dX7_digitAhead_44 rfl rfl ⟨_, rfl, rfl, by decide, by decide, ⟨Or.inl rfl, Or.inr ⟨by decide, by first | (unfold tC; rw [if_neg (by omega)]; decide) | (unfold tC; rw [if_pos (by omega)]; exact dig_no (by omega))⟩⟩⟩
  · have c3 := iv_nle (X := v2.toInt) (Y := v1.toInt) c3 rfl rfl
    refine pv_aload_n (M := mX7_digitAhead) 0 dX7_digitAhead_11 12 rfl rfl rfl ?_
    refine mv_get (M := mX7_digitAhead) (v := .ref 87) dX7_digitAhead_12 FX7 0 wd280 (by decide) (tl86 hT) rfl rfl 15 rfl ?_
    refine pv_aload_n (M := mX7_digitAhead) 0 dX7_digitAhead_15 16 rfl rfl rfl ?_
    refine iv_get (M := mX7_digitAhead) (l1 := 0) (l2 := 160) dX7_digitAhead_16 FX7 3 wd283 (by decide) (tl86 hT) rfl I rfl 19 rfl (fun v5 ev5 pv5 qv5 => ?_)
    have wv5 : v5.toInt = (m 86 3).toInt := congrArg Int32.toInt ev5
    refine iv_iald (M := mX7_digitAhead) (X := v5.toInt) (l1 := (-2147483648)) (l2 := 2147483647) dX7_digitAhead_19 (tl87 hT) rfl (by omega) (by omega) I (fun _ => rfl) 20 rfl (fun v6 ev6 pv6 qv6 => ?_)
    have k19 : v6.toInt = (m 87 (m 86 3).toInt.toNat).toInt := (congrArg Int32.toInt ev6).trans (congrArg (fun z => (m 87 z).toInt) (by omega))
    refine pv_bipush (M := mX7_digitAhead) (v := 48) dX7_digitAhead_20 22 rfl (by decide) ?_
    refine pv_icmp_lt (M := mX7_digitAhead) (tgt := 43) dX7_digitAhead_22 25 rfl (by decide) (fun c8 => ?_) (fun c8 => ?_)
    · have c8 := iv_lt (X := v6.toInt) (Y := 48) c8 rfl (by decide)
      refine pv_iconst (M := mX7_digitAhead) (v := 0) dX7_digitAhead_43 44 rfl (by decide) ?_
      have z9 : (0 : Int32).toInt = 0 := by decide
      exact pv_iret (M := mX7_digitAhead) dX7_digitAhead_44 rfl rfl ⟨_, rfl, rfl, by decide, by decide, ⟨Or.inl rfl, Or.inr ⟨by decide, by first | (unfold tC; rw [if_neg (by omega)]; decide) | (unfold tC; rw [if_pos (by omega)]; exact dig_no (by omega))⟩⟩⟩
    · have c8 := iv_nlt (X := v6.toInt) (Y := 48) c8 rfl (by decide)
      refine pv_aload_n (M := mX7_digitAhead) 0 dX7_digitAhead_25 26 rfl rfl rfl ?_
      refine mv_get (M := mX7_digitAhead) (v := .ref 87) dX7_digitAhead_26 FX7 0 wd280 (by decide) (tl86 hT) rfl rfl 29 rfl ?_
      refine pv_aload_n (M := mX7_digitAhead) 0 dX7_digitAhead_29 30 rfl rfl rfl ?_
      refine iv_get (M := mX7_digitAhead) (l1 := 0) (l2 := 160) dX7_digitAhead_30 FX7 3 wd283 (by decide) (tl86 hT) rfl I rfl 33 rfl (fun v10 ev10 pv10 qv10 => ?_)
      have wv10 : v10.toInt = (m 86 3).toInt := congrArg Int32.toInt ev10
      refine iv_iald (M := mX7_digitAhead) (X := v10.toInt) (l1 := (-2147483648)) (l2 := 2147483647) dX7_digitAhead_33 (tl87 hT) rfl (by omega) (by omega) I (fun _ => rfl) 34 rfl (fun v11 ev11 pv11 qv11 => ?_)
      have k33 : v11.toInt = (m 87 (m 86 3).toInt.toNat).toInt := (congrArg Int32.toInt ev11).trans (congrArg (fun z => (m 87 z).toInt) (by omega))
      refine pv_bipush (M := mX7_digitAhead) (v := 57) dX7_digitAhead_34 36 rfl (by decide) ?_
      refine pv_icmp_gt (M := mX7_digitAhead) (tgt := 43) dX7_digitAhead_36 39 rfl (by decide) (fun c13 => ?_) (fun c13 => ?_)
      · have c13 := iv_lt (X := 57) (Y := v11.toInt) c13 (by decide) rfl
        refine pv_iconst (M := mX7_digitAhead) (v := 0) dX7_digitAhead_43 44 rfl (by decide) ?_
        have z14 : (0 : Int32).toInt = 0 := by decide
        exact pv_iret (M := mX7_digitAhead) dX7_digitAhead_44 rfl rfl ⟨_, rfl, rfl, by decide, by decide, ⟨Or.inl rfl, Or.inr ⟨by decide, by first | (unfold tC; rw [if_neg (by omega)]; decide) | (unfold tC; rw [if_pos (by omega)]; exact dig_no (by omega))⟩⟩⟩
      · have c13 := iv_nlt (X := 57) (Y := v11.toInt) c13 (by decide) rfl
        refine pv_iconst (M := mX7_digitAhead) (v := 1) dX7_digitAhead_39 40 rfl (by decide) ?_
        refine pv_goto (M := mX7_digitAhead) (tgt := 44) dX7_digitAhead_40 (by decide) ?_
        have z15 : (1 : Int32).toInt = 1 := by decide
        exact pv_iret (M := mX7_digitAhead) dX7_digitAhead_44 rfl rfl ⟨_, rfl, rfl, by decide, by decide, ⟨Or.inr (by omega), Or.inl ⟨by decide, by unfold tC; rw [if_pos (by omega)]; exact dig_y (by omega) (by omega)⟩⟩⟩

set_option maxHeartbeats 2000000 in
set_option maxRecDepth 20000 in
theorem s_X7_timesAhead_vx (g : pv_G) {T : List mv_T} {m : Nat → Nat → Int32} {n : Nat → Nat → Int64} {r : Nat → Value} {la lb : Nat} (hT : TX T) (I : IV BB m) (R : RX T r la lb) : PM g mX7_timesAhead yX7_timesAhead (sqP (mk T m n r) 0 1 (fun v => (v = 0 ∨ (m 86 3).toInt < (m 86 2).toInt) ∧ ((v.toInt = 1 ∧ isT (tC m (m 86 3).toInt) = true) ∨ (v.toInt = 0 ∧ isT (tC m (m 86 3).toInt) = false)))) 2 0 0 [.ref 86] (mk T m n r) := by
  have Kp : fr (wl []) m m := fr.rf
  have R0 := R
  have zR := R.2.2.2.2.1.1
  have zR2 := R.2.2.2.2.2.1
  refine PM.of 1 (lo := [.ref 86, pv_U]) rfl (by decide) rfl rfl (Nat.le_of_ble_eq_true rfl) ?_
  refine pv_aload_n (M := mX7_timesAhead) 0 dX7_timesAhead_0 1 rfl rfl rfl ?_
  refine pv_callv (M := mX7_timesAhead) (as := []) (st := []) (kc2 := 0) (ks2 := 0) dX7_timesAhead_1 wd527 YX7_peek ⟨wd529, wd2⟩ (mk_get (tl86 hT)) rfl rfl (s_X7_peek_vx g hT I R) rfl rfl (Nat.le_of_ble_eq_true rfl) (by decide) rfl rfl 4 rfl (fun rv h1 q1 => ?_)
  obtain ⟨v2, rfl, rfl, pv2, qv2, rv2⟩ := q1
  replace rv2 : v2.toInt = tC m (m 86 3).toInt ∧ (v2.toInt = -1 ∨ (m 86 3).toInt < (m 86 2).toInt) := rv2
  show PV _ _ _ _ _ _ _ 4 [.ref 86, pv_U] [.int v2] _
  have k4 := rv2.1
  have k4b := rv2.2
  refine pv_istore_n (M := mX7_timesAhead) 1 (lo2 := [.ref 86, .int v2]) dX7_timesAhead_4 5 rfl rfl (by decide) rfl rfl ?_
  refine pv_iload_n (M := mX7_timesAhead) 1 dX7_timesAhead_5 6 rfl rfl rfl ?_
  refine pv_bipush (M := mX7_timesAhead) (v := 42) dX7_timesAhead_6 8 rfl (by decide) ?_
  refine pv_icmp_eq (M := mX7_timesAhead) (tgt := 23) dX7_timesAhead_8 11 rfl (by decide) (fun c5 => ?_) (fun c5 => ?_)
  · have c5 := iv_eq (X := v2.toInt) (Y := 42) c5 rfl (by decide)
    refine pv_iconst (M := mX7_timesAhead) (v := 1) dX7_timesAhead_23 24 rfl (by decide) ?_
    refine pv_goto (M := mX7_timesAhead) (tgt := 28) dX7_timesAhead_24 (by decide) ?_
    have z6 : (1 : Int32).toInt = 1 := by decide
    exact pv_iret (M := mX7_timesAhead) dX7_timesAhead_28 rfl rfl ⟨_, rfl, rfl, by decide, by decide, ⟨Or.inr (by omega), Or.inl ⟨by decide, by rw [← k4]; exact isT_y (by omega)⟩⟩⟩
  · have c5 := iv_ne (X := v2.toInt) (Y := 42) c5 rfl (by decide)
    refine pv_iload_n (M := mX7_timesAhead) 1 dX7_timesAhead_11 12 rfl rfl rfl ?_
    refine pv_bipush (M := mX7_timesAhead) (v := 47) dX7_timesAhead_12 14 rfl (by decide) ?_
    refine pv_icmp_eq (M := mX7_timesAhead) (tgt := 23) dX7_timesAhead_14 17 rfl (by decide) (fun c7 => ?_) (fun c7 => ?_)
    · have c7 := iv_eq (X := v2.toInt) (Y := 47) c7 rfl (by decide)
      refine pv_iconst (M := mX7_timesAhead) (v := 1) dX7_timesAhead_23 24 rfl (by decide) ?_
      refine pv_goto (M := mX7_timesAhead) (tgt := 28) dX7_timesAhead_24 (by decide) ?_
      have z8 : (1 : Int32).toInt = 1 := by decide
      exact pv_iret (M := mX7_timesAhead) dX7_timesAhead_28 rfl rfl ⟨_, rfl, rfl, by decide, by decide, ⟨Or.inr (by omega), Or.inl ⟨by decide, by rw [← k4]; exact isT_y (by omega)⟩⟩⟩
    · have c7 := iv_ne (X := v2.toInt) (Y := 47) c7 rfl (by decide)
      refine pv_iload_n (M := mX7_timesAhead) 1 dX7_timesAhead_17 18 rfl rfl rfl ?_
      refine pv_bipush (M := mX7_timesAhead) (v := 37) dX7_timesAhead_18 20 rfl (by decide) ?_
      refine pv_icmp_ne (M := mX7_timesAhead) (tgt := 27) dX7_timesAhead_20 23 rfl (by decide) (fun c9 => ?_) (fun c9 => ?_)
      · have c9 := iv_ne (X := v2.toInt) (Y := 37) c9 rfl (by decide)
        refine pv_iconst (M := mX7_timesAhead) (v := 0) dX7_timesAhead_27 28 rfl (by decide) ?_
        have z10 : (0 : Int32).toInt = 0 := by decide
        exact pv_iret (M := mX7_timesAhead) dX7_timesAhead_28 rfl rfl ⟨_, rfl, rfl, by decide, by decide, ⟨Or.inl rfl, Or.inr ⟨by decide, by rw [← k4]; exact isT_no (by omega) (by omega) (by omega)⟩⟩⟩
      · have c9 := iv_eq (X := v2.toInt) (Y := 37) c9 rfl (by decide)
        refine pv_iconst (M := mX7_timesAhead) (v := 1) dX7_timesAhead_23 24 rfl (by decide) ?_
        refine pv_goto (M := mX7_timesAhead) (tgt := 28) dX7_timesAhead_24 (by decide) ?_
        have z11 : (1 : Int32).toInt = 1 := by decide
        exact pv_iret (M := mX7_timesAhead) dX7_timesAhead_28 rfl rfl ⟨_, rfl, rfl, by decide, by decide, ⟨Or.inr (by omega), Or.inl ⟨by decide, by rw [← k4]; exact isT_y (by omega)⟩⟩⟩

set_option maxHeartbeats 2000000 in
set_option maxRecDepth 20000 in
theorem s_X7_readNumber_vx (g : pv_G) {T : List mv_T} {m : Nat → Nat → Int32} {n : Nat → Nat → Int64} {r : Nat → Value} {la lb : Nat} (hT : TX T) (I : IV BB m) (R : RX T r la lb) (hp0 : (m 86 3).toInt ≤ (m 86 2).toInt) : PM g mX7_readNumber yX7_readNumber (sqI T BB wR7 r m 0 1 (fun m' v => (m 86 3).toInt ≤ (m' 86 3).toInt ∧ (m' 86 3).toInt ≤ (m' 86 2).toInt ∧ (m' 86 2).toInt = (m 86 2).toInt ∧ (RSX (nd (tC m) 5 (m 86 3).toInt) v.toInt (m' 86 3).toInt (m' 86 4).toInt) ∧ (m' lb 7).toInt = (m lb 7).toInt)) 2 0 0 [.ref 86] (mk T m n r) := by
  have Kp : fr wR7 m m := fr.rf
  have R0 := R
  have zR := R.2.2.2.2.1.1
  have zR2 := R.2.2.2.2.2.1
  have z104 : 0 ≤ (m 86 3).toInt ∧ (m 86 3).toInt ≤ 160 := I 86 3
  have z105 : 0 ≤ (m 86 2).toInt ∧ (m 86 2).toInt ≤ 160 := I 86 2
  refine PM.of 2 (lo := [.ref 86, pv_U, pv_U]) rfl (by decide) rfl rfl (Nat.le_of_ble_eq_true rfl) ?_
  refine pv_iconst (M := mX7_readNumber) (v := 0) dX7_readNumber_0 1 rfl (by decide) ?_
  refine pv_istore_n (M := mX7_readNumber) 1 (lo2 := [.ref 86, .int 0, pv_U]) dX7_readNumber_1 2 rfl rfl (by decide) rfl rfl ?_
  refine pv_iconst (M := mX7_readNumber) (v := 0) dX7_readNumber_2 3 rfl (by decide) ?_
  refine pv_istore_n (M := mX7_readNumber) 2 (lo2 := [.ref 86, .int 0, .int 0]) dX7_readNumber_3 4 rfl rfl (by decide) rfl rfl ?_
  have lp8 : ∀ (fuel7 : Nat) (y1 : Int32) (y2 : Int32) (m3 : Nat → Nat → Int32) (n4 : Nat → Nat → Int64), (0 ≤ y1.toInt) → (y1.toInt ≤ 99999) → (0 ≤ y2.toInt) → (y2.toInt ≤ 5) → (y1.toInt + 1 ≤ pow10 y2.toInt) → ((m 86 3).toInt ≤ (m3 86 3).toInt) → ((m3 86 3).toInt ≤ (m3 86 2).toInt) → ((m3 86 2).toInt = (m 86 2).toInt) → ((m3 lb 7).toInt = (m lb 7).toInt) → (nd (tC m) 5 (m 86 3).toInt = nd (tC m) (5 - y2.toInt).toNat (m3 86 3).toInt) → IV BB m3 → fr wR7 m m3 → ((5 - y2.toInt) : Int).toNat < fuel7 → PV none g mX7_readNumber (sqI T BB wR7 r m 0 1 (fun m' v => (m 86 3).toInt ≤ (m' 86 3).toInt ∧ (m' 86 3).toInt ≤ (m' 86 2).toInt ∧ (m' 86 2).toInt = (m 86 2).toInt ∧ (RSX (nd (tC m) 5 (m 86 3).toInt) v.toInt (m' 86 3).toInt (m' 86 4).toInt) ∧ (m' lb 7).toInt = (m lb 7).toInt)) 2 0 0 4 [.ref 86, .int y1, .int y2] [] (mk T m3 n4 r) := by
    intro fuel7
    induction fuel7 with
    | zero => intro y1 y2 m3 n4 b10 b11 b12 b13 b14 b15 b16 b17 b18 b19 I5 K6 z20; omega
    | succ fuel7 ih9 =>
      intro y1 y2 m3 n4 b10 b11 b12 b13 b14 b15 b16 b17 b18 b19 I5 K6 z20
      have z21 : 0 ≤ (m3 86 3).toInt ∧ (m3 86 3).toInt ≤ 160 := I5 86 3
      have z22 : 0 ≤ (m3 86 2).toInt ∧ (m3 86 2).toInt ≤ 160 := I5 86 2
      have kgn := (show nd (tC m) 5 (m 86 3).toInt = nd (tC m) (5 - y2.toInt).toNat (m3 86 3).toInt by assumption)
      have kt4 : tC m3 = tC m := tC_eq (K6 86 2 rfl) (fun j => K6 87 j rfl)
      have kt4b : tC m3 = tC m := kt4
      refine pv_iload_n (M := mX7_readNumber) 2 dX7_readNumber_4 5 rfl rfl rfl ?_
      refine pv_iconst (M := mX7_readNumber) (v := 5) dX7_readNumber_5 6 rfl (by decide) ?_
      refine pv_icmp_ge (M := mX7_readNumber) (tgt := 50) dX7_readNumber_6 9 rfl (by decide) (fun c26 => ?_) (fun c26 => ?_)
      · have c26 := iv_le (X := 5) (Y := y2.toInt) c26 (by decide) rfl
        refine pv_aload_n (M := mX7_readNumber) 0 dX7_readNumber_50 51 rfl rfl rfl ?_
        refine pv_callv (M := mX7_readNumber) (as := []) (st := []) (kc2 := 0) (ks2 := 0) dX7_readNumber_51 wd559 YX7_digitAhead ⟨wd561, wd9⟩ (mk_get (tl86 hT)) rfl rfl (s_X7_digitAhead_vx g hT I5 R) rfl rfl (Nat.le_of_ble_eq_true rfl) (by decide) rfl rfl 54 rfl (fun rv h1 q27 => ?_)
        obtain ⟨v28, rfl, rfl, pv28, qv28, rv28⟩ := q27
        replace rv28 : (v28 = 0 ∨ ((m3 86 3).toInt < (m3 86 2).toInt ∧ 48 ≤ (m3 87 (m3 86 3).toInt.toNat).toInt ∧ (m3 87 (m3 86 3).toInt.toNat).toInt ≤ 57)) ∧ ((v28.toInt = 1 ∧ dig (tC m3 (m3 86 3).toInt) = true) ∨ (v28.toInt = 0 ∧ dig (tC m3 (m3 86 3).toInt) = false)) := rv28
        show PV _ _ _ _ _ _ _ 54 [.ref 86, .int y1, .int y2] [.int v28] _
        have k54 := rv28.2
        rw [kt4] at k54
        refine pv_if_eq (M := mX7_readNumber) (tgt := 63) dX7_readNumber_54 57 rfl (by decide) (fun c31 => ?_) (fun c31 => ?_)
        · have c31 := iv_eq (X := v28.toInt) (Y := 0) c31 rfl (by decide)
          have kdn := (k54.resolve_left (fun q => by have q1 := q.1; omega)).2
          refine pv_aload_n (M := mX7_readNumber) 0 dX7_readNumber_63 64 rfl rfl rfl ?_
          refine mv_get (M := mX7_readNumber) (v := .ref lb) dX7_readNumber_64 FX7 1 wd281 (by decide) (tl86 hT) rfl R.2.2.2.1 67 rfl ?_
          refine pv_bipush (M := mX7_readNumber) (v := 35) dX7_readNumber_67 69 rfl (by decide) ?_
          refine pv_iload_n (M := mX7_readNumber) 1 dX7_readNumber_69 70 rfl rfl rfl ?_
          have z33 : (35 : Int32).toInt = 35 := by decide
          refine pv_callv (M := mX7_readNumber) (as := [.int 35, .int y1]) (st := []) (kc2 := 0) (ks2 := 0) dX7_readNumber_70 wd567 YX6_emit ⟨wd568, wd569⟩ (mk_get R.2.2.2.2.2.2.1) rfl rfl (s_X6_emit_vx g hT I5 lb R.2.2.2.2.2 35 y1 (by omega) (by omega)) rfl rfl (Nat.le_of_ble_eq_true rfl) (by decide) rfl rfl 73 rfl (fun rv h1 q34 => ?_)
          obtain ⟨m35, n36, rfl, rfl, I37, K38, rm35⟩ := q34
          replace rm35 : (m35 lb 7).toInt = (m3 lb 7).toInt := rm35
          have K38c := K38
          have w39 : (m35 86 3).toInt = (m3 86 3).toInt := congrArg Int32.toInt (K38 86 3 (wr_out (by omega)))
          have w40 : (m35 86 2).toInt = (m3 86 2).toInt := congrArg Int32.toInt (K38 86 2 (wr_out (by omega)))
          have w41 : (m35 86 4).toInt = (m3 86 4).toInt := congrArg Int32.toInt (K38 86 4 (wr_out (by omega)))
          have K38 := K6.trans (K38.sub (by first | exact wR7_r (by omega) | exact wR7_wr))
          show PV _ _ _ _ _ _ _ 73 [.ref 86, .int y1, .int y2] [] _
          refine pv_iconst (M := mX7_readNumber) (v := 1) dX7_readNumber_73 74 rfl (by decide) ?_
          have z42 : (1 : Int32).toInt = 1 := by decide
          exact pv_iret (M := mX7_readNumber) dX7_readNumber_74 rfl rfl ⟨_, _, _, rfl, rfl, I37, K38, by decide, by decide, ⟨by omega, by omega, by omega, Or.inl ⟨by decide, by rw [kgn, nd_no kdn, show (m3 86 3).toInt = (m35 86 3).toInt by omega]⟩, by omega⟩⟩
        · have pc31 := rv28.1.resolve_left c31
          have c31 := iv_ne (X := v28.toInt) (Y := 0) c31 rfl (by decide)
          have kd2 := (k54.resolve_right (fun q => by have q1 := q.1; omega)).2
          refine pv_aload_n (M := mX7_readNumber) 0 dX7_readNumber_57 58 rfl rfl rfl ?_
          refine pv_iconst (M := mX7_readNumber) (v := 2) dX7_readNumber_58 59 rfl (by decide) ?_
          have z44 : (2 : Int32).toInt = 2 := by decide
          refine pv_callv (M := mX7_readNumber) (as := [.int 2]) (st := []) (kc2 := 0) (ks2 := 0) dX7_readNumber_59 wd531 YX7_fail ⟨wd533, wd3⟩ (mk_get (tl86 hT)) rfl rfl (s_X7_fail_vx g hT I5 R 2 (by decide) (by decide) (by first | omega | assumption | exact (iv_rng _).2 | exact (iv_rng _).1 | decide)) rfl rfl (Nat.le_of_ble_eq_true rfl) (by decide) rfl rfl 62 rfl (fun rv h1 q45 => ?_)
          obtain ⟨m46, n47, v50, rfl, rfl, I48, K49, pv50, qv50, rv50⟩ := q45
          replace rv50 : (m3 86 3).toInt ≤ (m46 86 3).toInt ∧ (m46 86 3).toInt ≤ (m46 86 2).toInt ∧ (m46 86 2).toInt = (m3 86 2).toInt ∧ (v50.toInt = 0 ∧ (m46 86 3).toInt = (m3 86 3).toInt ∧ (m46 86 4).toInt = -1000 * (2 : Int) - (m3 86 3).toInt) ∧ (m46 lb 7).toInt = (m3 lb 7).toInt := by have q_ := rv50; (try rw [z44] at q_); exact q_
          have K49c := K49
          have K49 := K6.trans (K49.sub (fun _ _ q => q))
          show PV _ _ _ _ _ _ _ 62 [.ref 86, .int y1, .int y2] [.int v50] _
          exact pv_iret (M := mX7_readNumber) dX7_readNumber_62 rfl (iv_nz (by omega) (by omega)) ⟨_, _, _, rfl, rfl, I48, K49, by omega, by omega, ⟨by omega, by omega, by omega, (by first | exact Or.inr ⟨by omega, FLT_of (a := 2) (p := (m3 86 3).toInt) (by rw [kgn, show (5 - y2.toInt).toNat = 0 by omega]; exact nd_2 kd2) (by decide) (by omega)⟩ | (exfalso; rw [kt4] at k13; have w := (k13.resolve_left (fun q => by have q1 := q.1; omega)).2; rw [kd2] at w; cases w)), by omega⟩⟩
      · have c26 := iv_nle (X := 5) (Y := y2.toInt) c26 (by decide) rfl
        refine pv_aload_n (M := mX7_readNumber) 0 dX7_readNumber_9 10 rfl rfl rfl ?_
        refine pv_callv (M := mX7_readNumber) (as := []) (st := []) (kc2 := 0) (ks2 := 0) dX7_readNumber_10 wd559 YX7_digitAhead ⟨wd561, wd9⟩ (mk_get (tl86 hT)) rfl rfl (s_X7_digitAhead_vx g hT I5 R) rfl rfl (Nat.le_of_ble_eq_true rfl) (by decide) rfl rfl 13 rfl (fun rv h1 q51 => ?_)
        obtain ⟨v52, rfl, rfl, pv52, qv52, rv52⟩ := q51
        replace rv52 : (v52 = 0 ∨ ((m3 86 3).toInt < (m3 86 2).toInt ∧ 48 ≤ (m3 87 (m3 86 3).toInt.toNat).toInt ∧ (m3 87 (m3 86 3).toInt.toNat).toInt ≤ 57)) ∧ ((v52.toInt = 1 ∧ dig (tC m3 (m3 86 3).toInt) = true) ∨ (v52.toInt = 0 ∧ dig (tC m3 (m3 86 3).toInt) = false)) := rv52
        show PV _ _ _ _ _ _ _ 13 [.ref 86, .int y1, .int y2] [.int v52] _
        have k13 := rv52.2
        refine pv_if_eq (M := mX7_readNumber) (tgt := 50) dX7_readNumber_13 16 rfl (by decide) (fun c54 => ?_) (fun c54 => ?_)
        · have c54 := iv_eq (X := v52.toInt) (Y := 0) c54 rfl (by decide)
          refine pv_aload_n (M := mX7_readNumber) 0 dX7_readNumber_50 51 rfl rfl rfl ?_
          refine pv_callv (M := mX7_readNumber) (as := []) (st := []) (kc2 := 0) (ks2 := 0) dX7_readNumber_51 wd559 YX7_digitAhead ⟨wd561, wd9⟩ (mk_get (tl86 hT)) rfl rfl (s_X7_digitAhead_vx g hT I5 R) rfl rfl (Nat.le_of_ble_eq_true rfl) (by decide) rfl rfl 54 rfl (fun rv h1 q55 => ?_)
          obtain ⟨v56, rfl, rfl, pv56, qv56, rv56⟩ := q55
          replace rv56 : (v56 = 0 ∨ ((m3 86 3).toInt < (m3 86 2).toInt ∧ 48 ≤ (m3 87 (m3 86 3).toInt.toNat).toInt ∧ (m3 87 (m3 86 3).toInt.toNat).toInt ≤ 57)) ∧ ((v56.toInt = 1 ∧ dig (tC m3 (m3 86 3).toInt) = true) ∨ (v56.toInt = 0 ∧ dig (tC m3 (m3 86 3).toInt) = false)) := rv56
          show PV _ _ _ _ _ _ _ 54 [.ref 86, .int y1, .int y2] [.int v56] _
          have k54 := rv56.2
          rw [kt4] at k54
          refine pv_if_eq (M := mX7_readNumber) (tgt := 63) dX7_readNumber_54 57 rfl (by decide) (fun c59 => ?_) (fun c59 => ?_)
          · have c59 := iv_eq (X := v56.toInt) (Y := 0) c59 rfl (by decide)
            have kdn := (k54.resolve_left (fun q => by have q1 := q.1; omega)).2
            refine pv_aload_n (M := mX7_readNumber) 0 dX7_readNumber_63 64 rfl rfl rfl ?_
            refine mv_get (M := mX7_readNumber) (v := .ref lb) dX7_readNumber_64 FX7 1 wd281 (by decide) (tl86 hT) rfl R.2.2.2.1 67 rfl ?_
            refine pv_bipush (M := mX7_readNumber) (v := 35) dX7_readNumber_67 69 rfl (by decide) ?_
            refine pv_iload_n (M := mX7_readNumber) 1 dX7_readNumber_69 70 rfl rfl rfl ?_
            have z61 : (35 : Int32).toInt = 35 := by decide
            refine pv_callv (M := mX7_readNumber) (as := [.int 35, .int y1]) (st := []) (kc2 := 0) (ks2 := 0) dX7_readNumber_70 wd567 YX6_emit ⟨wd568, wd569⟩ (mk_get R.2.2.2.2.2.2.1) rfl rfl (s_X6_emit_vx g hT I5 lb R.2.2.2.2.2 35 y1 (by omega) (by omega)) rfl rfl (Nat.le_of_ble_eq_true rfl) (by decide) rfl rfl 73 rfl (fun rv h1 q62 => ?_)
            obtain ⟨m63, n64, rfl, rfl, I65, K66, rm63⟩ := q62
            replace rm63 : (m63 lb 7).toInt = (m3 lb 7).toInt := rm63
            have K66c := K66
            have w67 : (m63 86 3).toInt = (m3 86 3).toInt := congrArg Int32.toInt (K66 86 3 (wr_out (by omega)))
            have w68 : (m63 86 2).toInt = (m3 86 2).toInt := congrArg Int32.toInt (K66 86 2 (wr_out (by omega)))
            have w69 : (m63 86 4).toInt = (m3 86 4).toInt := congrArg Int32.toInt (K66 86 4 (wr_out (by omega)))
            have K66 := K6.trans (K66.sub (by first | exact wR7_r (by omega) | exact wR7_wr))
            show PV _ _ _ _ _ _ _ 73 [.ref 86, .int y1, .int y2] [] _
            refine pv_iconst (M := mX7_readNumber) (v := 1) dX7_readNumber_73 74 rfl (by decide) ?_
            have z70 : (1 : Int32).toInt = 1 := by decide
            exact pv_iret (M := mX7_readNumber) dX7_readNumber_74 rfl rfl ⟨_, _, _, rfl, rfl, I65, K66, by decide, by decide, ⟨by omega, by omega, by omega, Or.inl ⟨by decide, by rw [kgn, nd_no kdn, show (m3 86 3).toInt = (m63 86 3).toInt by omega]⟩, by omega⟩⟩
          · have pc59 := rv56.1.resolve_left c59
            have c59 := iv_ne (X := v56.toInt) (Y := 0) c59 rfl (by decide)
            have kd2 := (k54.resolve_right (fun q => by have q1 := q.1; omega)).2
            refine pv_aload_n (M := mX7_readNumber) 0 dX7_readNumber_57 58 rfl rfl rfl ?_
            refine pv_iconst (M := mX7_readNumber) (v := 2) dX7_readNumber_58 59 rfl (by decide) ?_
            have z72 : (2 : Int32).toInt = 2 := by decide
            refine pv_callv (M := mX7_readNumber) (as := [.int 2]) (st := []) (kc2 := 0) (ks2 := 0) dX7_readNumber_59 wd531 YX7_fail ⟨wd533, wd3⟩ (mk_get (tl86 hT)) rfl rfl (s_X7_fail_vx g hT I5 R 2 (by decide) (by decide) (by first | omega | assumption | exact (iv_rng _).2 | exact (iv_rng _).1 | decide)) rfl rfl (Nat.le_of_ble_eq_true rfl) (by decide) rfl rfl 62 rfl (fun rv h1 q73 => ?_)
            obtain ⟨m74, n75, v78, rfl, rfl, I76, K77, pv78, qv78, rv78⟩ := q73
            replace rv78 : (m3 86 3).toInt ≤ (m74 86 3).toInt ∧ (m74 86 3).toInt ≤ (m74 86 2).toInt ∧ (m74 86 2).toInt = (m3 86 2).toInt ∧ (v78.toInt = 0 ∧ (m74 86 3).toInt = (m3 86 3).toInt ∧ (m74 86 4).toInt = -1000 * (2 : Int) - (m3 86 3).toInt) ∧ (m74 lb 7).toInt = (m3 lb 7).toInt := by have q_ := rv78; (try rw [z72] at q_); exact q_
            have K77c := K77
            have K77 := K6.trans (K77.sub (fun _ _ q => q))
            show PV _ _ _ _ _ _ _ 62 [.ref 86, .int y1, .int y2] [.int v78] _
            exact pv_iret (M := mX7_readNumber) dX7_readNumber_62 rfl (iv_nz (by omega) (by omega)) ⟨_, _, _, rfl, rfl, I76, K77, by omega, by omega, ⟨by omega, by omega, by omega, (by first | exact Or.inr ⟨by omega, FLT_of (a := 2) (p := (m3 86 3).toInt) (by rw [kgn, show (5 - y2.toInt).toNat = 0 by omega]; exact nd_2 kd2) (by decide) (by omega)⟩ | (exfalso; rw [kt4] at k13; have w := (k13.resolve_left (fun q => by have q1 := q.1; omega)).2; rw [kd2] at w; cases w)), by omega⟩⟩
        · have pc54 := rv52.1.resolve_left c54
          have c54 := iv_ne (X := v52.toInt) (Y := 0) c54 rfl (by decide)
          have kd := (k13.resolve_right (fun q => by have q1 := q.1; omega)).2
          rw [kt4] at kd
          refine pv_iload_n (M := mX7_readNumber) 1 dX7_readNumber_16 17 rfl rfl rfl ?_
          refine pv_bipush (M := mX7_readNumber) (v := 10) dX7_readNumber_17 19 rfl (by decide) ?_
          refine iv_imul (M := mX7_readNumber) (X := y1.toInt) (Y := 10) dX7_readNumber_19 20 rfl rfl (by decide) (by omega) (by omega) (fun v81 ev81 => ?_)
          refine pv_aload_n (M := mX7_readNumber) 0 dX7_readNumber_20 21 rfl rfl rfl ?_
          refine mv_get (M := mX7_readNumber) (v := .ref 87) dX7_readNumber_21 FX7 0 wd280 (by decide) (tl86 hT) rfl rfl 24 rfl ?_
          refine pv_aload_n (M := mX7_readNumber) 0 dX7_readNumber_24 25 rfl rfl rfl ?_
          refine iv_get (M := mX7_readNumber) (l1 := 0) (l2 := 160) dX7_readNumber_25 FX7 3 wd283 (by decide) (tl86 hT) rfl I5 rfl 28 rfl (fun v82 ev82 pv82 qv82 => ?_)
          have wv82 : v82.toInt = (m3 86 3).toInt := congrArg Int32.toInt ev82
          refine iv_iald (M := mX7_readNumber) (X := v82.toInt) (l1 := (-2147483648)) (l2 := 2147483647) dX7_readNumber_28 (tl87 hT) rfl (by omega) (by omega) I5 (fun _ => rfl) 29 rfl (fun v83 ev83 pv83 qv83 => ?_)
          have k29 : v83.toInt = (m3 87 (m3 86 3).toInt.toNat).toInt := (congrArg Int32.toInt ev83).trans (congrArg (fun z => (m3 87 z).toInt) (by omega))
          refine iv_iadd (M := mX7_readNumber) (X := v81.toInt) (Y := v83.toInt) dX7_readNumber_29 30 rfl rfl rfl (by omega) (by omega) (fun v85 ev85 => ?_)
          refine pv_bipush (M := mX7_readNumber) (v := 48) dX7_readNumber_30 32 rfl (by decide) ?_
          refine iv_isub (M := mX7_readNumber) (X := v85.toInt) (Y := 48) dX7_readNumber_32 33 rfl rfl (by decide) (by omega) (by omega) (fun v86 ev86 => ?_)
          have kz := pow10_4 (k := y2.toInt) (by omega)
          refine pv_istore_n (M := mX7_readNumber) 1 (lo2 := [.ref 86, .int v86, .int y2]) dX7_readNumber_33 34 rfl rfl (by decide) rfl rfl ?_
          refine pv_aload_n (M := mX7_readNumber) 0 dX7_readNumber_34 35 rfl rfl rfl ?_
          refine pv_dup (M := mX7_readNumber) dX7_readNumber_35 36 rfl rfl ?_
          refine iv_get (M := mX7_readNumber) (l1 := 0) (l2 := 160) dX7_readNumber_36 FX7 3 wd283 (by decide) (tl86 hT) rfl I5 rfl 39 rfl (fun v88 ev88 pv88 qv88 => ?_)
          have wv88 : v88.toInt = (m3 86 3).toInt := congrArg Int32.toInt ev88
          refine pv_iconst (M := mX7_readNumber) (v := 1) dX7_readNumber_39 40 rfl (by decide) ?_
          refine iv_iadd (M := mX7_readNumber) (X := v88.toInt) (Y := 1) dX7_readNumber_40 41 rfl rfl (by decide) (by omega) (by omega) (fun v89 ev89 => ?_)
          refine iv_put (M := mX7_readNumber) (l1 := 0) (l2 := 160) dX7_readNumber_41 FX7 3 wd283 (by decide) rfl (tl86 hT) rfl rfl rfl I5 rfl (by omega) (by omega) 44 rfl (fun m90 e93 I91 => ?_)
          have K92 := K6.set e93 (by decide)
          have w94 : (m90 86 3).toInt = v89.toInt := by rw [e93, up2_eq]
          have w95 : (m90 86 2).toInt = (m3 86 2).toInt := by rw [e93, up2_ne (by omega)]
          have w96 : (m90 86 4).toInt = (m3 86 4).toInt := by rw [e93, up2_ne (by omega)]
          have w97 : (m90 lb 7).toInt = (m3 lb 7).toInt := by rw [e93, up2_ne (by omega)]
          refine iv_inc (M := mX7_readNumber) (C := 1) dX7_readNumber_44 47 rfl rfl (by decide) rfl rfl (by decide) (by omega) (by omega) (fun v98 ev98 => ?_)
          show PV _ _ _ _ _ _ _ 47 [.ref 86, .int v86, .int v98] [] _
          refine pv_goto (M := mX7_readNumber) (tgt := 4) dX7_readNumber_47 (by decide) ?_
          have kp := pow10_s (k := v98.toInt) (by omega) (by omega)
          have kq : pow10 (v98.toInt - 1) = pow10 y2.toInt := congrArg pow10 (by omega)
          have kbn : nd (tC m) 5 (m 86 3).toInt = nd (tC m) (5 - v98.toInt).toNat (m90 86 3).toInt := by rw [kgn, show (5 - y2.toInt).toNat = (5 - v98.toInt).toNat + 1 by omega, nd_y kd, show (m3 86 3).toInt + 1 = (m90 86 3).toInt by omega]
          exact ih9 v86 v98 m90 n4 (by first | omega | assumption | exact (iv_rng _).2 | exact (iv_rng _).1 | decide) (by first | omega | assumption | exact (iv_rng _).2 | exact (iv_rng _).1 | decide) (by first | omega | assumption | exact (iv_rng _).2 | exact (iv_rng _).1 | decide) (by first | omega | assumption | exact (iv_rng _).2 | exact (iv_rng _).1 | decide) (by first | omega | assumption | (show v86.toInt + 1 ≤ pow10 v98.toInt; omega) | decide) (by first | omega | assumption | (show (m 86 3).toInt ≤ (m90 86 3).toInt; omega) | decide) (by first | omega | assumption | (show (m90 86 3).toInt ≤ (m90 86 2).toInt; omega) | decide) (by first | omega | assumption | (show (m90 86 2).toInt = (m 86 2).toInt; omega) | decide) (by first | omega | assumption | (show (m90 lb 7).toInt = (m lb 7).toInt; omega) | decide) kbn I91 K92 (by omega)
  have z102 : (0 : Int32).toInt = 0 := by decide
  have z103 : (0 : Int32).toInt = 0 := by decide
  exact lp8 (((5 - 0) : Int).toNat + 1) 0 0 m n (by first | omega | assumption | exact (iv_rng _).2 | exact (iv_rng _).1 | decide) (by first | omega | assumption | exact (iv_rng _).2 | exact (iv_rng _).1 | decide) (by first | omega | assumption | exact (iv_rng _).2 | exact (iv_rng _).1 | decide) (by first | omega | assumption | exact (iv_rng _).2 | exact (iv_rng _).1 | decide) (by decide) (by first | omega | assumption | (show (m 86 3).toInt ≤ (m 86 3).toInt; omega) | decide) (by first | omega | assumption | (show (m 86 3).toInt ≤ (m 86 2).toInt; omega) | decide) (by first | omega | assumption | (show (m 86 2).toInt = (m 86 2).toInt; omega) | decide) (by first | omega | assumption | (show (m lb 7).toInt = (m lb 7).toInt; omega) | decide) (by rw [Int32.toInt_zero]; rfl) I Kp (by omega)

set_option maxHeartbeats 2000000 in
set_option maxRecDepth 20000 in
theorem s_J1_canEncode_9a6ad_vx (g : pv_G) {T : List mv_T} {m : Nat → Nat → Int32} {n : Nat → Nat → Int64} {r : Nat → Value} (hT : TX T) (I : IV BB m) (x0 : Int32) (hl0 : 0 ≤ x0.toInt) (hh0 : x0.toInt ≤ 255) : PM g mJ1_canEncode_9a6ad yJ1_canEncode_9a6ad (sqP (mk T m n r) 0 1 (fun v => v.toInt = 1)) 1 0 0 [.int x0] (mk T m n r) := by
  have Kp : fr (wl []) m m := fr.rf
  refine PM.of 0 (lo := [.int x0]) rfl (by decide) rfl rfl (Nat.le_of_ble_eq_true rfl) ?_
  refine pv_iload_n (M := mJ1_canEncode_9a6ad) 0 dJ1_canEncode_9a6ad_0 1 rfl rfl rfl ?_
  refine pv_if_lt (M := mJ1_canEncode_9a6ad) (tgt := 15) dJ1_canEncode_9a6ad_1 4 rfl (by decide) (fun c1 => ?_) (fun c1 => ?_)
  · have c1 := iv_lt (X := x0.toInt) (Y := 0) c1 rfl (by decide)
    omega
  · have c1 := iv_nlt (X := x0.toInt) (Y := 0) c1 rfl (by decide)
    refine pv_iload_n (M := mJ1_canEncode_9a6ad) 0 dJ1_canEncode_9a6ad_4 5 rfl rfl rfl ?_
    refine pv_sipush (M := mJ1_canEncode_9a6ad) (v := 255) dJ1_canEncode_9a6ad_5 8 rfl (by decide) ?_
    refine pv_icmp_gt (M := mJ1_canEncode_9a6ad) (tgt := 15) dJ1_canEncode_9a6ad_8 11 rfl (by decide) (fun c2 => ?_) (fun c2 => ?_)
    · have c2 := iv_lt (X := 255) (Y := x0.toInt) c2 (by decide) rfl
      omega
    · have c2 := iv_nlt (X := 255) (Y := x0.toInt) c2 (by decide) rfl
      refine pv_iconst (M := mJ1_canEncode_9a6ad) (v := 1) dJ1_canEncode_9a6ad_11 12 rfl (by decide) ?_
      refine pv_goto (M := mJ1_canEncode_9a6ad) (tgt := 16) dJ1_canEncode_9a6ad_12 (by decide) ?_
      have z3 : (1 : Int32).toInt = 1 := by decide
      exact pv_iret (M := mJ1_canEncode_9a6ad) dJ1_canEncode_9a6ad_16 rfl rfl ⟨_, rfl, rfl, by decide, by decide, (by decide)⟩

set_option maxHeartbeats 2000000 in
set_option maxRecDepth 20000 in
theorem s_J1_indexOfChar_4cfef_vx (g : pv_G) {T : List mv_T} {m : Nat → Nat → Int32} {n : Nat → Nat → Int64} {r : Nat → Value} (hT : TX T) (I : IV BB m) (x1 : Int32) (hl1 : 0 ≤ x1.toInt) (hh1 : x1.toInt ≤ 255) (x2 : Int32) (hl2 : 0 ≤ x2.toInt) (hh2 : x2.toInt ≤ 0) (x3 : Int32) (hl3 : 10 ≤ x3.toInt) (hh3 : x3.toInt ≤ 10) : PM g mJ1_indexOfChar_4cfef yJ1_indexOfChar_4cfef (sqP (mk T m n r) (-1) 9 (fun v => v.toInt = nix x1.toInt)) 1 0 0 [.retAddr (g.2.2.1 7 + 1), .int x1, .int x2, .int x3] (mk T m n r) := by
  have Kp : fr (wl []) m m := fr.rf
  refine PM.of 2 (lo := [.retAddr (g.2.2.1 7 + 1), .int x1, .int x2, .int x3, pv_U, pv_U]) rfl (by decide) rfl rfl (Nat.le_of_ble_eq_true rfl) ?_
  refine pv_iload_n (M := mJ1_indexOfChar_4cfef) 1 dJ1_indexOfChar_4cfef_0 1 rfl rfl rfl ?_
  refine iv_i2b (M := mJ1_indexOfChar_4cfef) dJ1_indexOfChar_4cfef_1 2 rfl (fun v1 ev1 pv1 qv1 => ?_)
  have k2 := ev1
  refine pv_istore (M := mJ1_indexOfChar_4cfef) (lo2 := [.retAddr (g.2.2.1 7 + 1), .int x1, .int x2, .int x3, .int v1, pv_U]) dJ1_indexOfChar_4cfef_2 4 rfl (by decide) rfl rfl ?_
  refine pv_iload_n (M := mJ1_indexOfChar_4cfef) 2 dJ1_indexOfChar_4cfef_4 5 rfl rfl rfl ?_
  refine pv_istore (M := mJ1_indexOfChar_4cfef) (lo2 := [.retAddr (g.2.2.1 7 + 1), .int x1, .int x2, .int x3, .int v1, .int x2]) dJ1_indexOfChar_4cfef_5 7 rfl (by decide) rfl rfl ?_
  have lp9 : ∀ (fuel8 : Nat) (y3 : Int32), (0 ≤ y3.toInt) → (y3.toInt ≤ 10) → (∀ j : Nat, (j : Int) < y3.toInt → (sby j).toInt ≠ x1.toInt) → ((10 - y3.toInt) : Int).toNat < fuel8 → PV none g mJ1_indexOfChar_4cfef (sqP (mk T m n r) (-1) 9 (fun v => v.toInt = nix x1.toInt)) 1 0 0 7 [.retAddr (g.2.2.1 7 + 1), .int x1, .int x2, .int x3, .int v1, .int y3] [] (mk T m n r) := by
    intro fuel8
    induction fuel8 with
    | zero => intro y3 b11 b12 b13 z14; omega
    | succ fuel8 ih10 =>
      intro y3 b11 b12 b13 z14
      have kg := (show ∀ j : Nat, (j : Int) < y3.toInt → (sby j).toInt ≠ x1.toInt by assumption)
      refine pv_iload (M := mJ1_indexOfChar_4cfef) dJ1_indexOfChar_4cfef_7 9 rfl rfl ?_
      refine pv_iload_n (M := mJ1_indexOfChar_4cfef) 3 dJ1_indexOfChar_4cfef_9 10 rfl rfl rfl ?_
      refine pv_icmp_ge (M := mJ1_indexOfChar_4cfef) (tgt := 31) dJ1_indexOfChar_4cfef_10 13 rfl (by decide) (fun c16 => ?_) (fun c16 => ?_)
      · have c16 := iv_le (X := x3.toInt) (Y := y3.toInt) c16 rfl rfl
        refine pv_iconst (M := mJ1_indexOfChar_4cfef) (v := (-1)) dJ1_indexOfChar_4cfef_31 32 rfl (by decide) ?_
        have z17 : ((-1) : Int32).toInt = (-1) := by decide
        exact pv_iret (M := mJ1_indexOfChar_4cfef) dJ1_indexOfChar_4cfef_32 rfl rfl ⟨_, rfl, rfl, by decide, by decide, (by rw [nix_none (fun j hj => kg j (by omega))]; show (-1 : Int32).toInt = -1; decide)⟩
      · have c16 := iv_nle (X := x3.toInt) (Y := y3.toInt) c16 rfl rfl
        refine pv_aloadS_n (M := mJ1_indexOfChar_4cfef) 0 dJ1_indexOfChar_4cfef_13 14 rfl rfl rfl ?_
        refine pv_iload (M := mJ1_indexOfChar_4cfef) dJ1_indexOfChar_4cfef_14 16 rfl rfl ?_
        refine pv_strldx (M := mJ1_indexOfChar_4cfef) (X := y3.toInt) dJ1_indexOfChar_4cfef_16 rfl (by omega) (by omega) 17 rfl (fun v18 ev18 => ?_)
        have k17 := ev18
        refine pv_iload (M := mJ1_indexOfChar_4cfef) dJ1_indexOfChar_4cfef_17 19 rfl rfl ?_
        have k19 : (v18.toInt = v1.toInt) ↔ ((sby y3.toInt.toNat).toInt = x1.toInt) := by rw [k17]; exact i2b_eq k2 (by omega) (by omega) (by omega)
        refine pv_icmp_ne (M := mJ1_indexOfChar_4cfef) (tgt := 25) dJ1_indexOfChar_4cfef_19 22 rfl (by decide) (fun c21 => ?_) (fun c21 => ?_)
        · have c21 := iv_ne (X := v18.toInt) (Y := v1.toInt) c21 rfl rfl
          refine iv_inc (M := mJ1_indexOfChar_4cfef) (C := 1) dJ1_indexOfChar_4cfef_25 28 rfl rfl (by decide) rfl rfl (by decide) (by omega) (by omega) (fun v22 ev22 => ?_)
          show PV _ _ _ _ _ _ _ 28 [.retAddr (g.2.2.1 7 + 1), .int x1, .int x2, .int x3, .int v1, .int v22] [] _
          refine pv_goto (M := mJ1_indexOfChar_4cfef) (tgt := 7) dJ1_indexOfChar_4cfef_28 (by decide) ?_
          have kb : ∀ j : Nat, (j : Int) < v22.toInt → (sby j).toInt ≠ x1.toInt := fun j hj => if z : (j : Int) = y3.toInt then (by rw [show j = (y3.toInt).toNat by omega]; exact fun q => absurd (k19.mpr q) (by omega)) else kg j (by omega)
          exact ih10 v22 (by first | omega | assumption | exact (iv_rng _).2 | exact (iv_rng _).1 | decide) (by first | omega | assumption | exact (iv_rng _).2 | exact (iv_rng _).1 | decide) kb (by omega)
        · have c21 := iv_eq (X := v18.toInt) (Y := v1.toInt) c21 rfl rfl
          refine pv_iload (M := mJ1_indexOfChar_4cfef) dJ1_indexOfChar_4cfef_22 24 rfl rfl ?_
          exact pv_iret (M := mJ1_indexOfChar_4cfef) dJ1_indexOfChar_4cfef_24 rfl rfl ⟨_, rfl, rfl, by omega, by omega, (by rw [nix_at (j := y3.toInt.toNat) (by omega) (k19.mp (by omega))]; omega)⟩
  exact lp9 (((10 - x2.toInt) : Int).toNat + 1) x2 (by first | omega | assumption | exact (iv_rng _).2 | exact (iv_rng _).1 | decide) (by first | omega | assumption | exact (iv_rng _).2 | exact (iv_rng _).1 | decide) (fun j hj => by exfalso; omega) (by omega)

set_option maxHeartbeats 2000000 in
set_option maxRecDepth 20000 in
theorem s_J1_indexOf_4cfef_vx (g : pv_G) {T : List mv_T} {m : Nat → Nat → Int32} {n : Nat → Nat → Int64} {r : Nat → Value} (hT : TX T) (I : IV BB m) (x1 : Int32) (hl1 : 0 ≤ x1.toInt) (hh1 : x1.toInt ≤ 255) (x2 : Int32) (hl2 : 0 ≤ x2.toInt) (hh2 : x2.toInt ≤ 0) (x3 : Int32) (hl3 : 10 ≤ x3.toInt) (hh3 : x3.toInt ≤ 10) : PM g mJ1_indexOf_4cfef yJ1_indexOf_4cfef (sqP (mk T m n r) (-1) 9 (fun v => v.toInt = nix x1.toInt)) 2 0 0 [.retAddr (g.2.2.1 7 + 1), .int x1, .int x2, .int x3] (mk T m n r) := by
  have Kp : fr (wl []) m m := fr.rf
  refine PM.of 0 (lo := [.retAddr (g.2.2.1 7 + 1), .int x1, .int x2, .int x3]) rfl (by decide) rfl rfl (Nat.le_of_ble_eq_true rfl) ?_
  refine pv_iload_n (M := mJ1_indexOf_4cfef) 1 dJ1_indexOf_4cfef_0 1 rfl rfl rfl ?_
  refine pv_calls (M := mJ1_indexOf_4cfef) (as := [.int x1]) (st := []) (kc2 := 0) (ks2 := 0) dJ1_indexOf_4cfef_1 wd597 YJ1_canEncode_9a6ad wd598 (s_J1_canEncode_9a6ad_vx g hT I x1 (by omega) (by omega)) rfl rfl (Nat.le_of_ble_eq_true rfl) (by decide) rfl rfl 4 rfl (fun rv h1 q1 => ?_)
  obtain ⟨v2, rfl, rfl, pv2, qv2, rv2⟩ := q1
  replace rv2 : v2.toInt = 1 := rv2
  show PV _ _ _ _ _ _ _ 4 [.retAddr (g.2.2.1 7 + 1), .int x1, .int x2, .int x3] [.int v2] _
  refine pv_if_ne (M := mJ1_indexOf_4cfef) (tgt := 9) dJ1_indexOf_4cfef_4 7 rfl (by decide) (fun c3 => ?_) (fun c3 => ?_)
  · have c3 := iv_ne (X := v2.toInt) (Y := 0) c3 rfl (by decide)
    refine pv_iload_n (M := mJ1_indexOf_4cfef) 2 dJ1_indexOf_4cfef_9 10 rfl rfl rfl ?_
    refine pv_iconst (M := mJ1_indexOf_4cfef) (v := 0) dJ1_indexOf_4cfef_10 11 rfl (by decide) ?_
    refine iv_max (M := mJ1_indexOf_4cfef) (X := x2.toInt) (Y := 0) dJ1_indexOf_4cfef_11 wd600 Wmmax (Nat.le_of_ble_eq_true rfl) (by decide) rfl (by decide) 14 rfl (fun v4 ev4 fv4 gv4 => ?_)
    refine pv_istore_n (M := mJ1_indexOf_4cfef) 2 (lo2 := [.retAddr (g.2.2.1 7 + 1), .int x1, .int v4, .int x3]) dJ1_indexOf_4cfef_14 15 rfl rfl (by decide) rfl rfl ?_
    refine pv_iload_n (M := mJ1_indexOf_4cfef) 3 dJ1_indexOf_4cfef_15 16 rfl rfl rfl ?_
    refine pv_aloadS_n (M := mJ1_indexOf_4cfef) 0 dJ1_indexOf_4cfef_16 17 rfl rfl rfl ?_
    refine pv_strlen (M := mJ1_indexOf_4cfef) dJ1_indexOf_4cfef_17 18 rfl ?_
    refine iv_min (M := mJ1_indexOf_4cfef) (X := x3.toInt) (Y := 10) dJ1_indexOf_4cfef_18 wd601 Wmmin (Nat.le_of_ble_eq_true rfl) (by decide) rfl (by decide) 21 rfl (fun v6 ev6 fv6 gv6 => ?_)
    refine pv_istore_n (M := mJ1_indexOf_4cfef) 3 (lo2 := [.retAddr (g.2.2.1 7 + 1), .int x1, .int v4, .int v6]) dJ1_indexOf_4cfef_21 22 rfl rfl (by decide) rfl rfl ?_
    refine pv_iload_n (M := mJ1_indexOf_4cfef) 2 dJ1_indexOf_4cfef_22 23 rfl rfl rfl ?_
    refine pv_iload_n (M := mJ1_indexOf_4cfef) 3 dJ1_indexOf_4cfef_23 24 rfl rfl rfl ?_
    refine pv_icmp_lt (M := mJ1_indexOf_4cfef) (tgt := 29) dJ1_indexOf_4cfef_24 27 rfl (by decide) (fun c7 => ?_) (fun c7 => ?_)
    · have c7 := iv_lt (X := v4.toInt) (Y := v6.toInt) c7 rfl rfl
      refine pv_aloadS_n (M := mJ1_indexOf_4cfef) 0 dJ1_indexOf_4cfef_29 30 rfl rfl rfl ?_
      refine pv_iload_n (M := mJ1_indexOf_4cfef) 1 dJ1_indexOf_4cfef_30 31 rfl rfl rfl ?_
      refine pv_iload_n (M := mJ1_indexOf_4cfef) 2 dJ1_indexOf_4cfef_31 32 rfl rfl rfl ?_
      refine pv_iload_n (M := mJ1_indexOf_4cfef) 3 dJ1_indexOf_4cfef_32 33 rfl rfl rfl ?_
      refine pv_calls (M := mJ1_indexOf_4cfef) (as := [.retAddr (g.2.2.1 7 + 1), .int x1, .int v4, .int v6]) (st := []) (kc2 := 0) (ks2 := 0) dJ1_indexOf_4cfef_33 wd602 YJ1_indexOfChar_4cfef wd603 (s_J1_indexOfChar_4cfef_vx g hT I x1 (by omega) (by omega) v4 (by omega) (by omega) v6 (by omega) (by omega)) rfl rfl (Nat.le_of_ble_eq_true rfl) (by decide) rfl rfl 36 rfl (fun rv h1 q8 => ?_)
      obtain ⟨v9, rfl, rfl, pv9, qv9, rv9⟩ := q8
      replace rv9 : v9.toInt = nix x1.toInt := rv9
      show PV _ _ _ _ _ _ _ 36 [.retAddr (g.2.2.1 7 + 1), .int x1, .int v4, .int v6] [.int v9] _
      exact pv_iret (M := mJ1_indexOf_4cfef) dJ1_indexOf_4cfef_36 rfl rfl ⟨_, rfl, rfl, by omega, by omega, (by first | exact rv9 | (exfalso; omega))⟩
    · have c7 := iv_nlt (X := v4.toInt) (Y := v6.toInt) c7 rfl rfl
      omega
  · have c3 := iv_eq (X := v2.toInt) (Y := 0) c3 rfl (by decide)
    refine pv_iconst (M := mJ1_indexOf_4cfef) (v := (-1)) dJ1_indexOf_4cfef_7 8 rfl (by decide) ?_
    have z10 : ((-1) : Int32).toInt = (-1) := by decide
    exact pv_iret (M := mJ1_indexOf_4cfef) dJ1_indexOf_4cfef_8 rfl rfl ⟨_, rfl, rfl, by decide, by decide, (by first | exact rlit | (exfalso; omega))⟩

set_option maxHeartbeats 2000000 in
set_option maxRecDepth 20000 in
theorem s_J0_indexOf_7cf53_vx (g : pv_G) {T : List mv_T} {m : Nat → Nat → Int32} {n : Nat → Nat → Int64} {r : Nat → Value} (hT : TX T) (I : IV BB m) (x0 : Int32) (hl0 : 0 ≤ x0.toInt) (hh0 : x0.toInt ≤ 255) (x1 : Int32) (hl1 : 0 ≤ x1.toInt) (hh1 : x1.toInt ≤ 0) : PM g mJ0_indexOf_7cf53 yJ0_indexOf_7cf53 (sqP (mk T m n r) (-1) 9 (fun v => v.toInt = nix x0.toInt)) 3 0 0 [.retAddr (g.2.2.1 6 + 1), .int x0, .int x1] (mk T m n r) := by
  have Kp : fr (wl []) m m := fr.rf
  refine PM.of 0 (lo := [.retAddr (g.2.2.1 6 + 1), .int x0, .int x1]) rfl (by decide) rfl rfl (Nat.le_of_ble_eq_true rfl) ?_
  refine pv_aloadS_n (M := mJ0_indexOf_7cf53) 0 dJ0_indexOf_7cf53_0 1 rfl rfl rfl ?_
  refine pv_callvS (M := mJ0_indexOf_7cf53) (as := []) (st := []) (kc2 := 0) (ks2 := 0) dJ0_indexOf_7cf53_1 wd580 YJ0_isLatin1_aae02 ⟨wd581, wd582⟩ rfl (s_J0_isLatin1_aae02 g hT I) rfl rfl (Nat.le_of_ble_eq_true rfl) (by decide) rfl rfl 4 rfl (fun rv h1 q1 => ?_)
  obtain ⟨v2, rfl, rfl, pv2, qv2, rv2⟩ := q1
  show PV _ _ _ _ _ _ _ 4 [.retAddr (g.2.2.1 6 + 1), .int x0, .int x1] [.int v2] _
  refine pv_if_eq (M := mJ0_indexOf_7cf53) (tgt := 23) dJ0_indexOf_7cf53_4 7 rfl (by decide) (fun c3 => ?_) (fun c3 => ?_)
  · have c3 := iv_eq (X := v2.toInt) (Y := 0) c3 rfl (by decide)
    omega
  · have c3 := iv_ne (X := v2.toInt) (Y := 0) c3 rfl (by decide)
    refine pv_aloadS_n (M := mJ0_indexOf_7cf53) 0 dJ0_indexOf_7cf53_7 8 rfl rfl rfl ?_
    refine pv_getV (M := mJ0_indexOf_7cf53) dJ0_indexOf_7cf53_8 wd1800 11 rfl ?_
    refine pv_iload_n (M := mJ0_indexOf_7cf53) 1 dJ0_indexOf_7cf53_11 12 rfl rfl rfl ?_
    refine pv_iload_n (M := mJ0_indexOf_7cf53) 2 dJ0_indexOf_7cf53_12 13 rfl rfl rfl ?_
    refine pv_aloadS_n (M := mJ0_indexOf_7cf53) 0 dJ0_indexOf_7cf53_13 14 rfl rfl rfl ?_
    refine pv_callvS (M := mJ0_indexOf_7cf53) (as := []) (st := [.int x1, .int x0, .retAddr (g.2.2.1 7 + 1)]) (kc2 := 0) (ks2 := 0) dJ0_indexOf_7cf53_14 wd586 YJ0_length_8abf5 ⟨wd587, wd588⟩ rfl (s_J0_length_8abf5_vx g hT I) rfl rfl (Nat.le_of_ble_eq_true rfl) (by decide) rfl rfl 17 rfl (fun rv h1 q4 => ?_)
    obtain ⟨v5, rfl, rfl, pv5, qv5, rv5⟩ := q4
    show PV _ _ _ _ _ _ _ 17 [.retAddr (g.2.2.1 6 + 1), .int x0, .int x1] [.int v5, .int x1, .int x0, .retAddr (g.2.2.1 7 + 1)] _
    refine pv_calls (M := mJ0_indexOf_7cf53) (as := [.retAddr (g.2.2.1 7 + 1), .int x0, .int x1, .int v5]) (st := []) (kc2 := 0) (ks2 := 0) dJ0_indexOf_7cf53_17 wd594 YJ1_indexOf_4cfef wd595 (s_J1_indexOf_4cfef_vx g hT I x0 (by omega) (by omega) x1 (by omega) (by omega) v5 (by omega) (by omega)) rfl rfl (Nat.le_of_ble_eq_true rfl) (by decide) rfl rfl 20 rfl (fun rv h1 q6 => ?_)
    obtain ⟨v7, rfl, rfl, pv7, qv7, rv7⟩ := q6
    replace rv7 : v7.toInt = nix x0.toInt := rv7
    show PV _ _ _ _ _ _ _ 20 [.retAddr (g.2.2.1 6 + 1), .int x0, .int x1] [.int v7] _
    refine pv_goto (M := mJ0_indexOf_7cf53) (tgt := 36) dJ0_indexOf_7cf53_20 (by decide) ?_
    exact pv_iret (M := mJ0_indexOf_7cf53) dJ0_indexOf_7cf53_36 rfl rfl ⟨_, rfl, rfl, by omega, by omega, (by first | exact rv7 | (exfalso; omega))⟩

set_option maxHeartbeats 2000000 in
set_option maxRecDepth 20000 in
theorem s_J0_indexOf_0f7a4_vx (g : pv_G) {T : List mv_T} {m : Nat → Nat → Int32} {n : Nat → Nat → Int64} {r : Nat → Value} (hT : TX T) (I : IV BB m) (x0 : Int32) (hl0 : 0 ≤ x0.toInt) (hh0 : x0.toInt ≤ 255) : PM g mJ0_indexOf_0f7a4 yJ0_indexOf_0f7a4 (sqP (mk T m n r) (-1) 9 (fun v => v.toInt = nix x0.toInt)) 4 0 0 [.retAddr (g.2.2.1 6 + 1), .int x0] (mk T m n r) := by
  have Kp : fr (wl []) m m := fr.rf
  refine PM.of 0 (lo := [.retAddr (g.2.2.1 6 + 1), .int x0]) rfl (by decide) rfl rfl (Nat.le_of_ble_eq_true rfl) ?_
  refine pv_aloadS_n (M := mJ0_indexOf_0f7a4) 0 dJ0_indexOf_0f7a4_0 1 rfl rfl rfl ?_
  refine pv_iload_n (M := mJ0_indexOf_0f7a4) 1 dJ0_indexOf_0f7a4_1 2 rfl rfl rfl ?_
  refine pv_iconst (M := mJ0_indexOf_0f7a4) (v := 0) dJ0_indexOf_0f7a4_2 3 rfl (by decide) ?_
  have z1 : (0 : Int32).toInt = 0 := by decide
  refine pv_callvS (M := mJ0_indexOf_0f7a4) (as := [.int x0, .int 0]) (st := []) (kc2 := 0) (ks2 := 0) dJ0_indexOf_0f7a4_3 wd576 YJ0_indexOf_7cf53 ⟨wd577, wd578⟩ rfl (s_J0_indexOf_7cf53_vx g hT I x0 (by omega) (by omega) 0 (by decide) (by decide)) rfl rfl (Nat.le_of_ble_eq_true rfl) (by decide) rfl rfl 6 rfl (fun rv h1 q2 => ?_)
  obtain ⟨v3, rfl, rfl, pv3, qv3, rv3⟩ := q2
  replace rv3 : v3.toInt = nix x0.toInt := by have q_ := rv3; (try rw [z1] at q_); exact q_
  show PV _ _ _ _ _ _ _ 6 [.retAddr (g.2.2.1 6 + 1), .int x0] [.int v3] _
  exact pv_iret (M := mJ0_indexOf_0f7a4) dJ0_indexOf_0f7a4_6 rfl rfl ⟨_, rfl, rfl, by omega, by omega, rv3⟩

set_option maxHeartbeats 2000000 in
set_option maxRecDepth 20000 in
theorem s_X7_readFactor_v6x (g : pv_G) {T : List mv_T} {m : Nat → Nat → Int32} {n : Nat → Nat → Int64} {r : Nat → Value} {la lb : Nat} (hT : TX T) (I : IV BB m) (R : RX T r la lb) (hp0 : (m 86 3).toInt ≤ (m 86 2).toInt) (hp1 : TBC m) : PM g mX7_readFactor yX7_readFactor (sqI T BB wR7 r m 0 1 (fun m' v => (m 86 3).toInt ≤ (m' 86 3).toInt ∧ (m' 86 3).toInt ≤ (m' 86 2).toInt ∧ (m' 86 2).toInt = (m 86 2).toInt ∧ (RSX (FA (tC m) 0 (m 86 3).toInt) v.toInt (m' 86 3).toInt (m' 86 4).toInt) ∧ (m' lb 7).toInt = (m lb 7).toInt)) 5 0 0 [.ref 86, .int 6] (mk T m n r) := by
  have Kp : fr wR7 m m := fr.rf
  have R0 := R
  have zR := R.2.2.2.2.1.1
  have zR2 := R.2.2.2.2.2.1
  have z80 : 0 ≤ (m 86 3).toInt ∧ (m 86 3).toInt ≤ 160 := I 86 3
  have z81 : 0 ≤ (m 86 2).toInt ∧ (m 86 2).toInt ≤ 160 := I 86 2
  refine PM.of 1 (lo := [.ref 86, .int 6, pv_U]) rfl (by decide) rfl rfl (Nat.le_of_ble_eq_true rfl) ?_
  refine pv_aload_n (M := mX7_readFactor) 0 dX7_readFactor_0 1 rfl rfl rfl ?_
  refine pv_callv (M := mX7_readFactor) (as := []) (st := []) (kc2 := 0) (ks2 := 0) dX7_readFactor_1 wd527 YX7_peek ⟨wd529, wd2⟩ (mk_get (tl86 hT)) rfl rfl (s_X7_peek_vx g hT I R) rfl rfl (Nat.le_of_ble_eq_true rfl) (by decide) rfl rfl 4 rfl (fun rv h1 q1 => ?_)
  obtain ⟨v2, rfl, rfl, pv2, qv2, rv2⟩ := q1
  replace rv2 : v2.toInt = tC m (m 86 3).toInt ∧ (v2.toInt = -1 ∨ (m 86 3).toInt < (m 86 2).toInt) := rv2
  show PV _ _ _ _ _ _ _ 4 [.ref 86, .int 6, pv_U] [.int v2] _
  have k4 := rv2.1
  have k4b := rv2.2
  refine pv_bipush (M := mX7_readFactor) (v := 91) dX7_readFactor_4 6 rfl (by decide) ?_
  refine pv_icmp_ne (M := mX7_readFactor) (tgt := 42) dX7_readFactor_6 9 rfl (by decide) (fun c5 => ?_) (fun c5 => ?_)
  · have c5 := iv_ne (X := v2.toInt) (Y := 91) c5 rfl (by decide)
    have kn91 : tC m (m 86 3).toInt ≠ 91 := by omega
    refine pv_aload_n (M := mX7_readFactor) 0 dX7_readFactor_42 43 rfl rfl rfl ?_
    refine pv_callv (M := mX7_readFactor) (as := []) (st := []) (kc2 := 0) (ks2 := 0) dX7_readFactor_43 wd559 YX7_digitAhead ⟨wd561, wd9⟩ (mk_get (tl86 hT)) rfl rfl (s_X7_digitAhead_vx g hT I R) rfl rfl (Nat.le_of_ble_eq_true rfl) (by decide) rfl rfl 46 rfl (fun rv h1 q7 => ?_)
    obtain ⟨v8, rfl, rfl, pv8, qv8, rv8⟩ := q7
    replace rv8 : (v8 = 0 ∨ ((m 86 3).toInt < (m 86 2).toInt ∧ 48 ≤ (m 87 (m 86 3).toInt.toNat).toInt ∧ (m 87 (m 86 3).toInt.toNat).toInt ≤ 57)) ∧ ((v8.toInt = 1 ∧ dig (tC m (m 86 3).toInt) = true) ∨ (v8.toInt = 0 ∧ dig (tC m (m 86 3).toInt) = false)) := rv8
    show PV _ _ _ _ _ _ _ 46 [.ref 86, .int 6, pv_U] [.int v8] _
    have k46 := rv8.2
    refine pv_if_eq (M := mX7_readFactor) (tgt := 54) dX7_readFactor_46 49 rfl (by decide) (fun c10 => ?_) (fun c10 => ?_)
    · have c10 := iv_eq (X := v8.toInt) (Y := 0) c10 rfl (by decide)
      have kdn := (k46.resolve_left (fun q => by have q1 := q.1; omega)).2
      refine pv_aload_n (M := mX7_readFactor) 0 dX7_readFactor_54 55 rfl rfl rfl ?_
      refine pv_callv (M := mX7_readFactor) (as := []) (st := []) (kc2 := 0) (ks2 := 0) dX7_readFactor_55 wd527 YX7_peek ⟨wd529, wd2⟩ (mk_get (tl86 hT)) rfl rfl (s_X7_peek_vx g hT I R) rfl rfl (Nat.le_of_ble_eq_true rfl) (by decide) rfl rfl 58 rfl (fun rv h1 q12 => ?_)
      obtain ⟨v13, rfl, rfl, pv13, qv13, rv13⟩ := q12
      replace rv13 : v13.toInt = tC m (m 86 3).toInt ∧ (v13.toInt = -1 ∨ (m 86 3).toInt < (m 86 2).toInt) := rv13
      show PV _ _ _ _ _ _ _ 58 [.ref 86, .int 6, pv_U] [.int v13] _
      have k58 := rv13.1
      refine pv_iconst (M := mX7_readFactor) (v := (-1)) dX7_readFactor_58 59 rfl (by decide) ?_
      refine pv_icmp_ne (M := mX7_readFactor) (tgt := 66) dX7_readFactor_59 62 rfl (by decide) (fun c15 => ?_) (fun c15 => ?_)
      · have c15 := iv_ne (X := v13.toInt) (Y := (-1)) c15 rfl (by decide)
        refine pv_ldcS (M := mX7_readFactor) dX7_readFactor_66 rfl 68 rfl ?_
        refine pv_aload_n (M := mX7_readFactor) 0 dX7_readFactor_68 69 rfl rfl rfl ?_
        refine pv_callv (M := mX7_readFactor) (as := []) (st := [.retAddr (g.2.2.1 6 + 1)]) (kc2 := 0) (ks2 := 0) dX7_readFactor_69 wd527 YX7_peek ⟨wd529, wd2⟩ (mk_get (tl86 hT)) rfl rfl (s_X7_peek_vx g hT I R) rfl rfl (Nat.le_of_ble_eq_true rfl) (by decide) rfl rfl 72 rfl (fun rv h1 q16 => ?_)
        obtain ⟨v17, rfl, rfl, pv17, qv17, rv17⟩ := q16
        replace rv17 : v17.toInt = tC m (m 86 3).toInt ∧ (v17.toInt = -1 ∨ (m 86 3).toInt < (m 86 2).toInt) := rv17
        show PV _ _ _ _ _ _ _ 72 [.ref 86, .int 6, pv_U] [.int v17, .retAddr (g.2.2.1 6 + 1)] _
        have k72 := rv17.1
        have kb72 := hp1 (m 86 3).toInt
        refine iv_i2cU (M := mX7_readFactor) dX7_readFactor_72 73 rfl (fun v20 ev20 => ?_)
        have k73 := i2c_eq ev20 (by omega) (by omega)
        refine pv_callvS (M := mX7_readFactor) (as := [.int v20]) (st := []) (kc2 := 0) (ks2 := 0) dX7_readFactor_73 wd572 YJ0_indexOf_0f7a4 ⟨wd573, wd574⟩ rfl (s_J0_indexOf_0f7a4_vx g hT I v20 (by omega) (by omega)) rfl rfl (Nat.le_of_ble_eq_true rfl) (by decide) rfl rfl 76 rfl (fun rv h1 q22 => ?_)
        obtain ⟨v23, rfl, rfl, pv23, qv23, rv23⟩ := q22
        replace rv23 : v23.toInt = nix v20.toInt := rv23
        show PV _ _ _ _ _ _ _ 76 [.ref 86, .int 6, pv_U] [.int v23] _
        have k76 : v23.toInt = nix (tC m (m 86 3).toInt) := by first | (rw [show tC m (m 86 3).toInt = -1 by omega]; decide) | (rw [rv23, k73, k72])
        refine pv_istore_n (M := mX7_readFactor) 2 (lo2 := [.ref 86, .int 6, .int v23]) dX7_readFactor_76 77 rfl rfl (by decide) rfl rfl ?_
        refine pv_iload_n (M := mX7_readFactor) 2 dX7_readFactor_77 78 rfl rfl rfl ?_
        refine pv_if_ge (M := mX7_readFactor) (tgt := 87) dX7_readFactor_78 81 rfl (by decide) (fun c25 => ?_) (fun c25 => ?_)
        · have c25 := iv_le (X := 0) (Y := v23.toInt) c25 (by decide) rfl
          refine pv_aload_n (M := mX7_readFactor) 0 dX7_readFactor_87 88 rfl rfl rfl ?_
          refine mv_get (M := mX7_readFactor) (v := .ref lb) dX7_readFactor_88 FX7 1 wd281 (by decide) (tl86 hT) rfl R.2.2.2.1 91 rfl ?_
          refine pv_bipush (M := mX7_readFactor) (v := 36) dX7_readFactor_91 93 rfl (by decide) ?_
          refine pv_iload_n (M := mX7_readFactor) 2 dX7_readFactor_93 94 rfl rfl rfl ?_
          have z26 : (36 : Int32).toInt = 36 := by decide
          refine pv_callv (M := mX7_readFactor) (as := [.int 36, .int v23]) (st := []) (kc2 := 0) (ks2 := 0) dX7_readFactor_94 wd567 YX6_emit ⟨wd568, wd569⟩ (mk_get R.2.2.2.2.2.2.1) rfl rfl (s_X6_emit_vx g hT I lb R.2.2.2.2.2 36 v23 (by omega) (by omega)) rfl rfl (Nat.le_of_ble_eq_true rfl) (by decide) rfl rfl 97 rfl (fun rv h1 q27 => ?_)
          obtain ⟨m28, n29, rfl, rfl, I30, K31, rm28⟩ := q27
          replace rm28 : (m28 lb 7).toInt = (m lb 7).toInt := rm28
          have K31c := K31
          have w32 : (m28 86 3).toInt = (m 86 3).toInt := congrArg Int32.toInt (K31 86 3 (wr_out (by omega)))
          have w33 : (m28 86 2).toInt = (m 86 2).toInt := congrArg Int32.toInt (K31 86 2 (wr_out (by omega)))
          have w34 : (m28 86 4).toInt = (m 86 4).toInt := congrArg Int32.toInt (K31 86 4 (wr_out (by omega)))
          have K31 := Kp.trans (K31.sub (by first | exact wR7_r (by omega) | exact wR7_wr))
          show PV _ _ _ _ _ _ _ 97 [.ref 86, .int 6, .int v23] [] _
          refine pv_aload_n (M := mX7_readFactor) 0 dX7_readFactor_97 98 rfl rfl rfl ?_
          refine pv_dup (M := mX7_readFactor) dX7_readFactor_98 99 rfl rfl ?_
          refine iv_get (M := mX7_readFactor) (l1 := 0) (l2 := 160) dX7_readFactor_99 FX7 3 wd283 (by decide) (tl86 hT) rfl I30 rfl 102 rfl (fun v35 ev35 pv35 qv35 => ?_)
          have wv35 : v35.toInt = (m28 86 3).toInt := congrArg Int32.toInt ev35
          refine pv_iconst (M := mX7_readFactor) (v := 1) dX7_readFactor_102 103 rfl (by decide) ?_
          refine iv_iadd (M := mX7_readFactor) (X := v35.toInt) (Y := 1) dX7_readFactor_103 104 rfl rfl (by decide) (by omega) (by omega) (fun v36 ev36 => ?_)
          refine iv_put (M := mX7_readFactor) (l1 := 0) (l2 := 160) dX7_readFactor_104 FX7 3 wd283 (by decide) rfl (tl86 hT) rfl rfl rfl I30 rfl (by omega) (by omega) 107 rfl (fun m37 e40 I38 => ?_)
          have K39 := K31.set e40 (by decide)
          have w41 : (m37 86 3).toInt = v36.toInt := by rw [e40, up2_eq]
          have w42 : (m37 86 2).toInt = (m28 86 2).toInt := by rw [e40, up2_ne (by omega)]
          have w43 : (m37 86 4).toInt = (m28 86 4).toInt := by rw [e40, up2_ne (by omega)]
          have w44 : (m37 lb 7).toInt = (m28 lb 7).toInt := by rw [e40, up2_ne (by omega)]
          refine pv_iconst (M := mX7_readFactor) (v := 1) dX7_readFactor_107 108 rfl (by decide) ?_
          have z45 : (1 : Int32).toInt = 1 := by decide
          exact pv_iret (M := mX7_readFactor) dX7_readFactor_108 rfl rfl ⟨_, _, _, rfl, rfl, I38, K39, by decide, by decide, ⟨by omega, by omega, by omega, Or.inl ⟨by decide, by rw [FA_atom kn91, AT_nam kdn (nix_y (by omega)), show (m 86 3).toInt + 1 = (m37 86 3).toInt by omega]⟩, by omega⟩⟩
        · have c25 := iv_nle (X := 0) (Y := v23.toInt) c25 (by decide) rfl
          refine pv_aload_n (M := mX7_readFactor) 0 dX7_readFactor_81 82 rfl rfl rfl ?_
          refine pv_iconst (M := mX7_readFactor) (v := 1) dX7_readFactor_82 83 rfl (by decide) ?_
          have z46 : (1 : Int32).toInt = 1 := by decide
          refine pv_callv (M := mX7_readFactor) (as := [.int 1]) (st := []) (kc2 := 0) (ks2 := 0) dX7_readFactor_83 wd531 YX7_fail ⟨wd533, wd3⟩ (mk_get (tl86 hT)) rfl rfl (s_X7_fail_vx g hT I R 1 (by decide) (by decide) (by first | omega | assumption | exact (iv_rng _).2 | exact (iv_rng _).1 | decide)) rfl rfl (Nat.le_of_ble_eq_true rfl) (by decide) rfl rfl 86 rfl (fun rv h1 q47 => ?_)
          obtain ⟨m48, n49, v52, rfl, rfl, I50, K51, pv52, qv52, rv52⟩ := q47
          replace rv52 : (m 86 3).toInt ≤ (m48 86 3).toInt ∧ (m48 86 3).toInt ≤ (m48 86 2).toInt ∧ (m48 86 2).toInt = (m 86 2).toInt ∧ (v52.toInt = 0 ∧ (m48 86 3).toInt = (m 86 3).toInt ∧ (m48 86 4).toInt = -1000 * (1 : Int) - (m 86 3).toInt) ∧ (m48 lb 7).toInt = (m lb 7).toInt := by have q_ := rv52; (try rw [z46] at q_); exact q_
          have K51c := K51
          have K51 := Kp.trans (K51.sub (fun _ _ q => q))
          show PV _ _ _ _ _ _ _ 86 [.ref 86, .int 6, .int v23] [.int v52] _
          exact pv_iret (M := mX7_readFactor) dX7_readFactor_86 rfl (iv_nz (by omega) (by omega)) ⟨_, _, _, rfl, rfl, I50, K51, by omega, by omega, ⟨by omega, by omega, by omega, Or.inr ⟨by omega, FLT_of (a := 1) (p := (m 86 3).toInt) (by rw [FA_atom kn91]; exact AT_no kdn (nix_no (by omega))) (by decide) (by omega)⟩, by omega⟩⟩
      · have c15 := iv_eq (X := v13.toInt) (Y := (-1)) c15 rfl (by decide)
        refine pv_iconst (M := mX7_readFactor) (v := (-1)) dX7_readFactor_62 63 rfl (by decide) ?_
        refine pv_goto (M := mX7_readFactor) (tgt := 76) dX7_readFactor_63 (by decide) ?_
        have k76 : (-1) = nix (tC m (m 86 3).toInt) := by first | (rw [show tC m (m 86 3).toInt = -1 by omega]; decide) | (rw [rlit, k73, k72])
        refine pv_istore_n (M := mX7_readFactor) 2 (lo2 := [.ref 86, .int 6, .int (-1)]) dX7_readFactor_76 77 rfl rfl (by decide) rfl rfl ?_
        refine pv_iload_n (M := mX7_readFactor) 2 dX7_readFactor_77 78 rfl rfl rfl ?_
        refine pv_if_ge (M := mX7_readFactor) (tgt := 87) dX7_readFactor_78 81 rfl (by decide) (fun q => absurd q (by decide)) (fun _ => ?_)
        refine pv_aload_n (M := mX7_readFactor) 0 dX7_readFactor_81 82 rfl rfl rfl ?_
        refine pv_iconst (M := mX7_readFactor) (v := 1) dX7_readFactor_82 83 rfl (by decide) ?_
        have z55 : (1 : Int32).toInt = 1 := by decide
        refine pv_callv (M := mX7_readFactor) (as := [.int 1]) (st := []) (kc2 := 0) (ks2 := 0) dX7_readFactor_83 wd531 YX7_fail ⟨wd533, wd3⟩ (mk_get (tl86 hT)) rfl rfl (s_X7_fail_vx g hT I R 1 (by decide) (by decide) (by first | omega | assumption | exact (iv_rng _).2 | exact (iv_rng _).1 | decide)) rfl rfl (Nat.le_of_ble_eq_true rfl) (by decide) rfl rfl 86 rfl (fun rv h1 q56 => ?_)
        obtain ⟨m57, n58, v61, rfl, rfl, I59, K60, pv61, qv61, rv61⟩ := q56
        replace rv61 : (m 86 3).toInt ≤ (m57 86 3).toInt ∧ (m57 86 3).toInt ≤ (m57 86 2).toInt ∧ (m57 86 2).toInt = (m 86 2).toInt ∧ (v61.toInt = 0 ∧ (m57 86 3).toInt = (m 86 3).toInt ∧ (m57 86 4).toInt = -1000 * (1 : Int) - (m 86 3).toInt) ∧ (m57 lb 7).toInt = (m lb 7).toInt := by have q_ := rv61; (try rw [z55] at q_); exact q_
        have K60c := K60
        have K60 := Kp.trans (K60.sub (fun _ _ q => q))
        show PV _ _ _ _ _ _ _ 86 [.ref 86, .int 6, .int (-1)] [.int v61] _
        exact pv_iret (M := mX7_readFactor) dX7_readFactor_86 rfl (iv_nz (by omega) (by omega)) ⟨_, _, _, rfl, rfl, I59, K60, by omega, by omega, ⟨by omega, by omega, by omega, Or.inr ⟨by omega, FLT_of (a := 1) (p := (m 86 3).toInt) (by rw [FA_atom kn91]; exact AT_no kdn (nix_no (by omega))) (by decide) (by omega)⟩, by omega⟩⟩
    · have pc10 := rv8.1.resolve_left c10
      have c10 := iv_ne (X := v8.toInt) (Y := 0) c10 rfl (by decide)
      have kd := (k46.resolve_right (fun q => by have q1 := q.1; omega)).2
      refine pv_aload_n (M := mX7_readFactor) 0 dX7_readFactor_49 50 rfl rfl rfl ?_
      refine pv_callv (M := mX7_readFactor) (as := []) (st := []) (kc2 := 0) (ks2 := 0) dX7_readFactor_50 wd563 YX7_readNumber ⟨wd565, wd10⟩ (mk_get (tl86 hT)) rfl rfl (s_X7_readNumber_vx g hT I R (by first | omega | assumption | exact (iv_rng _).2 | exact (iv_rng _).1 | decide)) rfl rfl (Nat.le_of_ble_eq_true rfl) (by decide) rfl rfl 53 rfl (fun rv h1 q63 => ?_)
      obtain ⟨m64, n65, v68, rfl, rfl, I66, K67, pv68, qv68, rv68⟩ := q63
      replace rv68 : (m 86 3).toInt ≤ (m64 86 3).toInt ∧ (m64 86 3).toInt ≤ (m64 86 2).toInt ∧ (m64 86 2).toInt = (m 86 2).toInt ∧ (RSX (nd (tC m) 5 (m 86 3).toInt) v68.toInt (m64 86 3).toInt (m64 86 4).toInt) ∧ (m64 lb 7).toInt = (m lb 7).toInt := rv68
      have K67c := K67
      have K67 := Kp.trans (K67.sub (fun _ _ q => q))
      show PV _ _ _ _ _ _ _ 53 [.ref 86, .int 6, pv_U] [.int v68] _
      have k53 := rv68.2.2.2.1
      exact pv_iret (M := mX7_readFactor) dX7_readFactor_53 rfl (iv_nz (by omega) (by omega)) ⟨_, _, _, rfl, rfl, I66, K67, by omega, by omega, ⟨by omega, by omega, by omega, (by rw [FA_atom kn91, AT_num kd]; exact k53), by omega⟩⟩
  · have c5 := iv_eq (X := v2.toInt) (Y := 91) c5 rfl (by decide)
    have k91 : tC m (m 86 3).toInt = 91 := by omega
    refine pv_aload_n (M := mX7_readFactor) 0 dX7_readFactor_9 10 rfl rfl rfl ?_
    refine pv_iload_n (M := mX7_readFactor) 1 dX7_readFactor_10 11 rfl rfl rfl ?_
    have z71 : (6 : Int32).toInt = 6 := by decide
    refine pv_callv (M := mX7_readFactor) (as := [.int 6]) (st := []) (kc2 := 0) (ks2 := 0) dX7_readFactor_11 wd551 YX7_open ⟨wd553, wd7⟩ (mk_get (tl86 hT)) rfl rfl (s_X7_open_vx g hT I R 6 (by decide) (by decide) (by first | omega | assumption | exact (iv_rng _).2 | exact (iv_rng _).1 | decide)) rfl rfl (Nat.le_of_ble_eq_true rfl) (by decide) rfl rfl 14 rfl (fun rv h1 q72 => ?_)
    obtain ⟨m73, n74, v77, rfl, rfl, I75, K76, pv77, qv77, rv77⟩ := q72
    replace rv77 : (v77 = 0 ∨ (6 : Int) ≤ 5) ∧ (m 86 3).toInt ≤ (m73 86 3).toInt ∧ (m73 86 3).toInt ≤ (m73 86 2).toInt ∧ (m73 86 2).toInt = (m 86 2).toInt ∧ ((v77.toInt = 1 ∧ (6 : Int) ≤ 5 ∧ (m73 86 3).toInt = (m 86 3).toInt + 1) ∨ (v77.toInt = 0 ∧ 6 ≤ (6 : Int) ∧ (m73 86 4).toInt = -5000 - (m 86 3).toInt ∧ (m73 86 3).toInt = (m 86 3).toInt)) ∧ (m73 lb 7).toInt = (m lb 7).toInt := by have q_ := rv77; (try rw [z71] at q_); exact q_
    have K76c := K76
    have K76 := Kp.trans (K76.sub (fun _ _ q => q))
    show PV _ _ _ _ _ _ _ 14 [.ref 86, .int 6, pv_U] [.int v77] _
    refine pv_if_eq (M := mX7_readFactor) (tgt := 40) dX7_readFactor_14 17 rfl (by decide) (fun c78 => ?_) (fun c78 => ?_)
    · have c78 := iv_eq (X := v77.toInt) (Y := 0) c78 rfl (by decide)
      refine pv_iconst (M := mX7_readFactor) (v := 0) dX7_readFactor_40 41 rfl (by decide) ?_
      have z79 : (0 : Int32).toInt = 0 := by decide
      exact pv_iret (M := mX7_readFactor) dX7_readFactor_41 rfl rfl ⟨_, _, _, rfl, rfl, I75, K76, by decide, by decide, ⟨by omega, by omega, by omega, (by first | exact Or.inr ⟨by decide, FX_deep k91 (by omega)⟩ | exact Or.inr ⟨by decide, FX_cn k91 k27 (fun z => by omega) (by omega)⟩ | exact Or.inl ⟨by decide, FX_co k91 k27 (by omega) (by omega)⟩ | exact Or.inr ⟨by decide, FX_sum k91 (RSX_fl k24 (by omega))⟩ | (exfalso; omega)), by omega⟩⟩
    · have pc78 := rv77.1.resolve_left c78
      have c78 := iv_ne (X := v77.toInt) (Y := 0) c78 rfl (by decide)
      omega

set_option maxHeartbeats 2000000 in
set_option maxRecDepth 20000 in
theorem s_X7_readTerm_v6x (g : pv_G) {T : List mv_T} {m : Nat → Nat → Int32} {n : Nat → Nat → Int64} {r : Nat → Value} {la lb : Nat} (hT : TX T) (I : IV BB m) (R : RX T r la lb) (hp0 : (m 86 3).toInt ≤ (m 86 2).toInt) (hp1 : TBC m) : PM g mX7_readTerm yX7_readTerm (sqI T BB wR7 r m 0 1 (fun m' v => (m 86 3).toInt ≤ (m' 86 3).toInt ∧ (m' 86 3).toInt ≤ (m' 86 2).toInt ∧ (m' 86 2).toInt = (m 86 2).toInt ∧ ((v.toInt = 0 ∨ (m 86 3).toInt + 1 ≤ (m' 86 3).toInt) ∧ TRX (SU (tC m) 0 (m 86 3).toInt) (LSu (tC m) 0) (fun a => isT (tC m a) = false) v.toInt (m' 86 3).toInt (m' 86 4).toInt) ∧ (m' lb 7).toInt = (m lb 7).toInt)) 6 0 0 [.ref 86, .int 6] (mk T m n r) := by
  have Kp : fr wR7 m m := fr.rf
  have R0 := R
  have zR := R.2.2.2.2.1.1
  have zR2 := R.2.2.2.2.2.1
  have z84 : 0 ≤ (m 86 3).toInt ∧ (m 86 3).toInt ≤ 160 := I 86 3
  have z85 : 0 ≤ (m 86 2).toInt ∧ (m 86 2).toInt ≤ 160 := I 86 2
  refine PM.of 2 (lo := [.ref 86, .int 6, pv_U, pv_U]) rfl (by decide) rfl rfl (Nat.le_of_ble_eq_true rfl) ?_
  have kTX := TXT_C I
  refine pv_aload_n (M := mX7_readTerm) 0 dX7_readTerm_0 1 rfl rfl rfl ?_
  refine pv_iload_n (M := mX7_readTerm) 1 dX7_readTerm_1 2 rfl rfl rfl ?_
  have z2 : (6 : Int32).toInt = 6 := by decide
  refine pv_callv (M := mX7_readTerm) (as := [.int 6]) (st := []) (kc2 := 0) (ks2 := 0) dX7_readTerm_2 wd547 YX7_readFactor ⟨wd549, wd6⟩ (mk_get (tl86 hT)) rfl rfl (s_X7_readFactor_v6x g hT I R (by first | omega | assumption | exact (iv_rng _).2 | exact (iv_rng _).1 | decide) hp1) rfl rfl (Nat.le_of_ble_eq_true rfl) (by decide) rfl rfl 5 rfl (fun rv h1 q3 => ?_)
  obtain ⟨m4, n5, v8, rfl, rfl, I6, K7, pv8, qv8, rv8⟩ := q3
  replace rv8 : (m 86 3).toInt ≤ (m4 86 3).toInt ∧ (m4 86 3).toInt ≤ (m4 86 2).toInt ∧ (m4 86 2).toInt = (m 86 2).toInt ∧ (RSX (FA (tC m) 0 (m 86 3).toInt) v8.toInt (m4 86 3).toInt (m4 86 4).toInt) ∧ (m4 lb 7).toInt = (m lb 7).toInt := by have q_ := rv8; (try rw [z2] at q_); exact q_
  have K7c := K7
  have K7 := Kp.trans (K7.sub (fun _ _ q => q))
  show PV _ _ _ _ _ _ _ 5 [.ref 86, .int 6, pv_U, pv_U] [.int v8] _
  have k5 := rv8.2.2.2.1
  refine pv_if_ne (M := mX7_readTerm) (tgt := 10) dX7_readTerm_5 8 rfl (by decide) (fun c10 => ?_) (fun c10 => ?_)
  · have c10 := iv_ne (X := v8.toInt) (Y := 0) c10 rfl (by decide)
    have kF0 := RSX_ok k5 (by omega)
    have kF1 := FA_le 0 (m 86 3).toInt (by rw [kF0])
    rw [kF0] at kF1
    refine pv_iconst (M := mX7_readTerm) (v := 0) dX7_readTerm_10 11 rfl (by decide) ?_
    refine pv_istore_n (M := mX7_readTerm) 2 (lo2 := [.ref 86, .int 6, .int 0, pv_U]) dX7_readTerm_11 12 rfl rfl (by decide) rfl rfl ?_
    have lp20 : ∀ (fuel19 : Nat) (y14 : Int32) (m15 : Nat → Nat → Int32) (n16 : Nat → Nat → Int64), (0 ≤ y14.toInt) → (y14.toInt ≤ 160) → ((m15 86 3).toInt ≤ (m15 86 2).toInt) → ((m15 86 2).toInt = (m 86 2).toInt) → ((m15 lb 7).toInt = (m lb 7).toInt) → ((m 86 3).toInt + 1 + 2 * y14.toInt ≤ (m15 86 3).toInt) → (SU (tC m) 0 (m 86 3).toInt = LSu (tC m) 0 (m15 86 3).toInt) → IV BB m15 → fr wR7 m m15 → ((160 - y14.toInt) : Int).toNat < fuel19 → PV none g mX7_readTerm (sqI T BB wR7 r m 0 1 (fun m' v => (m 86 3).toInt ≤ (m' 86 3).toInt ∧ (m' 86 3).toInt ≤ (m' 86 2).toInt ∧ (m' 86 2).toInt = (m 86 2).toInt ∧ ((v.toInt = 0 ∨ (m 86 3).toInt + 1 ≤ (m' 86 3).toInt) ∧ TRX (SU (tC m) 0 (m 86 3).toInt) (LSu (tC m) 0) (fun a => isT (tC m a) = false) v.toInt (m' 86 3).toInt (m' 86 4).toInt) ∧ (m' lb 7).toInt = (m lb 7).toInt)) 6 0 0 12 [.ref 86, .int 6, .int y14, pv_U] [] (mk T m15 n16 r) := by
      intro fuel19
      induction fuel19 with
      | zero => intro y14 m15 n16 b22 b23 b24 b25 b26 b27 b28 I17 K18 z29; omega
      | succ fuel19 ih21 =>
        intro y14 m15 n16 b22 b23 b24 b25 b26 b27 b28 I17 K18 z29
        have z30 : 0 ≤ (m15 86 3).toInt ∧ (m15 86 3).toInt ≤ 160 := I17 86 3
        have z31 : 0 ≤ (m15 86 2).toInt ∧ (m15 86 2).toInt ≤ 160 := I17 86 2
        have kgs := (show SU (tC m) 0 (m 86 3).toInt = LSu (tC m) 0 (m15 86 3).toInt by assumption)
        have kt12 : tC m15 = tC m := tC_eq (K18 86 2 rfl) (fun j => K18 87 j rfl)
        refine pv_iload_n (M := mX7_readTerm) 2 dX7_readTerm_12 13 rfl rfl rfl ?_
        refine pv_sipush (M := mX7_readTerm) (v := 160) dX7_readTerm_13 16 rfl (by decide) ?_
        refine pv_icmp_ge (M := mX7_readTerm) (tgt := 66) dX7_readTerm_16 19 rfl (by decide) (fun c34 => ?_) (fun c34 => ?_)
        · have c34 := iv_le (X := 160) (Y := y14.toInt) c34 (by decide) rfl
          refine pv_iconst (M := mX7_readTerm) (v := 1) dX7_readTerm_66 67 rfl (by decide) ?_
          have z35 : (1 : Int32).toInt = 1 := by decide
          exact pv_iret (M := mX7_readTerm) dX7_readTerm_67 rfl rfl ⟨_, _, _, rfl, rfl, I17, K18, by decide, by decide, ⟨by omega, by omega, by omega, ⟨Or.inr (by omega), Or.inl ⟨by decide, kgs, by first | (exact (k23.resolve_left (fun q => by have q1 := q.1; omega)).2) | (exfalso; omega)⟩⟩, by omega⟩⟩
        · have c34 := iv_nle (X := 160) (Y := y14.toInt) c34 (by decide) rfl
          refine pv_aload_n (M := mX7_readTerm) 0 dX7_readTerm_19 20 rfl rfl rfl ?_
          refine pv_callv (M := mX7_readTerm) (as := []) (st := []) (kc2 := 0) (ks2 := 0) dX7_readTerm_20 wd654 YX7_timesAhead ⟨wd656, wd11⟩ (mk_get (tl86 hT)) rfl rfl (s_X7_timesAhead_vx g hT I17 R) rfl rfl (Nat.le_of_ble_eq_true rfl) (by decide) rfl rfl 23 rfl (fun rv h1 q36 => ?_)
          obtain ⟨v37, rfl, rfl, pv37, qv37, rv37⟩ := q36
          replace rv37 : (v37 = 0 ∨ (m15 86 3).toInt < (m15 86 2).toInt) ∧ ((v37.toInt = 1 ∧ isT (tC m15 (m15 86 3).toInt) = true) ∨ (v37.toInt = 0 ∧ isT (tC m15 (m15 86 3).toInt) = false)) := rv37
          show PV _ _ _ _ _ _ _ 23 [.ref 86, .int 6, .int y14, pv_U] [.int v37] _
          have k23 := rv37.2
          rw [kt12] at k23
          refine pv_if_eq (M := mX7_readTerm) (tgt := 66) dX7_readTerm_23 26 rfl (by decide) (fun c40 => ?_) (fun c40 => ?_)
          · have c40 := iv_eq (X := v37.toInt) (Y := 0) c40 rfl (by decide)
            refine pv_iconst (M := mX7_readTerm) (v := 1) dX7_readTerm_66 67 rfl (by decide) ?_
            have z41 : (1 : Int32).toInt = 1 := by decide
            exact pv_iret (M := mX7_readTerm) dX7_readTerm_67 rfl rfl ⟨_, _, _, rfl, rfl, I17, K18, by decide, by decide, ⟨by omega, by omega, by omega, ⟨Or.inr (by omega), Or.inl ⟨by decide, kgs, by first | (exact (k23.resolve_left (fun q => by have q1 := q.1; omega)).2) | (exfalso; omega)⟩⟩, by omega⟩⟩
          · have pc40 := rv37.1.resolve_left c40
            have c40 := iv_ne (X := v37.toInt) (Y := 0) c40 rfl (by decide)
            have kT := (k23.resolve_right (fun q => by have q1 := q.1; omega)).2
            refine pv_aload_n (M := mX7_readTerm) 0 dX7_readTerm_26 27 rfl rfl rfl ?_
            refine pv_callv (M := mX7_readTerm) (as := []) (st := []) (kc2 := 0) (ks2 := 0) dX7_readTerm_27 wd527 YX7_peek ⟨wd529, wd2⟩ (mk_get (tl86 hT)) rfl rfl (s_X7_peek_vx g hT I17 R) rfl rfl (Nat.le_of_ble_eq_true rfl) (by decide) rfl rfl 30 rfl (fun rv h1 q43 => ?_)
            obtain ⟨v44, rfl, rfl, pv44, qv44, rv44⟩ := q43
            replace rv44 : v44.toInt = tC m15 (m15 86 3).toInt ∧ (v44.toInt = -1 ∨ (m15 86 3).toInt < (m15 86 2).toInt) := rv44
            show PV _ _ _ _ _ _ _ 30 [.ref 86, .int 6, .int y14, pv_U] [.int v44] _
            refine pv_istore_n (M := mX7_readTerm) 3 (lo2 := [.ref 86, .int 6, .int y14, .int v44]) dX7_readTerm_30 31 rfl rfl (by decide) rfl rfl ?_
            refine pv_aload_n (M := mX7_readTerm) 0 dX7_readTerm_31 32 rfl rfl rfl ?_
            refine pv_dup (M := mX7_readTerm) dX7_readTerm_32 33 rfl rfl ?_
            refine iv_get (M := mX7_readTerm) (l1 := 0) (l2 := 160) dX7_readTerm_33 FX7 3 wd283 (by decide) (tl86 hT) rfl I17 rfl 36 rfl (fun v45 ev45 pv45 qv45 => ?_)
            have wv45 : v45.toInt = (m15 86 3).toInt := congrArg Int32.toInt ev45
            refine pv_iconst (M := mX7_readTerm) (v := 1) dX7_readTerm_36 37 rfl (by decide) ?_
            refine iv_iadd (M := mX7_readTerm) (X := v45.toInt) (Y := 1) dX7_readTerm_37 38 rfl rfl (by decide) (by omega) (by omega) (fun v46 ev46 => ?_)
            refine iv_put (M := mX7_readTerm) (l1 := 0) (l2 := 160) dX7_readTerm_38 FX7 3 wd283 (by decide) rfl (tl86 hT) rfl rfl rfl I17 rfl (by omega) (by omega) 41 rfl (fun m47 e50 I48 => ?_)
            have K49 := K18.set e50 (by decide)
            have w51 : (m47 86 3).toInt = v46.toInt := by rw [e50, up2_eq]
            have w52 : (m47 86 2).toInt = (m15 86 2).toInt := by rw [e50, up2_ne (by omega)]
            have w53 : (m47 86 4).toInt = (m15 86 4).toInt := by rw [e50, up2_ne (by omega)]
            have w54 : (m47 lb 7).toInt = (m15 lb 7).toInt := by rw [e50, up2_ne (by omega)]
            have kt41 : tC m47 = tC m := tC_eq (K49 86 2 rfl) (fun j => K49 87 j rfl)
            have kp41 : (m47 86 3).toInt = (m15 86 3).toInt + 1 := by omega
            refine pv_aload_n (M := mX7_readTerm) 0 dX7_readTerm_41 42 rfl rfl rfl ?_
            refine pv_iload_n (M := mX7_readTerm) 1 dX7_readTerm_42 43 rfl rfl rfl ?_
            have z57 : (6 : Int32).toInt = 6 := by decide
            refine pv_callv (M := mX7_readTerm) (as := [.int 6]) (st := []) (kc2 := 0) (ks2 := 0) dX7_readTerm_43 wd547 YX7_readFactor ⟨wd549, wd6⟩ (mk_get (tl86 hT)) rfl rfl (s_X7_readFactor_v6x g hT I48 R (by first | omega | assumption | exact (iv_rng _).2 | exact (iv_rng _).1 | decide) (TBC_eq hp1 kt41)) rfl rfl (Nat.le_of_ble_eq_true rfl) (by decide) rfl rfl 46 rfl (fun rv h1 q58 => ?_)
            obtain ⟨m59, n60, v63, rfl, rfl, I61, K62, pv63, qv63, rv63⟩ := q58
            replace rv63 : (m47 86 3).toInt ≤ (m59 86 3).toInt ∧ (m59 86 3).toInt ≤ (m59 86 2).toInt ∧ (m59 86 2).toInt = (m47 86 2).toInt ∧ (RSX (FA (tC m47) 0 (m47 86 3).toInt) v63.toInt (m59 86 3).toInt (m59 86 4).toInt) ∧ (m59 lb 7).toInt = (m47 lb 7).toInt := by have q_ := rv63; (try rw [z57] at q_); exact q_
            have K62c := K62
            have K62 := K49.trans (K62.sub (fun _ _ q => q))
            show PV _ _ _ _ _ _ _ 46 [.ref 86, .int 6, .int y14, .int v44] [.int v63] _
            have k46 := rv63.2.2.2.1
            rw [kt41, kp41] at k46
            refine pv_if_ne (M := mX7_readTerm) (tgt := 51) dX7_readTerm_46 49 rfl (by decide) (fun c66 => ?_) (fun c66 => ?_)
            · have c66 := iv_ne (X := v63.toInt) (Y := 0) c66 rfl (by decide)
              have kF4 := RSX_ok k46 (by omega)
              have kF5 := FA_le 0 ((m15 86 3).toInt + 1) (by rw [kF4])
              rw [kF4] at kF5
              refine pv_aload_n (M := mX7_readTerm) 0 dX7_readTerm_51 52 rfl rfl rfl ?_
              refine mv_get (M := mX7_readTerm) (v := .ref lb) dX7_readTerm_52 FX7 1 wd281 (by decide) (tl86 hT) rfl R.2.2.2.1 55 rfl ?_
              refine pv_iload_n (M := mX7_readTerm) 3 dX7_readTerm_55 56 rfl rfl rfl ?_
              refine pv_iconst (M := mX7_readTerm) (v := 0) dX7_readTerm_56 57 rfl (by decide) ?_
              have z70 : (0 : Int32).toInt = 0 := by decide
              refine pv_callv (M := mX7_readTerm) (as := [.int v44, .int 0]) (st := []) (kc2 := 0) (ks2 := 0) dX7_readTerm_57 wd567 YX6_emit ⟨wd568, wd569⟩ (mk_get R.2.2.2.2.2.2.1) rfl rfl (s_X6_emit_vx g hT I61 lb R.2.2.2.2.2 v44 0 (by decide) (by decide)) rfl rfl (Nat.le_of_ble_eq_true rfl) (by decide) rfl rfl 60 rfl (fun rv h1 q71 => ?_)
              obtain ⟨m72, n73, rfl, rfl, I74, K75, rm72⟩ := q71
              replace rm72 : (m72 lb 7).toInt = (m59 lb 7).toInt := rm72
              have K75c := K75
              have w76 : (m72 86 3).toInt = (m59 86 3).toInt := congrArg Int32.toInt (K75 86 3 (wr_out (by omega)))
              have w77 : (m72 86 2).toInt = (m59 86 2).toInt := congrArg Int32.toInt (K75 86 2 (wr_out (by omega)))
              have w78 : (m72 86 4).toInt = (m59 86 4).toInt := congrArg Int32.toInt (K75 86 4 (wr_out (by omega)))
              have K75 := K62.trans (K75.sub (by first | exact wR7_r (by omega) | exact wR7_wr))
              show PV _ _ _ _ _ _ _ 60 [.ref 86, .int 6, .int y14, .int v44] [] _
              refine iv_inc (M := mX7_readTerm) (C := 1) dX7_readTerm_60 63 rfl rfl (by decide) rfl rfl (by decide) (by omega) (by omega) (fun v79 ev79 => ?_)
              show PV _ _ _ _ _ _ _ 63 [.ref 86, .int 6, .int v79, .int v44] [] _
              refine pv_goto (M := mX7_readTerm) (tgt := 12) dX7_readTerm_63 (by decide) ?_
              refine pv_fg (lo2 := [.ref 86, .int 6, .int v79, pv_U]) ⟨Or.inr rfl, ⟨Or.inr rfl, ⟨Or.inr rfl, ⟨Or.inl rfl, trivial⟩⟩⟩⟩ ?_
              have kbs : SU (tC m) 0 (m 86 3).toInt = LSu (tC m) 0 (m72 86 3).toInt := by rw [kgs, LSu_ok kTX (by omega) (isT_S kT) kF4]; congr 1; omega
              exact ih21 v79 m72 n73 (by first | omega | assumption | exact (iv_rng _).2 | exact (iv_rng _).1 | decide) (by first | omega | assumption | exact (iv_rng _).2 | exact (iv_rng _).1 | decide) (by first | omega | assumption | (show (m72 86 3).toInt ≤ (m72 86 2).toInt; omega) | decide) (by first | omega | assumption | (show (m72 86 2).toInt = (m 86 2).toInt; omega) | decide) (by first | omega | assumption | (show (m72 lb 7).toInt = (m lb 7).toInt; omega) | decide) (by first | omega | assumption | (show (m 86 3).toInt + 1 + 2 * v79.toInt ≤ (m72 86 3).toInt; omega) | decide) kbs I74 K75 (by omega)
            · have c66 := iv_eq (X := v63.toInt) (Y := 0) c66 rfl (by decide)
              refine pv_iconst (M := mX7_readTerm) (v := 0) dX7_readTerm_49 50 rfl (by decide) ?_
              have z81 : (0 : Int32).toInt = 0 := by decide
              exact pv_iret (M := mX7_readTerm) dX7_readTerm_50 rfl rfl ⟨_, _, _, rfl, rfl, I61, K62, by decide, by decide, ⟨by omega, by omega, by omega, ⟨Or.inl (by decide), Or.inr ⟨by decide, by rw [kgs]; exact LSu_fl kTX (by omega) (isT_S kT) (RSX_fl k46 (by omega))⟩⟩, by omega⟩⟩
    have z82 : (0 : Int32).toInt = 0 := by decide
    exact lp20 (((160 - 0) : Int).toNat + 1) 0 m4 n5 (by first | omega | assumption | exact (iv_rng _).2 | exact (iv_rng _).1 | decide) (by first | omega | assumption | exact (iv_rng _).2 | exact (iv_rng _).1 | decide) (by first | omega | assumption | (show (m4 86 3).toInt ≤ (m4 86 2).toInt; omega) | decide) (by first | omega | assumption | (show (m4 86 2).toInt = (m 86 2).toInt; omega) | decide) (by first | omega | assumption | (show (m4 lb 7).toInt = (m lb 7).toInt; omega) | decide) (by first | omega | assumption | (show (m 86 3).toInt + 1 + 2 * 0 ≤ (m4 86 3).toInt; omega) | decide) (SU_ok kF0) I6 K7 (by omega)
  · have c10 := iv_eq (X := v8.toInt) (Y := 0) c10 rfl (by decide)
    refine pv_iconst (M := mX7_readTerm) (v := 0) dX7_readTerm_8 9 rfl (by decide) ?_
    have z83 : (0 : Int32).toInt = 0 := by decide
    exact pv_iret (M := mX7_readTerm) dX7_readTerm_9 rfl rfl ⟨_, _, _, rfl, rfl, I6, K7, by decide, by decide, ⟨by omega, by omega, by omega, ⟨Or.inl (by decide), Or.inr ⟨by decide, SU_fl (RSX_fl k5 (by omega))⟩⟩, by omega⟩⟩

set_option maxHeartbeats 2000000 in
set_option maxRecDepth 20000 in
theorem s_X7_readSum_v6x (g : pv_G) {T : List mv_T} {m : Nat → Nat → Int32} {n : Nat → Nat → Int64} {r : Nat → Value} {la lb : Nat} (hT : TX T) (I : IV BB m) (R : RX T r la lb) (hp0 : (m 86 3).toInt ≤ (m 86 2).toInt) (hp1 : TBC m) : PM g mX7_readSum yX7_readSum (sqI T BB wR7 r m 0 1 (fun m' v => (m 86 3).toInt ≤ (m' 86 3).toInt ∧ (m' 86 3).toInt ≤ (m' 86 2).toInt ∧ (m' 86 2).toInt = (m 86 2).toInt ∧ (RSX (SU (tC m) 0 (m 86 3).toInt) v.toInt (m' 86 3).toInt (m' 86 4).toInt) ∧ (m' lb 7).toInt = (m lb 7).toInt)) 7 0 0 [.ref 86, .int 6] (mk T m n r) := by
  have Kp : fr wR7 m m := fr.rf
  have R0 := R
  have zR := R.2.2.2.2.1.1
  have zR2 := R.2.2.2.2.2.1
  have z133 : 0 ≤ (m 86 3).toInt ∧ (m 86 3).toInt ≤ 160 := I 86 3
  have z134 : 0 ≤ (m 86 2).toInt ∧ (m 86 2).toInt ≤ 160 := I 86 2
  refine PM.of 2 (lo := [.ref 86, .int 6, pv_U, pv_U]) rfl (by decide) rfl rfl (Nat.le_of_ble_eq_true rfl) ?_
  have kTX := TXT_C I
  refine pv_aload_n (M := mX7_readSum) 0 dX7_readSum_0 1 rfl rfl rfl ?_
  refine pv_iload_n (M := mX7_readSum) 1 dX7_readSum_1 2 rfl rfl rfl ?_
  have z2 : (6 : Int32).toInt = 6 := by decide
  refine pv_callv (M := mX7_readSum) (as := [.int 6]) (st := []) (kc2 := 0) (ks2 := 0) dX7_readSum_2 wd543 YX7_readTerm ⟨wd545, wd5⟩ (mk_get (tl86 hT)) rfl rfl (s_X7_readTerm_v6x g hT I R (by first | omega | assumption | exact (iv_rng _).2 | exact (iv_rng _).1 | decide) hp1) rfl rfl (Nat.le_of_ble_eq_true rfl) (by decide) rfl rfl 5 rfl (fun rv h1 q3 => ?_)
  obtain ⟨m4, n5, v8, rfl, rfl, I6, K7, pv8, qv8, rv8⟩ := q3
  replace rv8 : (m 86 3).toInt ≤ (m4 86 3).toInt ∧ (m4 86 3).toInt ≤ (m4 86 2).toInt ∧ (m4 86 2).toInt = (m 86 2).toInt ∧ ((v8.toInt = 0 ∨ (m 86 3).toInt + 1 ≤ (m4 86 3).toInt) ∧ TRX (SU (tC m) 0 (m 86 3).toInt) (LSu (tC m) 0) (fun a => isT (tC m a) = false) v8.toInt (m4 86 3).toInt (m4 86 4).toInt) ∧ (m4 lb 7).toInt = (m lb 7).toInt := by have q_ := rv8; (try rw [z2] at q_); exact q_
  have K7c := K7
  have K7 := Kp.trans (K7.sub (fun _ _ q => q))
  show PV _ _ _ _ _ _ _ 5 [.ref 86, .int 6, pv_U, pv_U] [.int v8] _
  have k5 := rv8.2.2.2.1.2
  have k5p := rv8.2.2.2.1.1
  refine pv_if_ne (M := mX7_readSum) (tgt := 10) dX7_readSum_5 8 rfl (by decide) (fun c11 => ?_) (fun c11 => ?_)
  · have c11 := iv_ne (X := v8.toInt) (Y := 0) c11 rfl (by decide)
    refine pv_iconst (M := mX7_readSum) (v := 0) dX7_readSum_10 11 rfl (by decide) ?_
    refine pv_istore_n (M := mX7_readSum) 2 (lo2 := [.ref 86, .int 6, .int 0, pv_U]) dX7_readSum_11 12 rfl rfl (by decide) rfl rfl ?_
    have lp18 : ∀ (fuel17 : Nat) (y12 : Int32) (m13 : Nat → Nat → Int32) (n14 : Nat → Nat → Int64), (0 ≤ y12.toInt) → (y12.toInt ≤ 160) → ((m13 86 3).toInt ≤ (m13 86 2).toInt) → ((m13 86 2).toInt = (m 86 2).toInt) → ((m13 lb 7).toInt = (m lb 7).toInt) → ((m 86 3).toInt + 1 + 2 * y12.toInt ≤ (m13 86 3).toInt) → (SU (tC m) 0 (m 86 3).toInt = LSu (tC m) 0 (m13 86 3).toInt) → (isT (tC m (m13 86 3).toInt) = false) → IV BB m13 → fr wR7 m m13 → ((160 - y12.toInt) : Int).toNat < fuel17 → PV none g mX7_readSum (sqI T BB wR7 r m 0 1 (fun m' v => (m 86 3).toInt ≤ (m' 86 3).toInt ∧ (m' 86 3).toInt ≤ (m' 86 2).toInt ∧ (m' 86 2).toInt = (m 86 2).toInt ∧ (RSX (SU (tC m) 0 (m 86 3).toInt) v.toInt (m' 86 3).toInt (m' 86 4).toInt) ∧ (m' lb 7).toInt = (m lb 7).toInt)) 7 0 0 12 [.ref 86, .int 6, .int y12, pv_U] [] (mk T m13 n14 r) := by
      intro fuel17
      induction fuel17 with
      | zero => intro y12 m13 n14 b20 b21 b22 b23 b24 b25 b26 b27 I15 K16 z28; omega
      | succ fuel17 ih19 =>
        intro y12 m13 n14 b20 b21 b22 b23 b24 b25 b26 b27 I15 K16 z28
        have z29 : 0 ≤ (m13 86 3).toInt ∧ (m13 86 3).toInt ≤ 160 := I15 86 3
        have z30 : 0 ≤ (m13 86 2).toInt ∧ (m13 86 2).toInt ≤ 160 := I15 86 2
        have kgs := (show SU (tC m) 0 (m 86 3).toInt = LSu (tC m) 0 (m13 86 3).toInt by assumption)
        have kgt := (show isT (tC m (m13 86 3).toInt) = false by assumption)
        have kt12 : tC m13 = tC m := tC_eq (K16 86 2 rfl) (fun j => K16 87 j rfl)
        refine pv_iload_n (M := mX7_readSum) 2 dX7_readSum_12 13 rfl rfl rfl ?_
        refine pv_sipush (M := mX7_readSum) (v := 160) dX7_readSum_13 16 rfl (by decide) ?_
        refine pv_icmp_ge (M := mX7_readSum) (tgt := 77) dX7_readSum_16 19 rfl (by decide) (fun c34 => ?_) (fun c34 => ?_)
        · have c34 := iv_le (X := 160) (Y := y12.toInt) c34 (by decide) rfl
          refine pv_iconst (M := mX7_readSum) (v := 1) dX7_readSum_77 78 rfl (by decide) ?_
          have z35 : (1 : Int32).toInt = 1 := by decide
          exact pv_iret (M := mX7_readSum) dX7_readSum_78 rfl rfl ⟨_, _, _, rfl, rfl, I15, K16, by decide, by decide, ⟨by omega, by omega, by omega, (by first | exact Or.inl ⟨by decide, by rw [kgs]; exact LSu_no (isS_n kgt (by omega) (by omega))⟩ | (exfalso; omega)), by omega⟩⟩
        · have c34 := iv_nle (X := 160) (Y := y12.toInt) c34 (by decide) rfl
          refine pv_aload_n (M := mX7_readSum) 0 dX7_readSum_19 20 rfl rfl rfl ?_
          refine pv_callv (M := mX7_readSum) (as := []) (st := []) (kc2 := 0) (ks2 := 0) dX7_readSum_20 wd527 YX7_peek ⟨wd529, wd2⟩ (mk_get (tl86 hT)) rfl rfl (s_X7_peek_vx g hT I15 R) rfl rfl (Nat.le_of_ble_eq_true rfl) (by decide) rfl rfl 23 rfl (fun rv h1 q36 => ?_)
          obtain ⟨v37, rfl, rfl, pv37, qv37, rv37⟩ := q36
          replace rv37 : v37.toInt = tC m13 (m13 86 3).toInt ∧ (v37.toInt = -1 ∨ (m13 86 3).toInt < (m13 86 2).toInt) := rv37
          show PV _ _ _ _ _ _ _ 23 [.ref 86, .int 6, .int y12, pv_U] [.int v37] _
          have k23 := rv37.1
          have k23b := rv37.2
          rw [kt12] at k23
          refine pv_bipush (M := mX7_readSum) (v := 43) dX7_readSum_23 25 rfl (by decide) ?_
          refine pv_icmp_eq (M := mX7_readSum) (tgt := 37) dX7_readSum_25 28 rfl (by decide) (fun c41 => ?_) (fun c41 => ?_)
          · have c41 := iv_eq (X := v37.toInt) (Y := 43) c41 rfl (by decide)
            have kS : isS (tC m (m13 86 3).toInt) = true := isS_y (by omega)
            refine pv_aload_n (M := mX7_readSum) 0 dX7_readSum_37 38 rfl rfl rfl ?_
            refine pv_callv (M := mX7_readSum) (as := []) (st := []) (kc2 := 0) (ks2 := 0) dX7_readSum_38 wd527 YX7_peek ⟨wd529, wd2⟩ (mk_get (tl86 hT)) rfl rfl (s_X7_peek_vx g hT I15 R) rfl rfl (Nat.le_of_ble_eq_true rfl) (by decide) rfl rfl 41 rfl (fun rv h1 q43 => ?_)
            obtain ⟨v44, rfl, rfl, pv44, qv44, rv44⟩ := q43
            replace rv44 : v44.toInt = tC m13 (m13 86 3).toInt ∧ (v44.toInt = -1 ∨ (m13 86 3).toInt < (m13 86 2).toInt) := rv44
            show PV _ _ _ _ _ _ _ 41 [.ref 86, .int 6, .int y12, pv_U] [.int v44] _
            refine pv_istore_n (M := mX7_readSum) 3 (lo2 := [.ref 86, .int 6, .int y12, .int v44]) dX7_readSum_41 42 rfl rfl (by decide) rfl rfl ?_
            refine pv_aload_n (M := mX7_readSum) 0 dX7_readSum_42 43 rfl rfl rfl ?_
            refine pv_dup (M := mX7_readSum) dX7_readSum_43 44 rfl rfl ?_
            refine iv_get (M := mX7_readSum) (l1 := 0) (l2 := 160) dX7_readSum_44 FX7 3 wd283 (by decide) (tl86 hT) rfl I15 rfl 47 rfl (fun v45 ev45 pv45 qv45 => ?_)
            have wv45 : v45.toInt = (m13 86 3).toInt := congrArg Int32.toInt ev45
            refine pv_iconst (M := mX7_readSum) (v := 1) dX7_readSum_47 48 rfl (by decide) ?_
            refine iv_iadd (M := mX7_readSum) (X := v45.toInt) (Y := 1) dX7_readSum_48 49 rfl rfl (by decide) (by omega) (by omega) (fun v46 ev46 => ?_)
            refine iv_put (M := mX7_readSum) (l1 := 0) (l2 := 160) dX7_readSum_49 FX7 3 wd283 (by decide) rfl (tl86 hT) rfl rfl rfl I15 rfl (by omega) (by omega) 52 rfl (fun m47 e50 I48 => ?_)
            have K49 := K16.set e50 (by decide)
            have w51 : (m47 86 3).toInt = v46.toInt := by rw [e50, up2_eq]
            have w52 : (m47 86 2).toInt = (m13 86 2).toInt := by rw [e50, up2_ne (by omega)]
            have w53 : (m47 86 4).toInt = (m13 86 4).toInt := by rw [e50, up2_ne (by omega)]
            have w54 : (m47 lb 7).toInt = (m13 lb 7).toInt := by rw [e50, up2_ne (by omega)]
            have kt52 : tC m47 = tC m := tC_eq (K49 86 2 rfl) (fun j => K49 87 j rfl)
            have kp52 : (m47 86 3).toInt = (m13 86 3).toInt + 1 := by omega
            refine pv_aload_n (M := mX7_readSum) 0 dX7_readSum_52 53 rfl rfl rfl ?_
            refine pv_iload_n (M := mX7_readSum) 1 dX7_readSum_53 54 rfl rfl rfl ?_
            have z57 : (6 : Int32).toInt = 6 := by decide
            refine pv_callv (M := mX7_readSum) (as := [.int 6]) (st := []) (kc2 := 0) (ks2 := 0) dX7_readSum_54 wd543 YX7_readTerm ⟨wd545, wd5⟩ (mk_get (tl86 hT)) rfl rfl (s_X7_readTerm_v6x g hT I48 R (by first | omega | assumption | exact (iv_rng _).2 | exact (iv_rng _).1 | decide) (TBC_eq hp1 kt52)) rfl rfl (Nat.le_of_ble_eq_true rfl) (by decide) rfl rfl 57 rfl (fun rv h1 q58 => ?_)
            obtain ⟨m59, n60, v63, rfl, rfl, I61, K62, pv63, qv63, rv63⟩ := q58
            replace rv63 : (m47 86 3).toInt ≤ (m59 86 3).toInt ∧ (m59 86 3).toInt ≤ (m59 86 2).toInt ∧ (m59 86 2).toInt = (m47 86 2).toInt ∧ ((v63.toInt = 0 ∨ (m47 86 3).toInt + 1 ≤ (m59 86 3).toInt) ∧ TRX (SU (tC m47) 0 (m47 86 3).toInt) (LSu (tC m47) 0) (fun a => isT (tC m47 a) = false) v63.toInt (m59 86 3).toInt (m59 86 4).toInt) ∧ (m59 lb 7).toInt = (m47 lb 7).toInt := by have q_ := rv63; (try rw [z57] at q_); exact q_
            have K62c := K62
            have K62 := K49.trans (K62.sub (fun _ _ q => q))
            show PV _ _ _ _ _ _ _ 57 [.ref 86, .int 6, .int y12, .int v44] [.int v63] _
            have k57 := rv63.2.2.2.1.2
            have k57p := rv63.2.2.2.1.1
            rw [kt52, kp52] at k57
            refine pv_if_ne (M := mX7_readSum) (tgt := 62) dX7_readSum_57 60 rfl (by decide) (fun c67 => ?_) (fun c67 => ?_)
            · have c67 := iv_ne (X := v63.toInt) (Y := 0) c67 rfl (by decide)
              have kT6 := TRX_ok k57 (by omega)
              refine pv_aload_n (M := mX7_readSum) 0 dX7_readSum_62 63 rfl rfl rfl ?_
              refine mv_get (M := mX7_readSum) (v := .ref lb) dX7_readSum_63 FX7 1 wd281 (by decide) (tl86 hT) rfl R.2.2.2.1 66 rfl ?_
              refine pv_iload_n (M := mX7_readSum) 3 dX7_readSum_66 67 rfl rfl rfl ?_
              refine pv_iconst (M := mX7_readSum) (v := 0) dX7_readSum_67 68 rfl (by decide) ?_
              have z69 : (0 : Int32).toInt = 0 := by decide
              refine pv_callv (M := mX7_readSum) (as := [.int v44, .int 0]) (st := []) (kc2 := 0) (ks2 := 0) dX7_readSum_68 wd567 YX6_emit ⟨wd568, wd569⟩ (mk_get R.2.2.2.2.2.2.1) rfl rfl (s_X6_emit_vx g hT I61 lb R.2.2.2.2.2 v44 0 (by decide) (by decide)) rfl rfl (Nat.le_of_ble_eq_true rfl) (by decide) rfl rfl 71 rfl (fun rv h1 q70 => ?_)
              obtain ⟨m71, n72, rfl, rfl, I73, K74, rm71⟩ := q70
              replace rm71 : (m71 lb 7).toInt = (m59 lb 7).toInt := rm71
              have K74c := K74
              have w75 : (m71 86 3).toInt = (m59 86 3).toInt := congrArg Int32.toInt (K74 86 3 (wr_out (by omega)))
              have w76 : (m71 86 2).toInt = (m59 86 2).toInt := congrArg Int32.toInt (K74 86 2 (wr_out (by omega)))
              have w77 : (m71 86 4).toInt = (m59 86 4).toInt := congrArg Int32.toInt (K74 86 4 (wr_out (by omega)))
              have K74 := K62.trans (K74.sub (by first | exact wR7_r (by omega) | exact wR7_wr))
              show PV _ _ _ _ _ _ _ 71 [.ref 86, .int 6, .int y12, .int v44] [] _
              refine iv_inc (M := mX7_readSum) (C := 1) dX7_readSum_71 74 rfl rfl (by decide) rfl rfl (by decide) (by omega) (by omega) (fun v78 ev78 => ?_)
              show PV _ _ _ _ _ _ _ 74 [.ref 86, .int 6, .int v78, .int v44] [] _
              refine pv_goto (M := mX7_readSum) (tgt := 12) dX7_readSum_74 (by decide) ?_
              refine pv_fg (lo2 := [.ref 86, .int 6, .int v78, pv_U]) ⟨Or.inr rfl, ⟨Or.inr rfl, ⟨Or.inr rfl, ⟨Or.inl rfl, trivial⟩⟩⟩⟩ ?_
              have kb3 : (m71 86 3).toInt = (m59 86 3).toInt := by omega
              have kbs : SU (tC m) 0 (m 86 3).toInt = LSu (tC m) 0 (m71 86 3).toInt := by rw [kgs, LSu_su kTX (by omega) kS, kT6.1]; congr 1; omega
              have kbt : isT (tC m (m71 86 3).toInt) = false := by rw [kb3]; exact kT6.2
              exact ih19 v78 m71 n72 (by first | omega | assumption | exact (iv_rng _).2 | exact (iv_rng _).1 | decide) (by first | omega | assumption | exact (iv_rng _).2 | exact (iv_rng _).1 | decide) (by first | omega | assumption | (show (m71 86 3).toInt ≤ (m71 86 2).toInt; omega) | decide) (by first | omega | assumption | (show (m71 86 2).toInt = (m 86 2).toInt; omega) | decide) (by first | omega | assumption | (show (m71 lb 7).toInt = (m lb 7).toInt; omega) | decide) (by first | omega | assumption | (show (m 86 3).toInt + 1 + 2 * v78.toInt ≤ (m71 86 3).toInt; omega) | decide) kbs kbt I73 K74 (by omega)
            · have c67 := iv_eq (X := v63.toInt) (Y := 0) c67 rfl (by decide)
              refine pv_iconst (M := mX7_readSum) (v := 0) dX7_readSum_60 61 rfl (by decide) ?_
              have z82 : (0 : Int32).toInt = 0 := by decide
              exact pv_iret (M := mX7_readSum) dX7_readSum_61 rfl rfl ⟨_, _, _, rfl, rfl, I61, K62, by decide, by decide, ⟨by omega, by omega, by omega, Or.inr ⟨by decide, by rw [kgs, LSu_su kTX (by omega) kS]; exact TRX_fl k57 (by omega)⟩, by omega⟩⟩
          · have c41 := iv_ne (X := v37.toInt) (Y := 43) c41 rfl (by decide)
            refine pv_aload_n (M := mX7_readSum) 0 dX7_readSum_28 29 rfl rfl rfl ?_
            refine pv_callv (M := mX7_readSum) (as := []) (st := []) (kc2 := 0) (ks2 := 0) dX7_readSum_29 wd527 YX7_peek ⟨wd529, wd2⟩ (mk_get (tl86 hT)) rfl rfl (s_X7_peek_vx g hT I15 R) rfl rfl (Nat.le_of_ble_eq_true rfl) (by decide) rfl rfl 32 rfl (fun rv h1 q83 => ?_)
            obtain ⟨v84, rfl, rfl, pv84, qv84, rv84⟩ := q83
            replace rv84 : v84.toInt = tC m13 (m13 86 3).toInt ∧ (v84.toInt = -1 ∨ (m13 86 3).toInt < (m13 86 2).toInt) := rv84
            show PV _ _ _ _ _ _ _ 32 [.ref 86, .int 6, .int y12, pv_U] [.int v84] _
            have k32 := rv84.1
            have k32b := rv84.2
            rw [kt12] at k32
            refine pv_bipush (M := mX7_readSum) (v := 45) dX7_readSum_32 34 rfl (by decide) ?_
            refine pv_icmp_ne (M := mX7_readSum) (tgt := 77) dX7_readSum_34 37 rfl (by decide) (fun c88 => ?_) (fun c88 => ?_)
            · have c88 := iv_ne (X := v84.toInt) (Y := 45) c88 rfl (by decide)
              refine pv_iconst (M := mX7_readSum) (v := 1) dX7_readSum_77 78 rfl (by decide) ?_
              have z89 : (1 : Int32).toInt = 1 := by decide
              exact pv_iret (M := mX7_readSum) dX7_readSum_78 rfl rfl ⟨_, _, _, rfl, rfl, I15, K16, by decide, by decide, ⟨by omega, by omega, by omega, (by first | exact Or.inl ⟨by decide, by rw [kgs]; exact LSu_no (isS_n kgt (by omega) (by omega))⟩ | (exfalso; omega)), by omega⟩⟩
            · have c88 := iv_eq (X := v84.toInt) (Y := 45) c88 rfl (by decide)
              have kS : isS (tC m (m13 86 3).toInt) = true := isS_y (by omega)
              refine pv_aload_n (M := mX7_readSum) 0 dX7_readSum_37 38 rfl rfl rfl ?_
              refine pv_callv (M := mX7_readSum) (as := []) (st := []) (kc2 := 0) (ks2 := 0) dX7_readSum_38 wd527 YX7_peek ⟨wd529, wd2⟩ (mk_get (tl86 hT)) rfl rfl (s_X7_peek_vx g hT I15 R) rfl rfl (Nat.le_of_ble_eq_true rfl) (by decide) rfl rfl 41 rfl (fun rv h1 q91 => ?_)
              obtain ⟨v92, rfl, rfl, pv92, qv92, rv92⟩ := q91
              replace rv92 : v92.toInt = tC m13 (m13 86 3).toInt ∧ (v92.toInt = -1 ∨ (m13 86 3).toInt < (m13 86 2).toInt) := rv92
              show PV _ _ _ _ _ _ _ 41 [.ref 86, .int 6, .int y12, pv_U] [.int v92] _
              refine pv_istore_n (M := mX7_readSum) 3 (lo2 := [.ref 86, .int 6, .int y12, .int v92]) dX7_readSum_41 42 rfl rfl (by decide) rfl rfl ?_
              refine pv_aload_n (M := mX7_readSum) 0 dX7_readSum_42 43 rfl rfl rfl ?_
              refine pv_dup (M := mX7_readSum) dX7_readSum_43 44 rfl rfl ?_
              refine iv_get (M := mX7_readSum) (l1 := 0) (l2 := 160) dX7_readSum_44 FX7 3 wd283 (by decide) (tl86 hT) rfl I15 rfl 47 rfl (fun v93 ev93 pv93 qv93 => ?_)
              have wv93 : v93.toInt = (m13 86 3).toInt := congrArg Int32.toInt ev93
              refine pv_iconst (M := mX7_readSum) (v := 1) dX7_readSum_47 48 rfl (by decide) ?_
              refine iv_iadd (M := mX7_readSum) (X := v93.toInt) (Y := 1) dX7_readSum_48 49 rfl rfl (by decide) (by omega) (by omega) (fun v94 ev94 => ?_)
              refine iv_put (M := mX7_readSum) (l1 := 0) (l2 := 160) dX7_readSum_49 FX7 3 wd283 (by decide) rfl (tl86 hT) rfl rfl rfl I15 rfl (by omega) (by omega) 52 rfl (fun m95 e98 I96 => ?_)
              have K97 := K16.set e98 (by decide)
              have w99 : (m95 86 3).toInt = v94.toInt := by rw [e98, up2_eq]
              have w100 : (m95 86 2).toInt = (m13 86 2).toInt := by rw [e98, up2_ne (by omega)]
              have w101 : (m95 86 4).toInt = (m13 86 4).toInt := by rw [e98, up2_ne (by omega)]
              have w102 : (m95 lb 7).toInt = (m13 lb 7).toInt := by rw [e98, up2_ne (by omega)]
              have kt52 : tC m95 = tC m := tC_eq (K97 86 2 rfl) (fun j => K97 87 j rfl)
              have kp52 : (m95 86 3).toInt = (m13 86 3).toInt + 1 := by omega
              refine pv_aload_n (M := mX7_readSum) 0 dX7_readSum_52 53 rfl rfl rfl ?_
              refine pv_iload_n (M := mX7_readSum) 1 dX7_readSum_53 54 rfl rfl rfl ?_
              have z105 : (6 : Int32).toInt = 6 := by decide
              refine pv_callv (M := mX7_readSum) (as := [.int 6]) (st := []) (kc2 := 0) (ks2 := 0) dX7_readSum_54 wd543 YX7_readTerm ⟨wd545, wd5⟩ (mk_get (tl86 hT)) rfl rfl (s_X7_readTerm_v6x g hT I96 R (by first | omega | assumption | exact (iv_rng _).2 | exact (iv_rng _).1 | decide) (TBC_eq hp1 kt52)) rfl rfl (Nat.le_of_ble_eq_true rfl) (by decide) rfl rfl 57 rfl (fun rv h1 q106 => ?_)
              obtain ⟨m107, n108, v111, rfl, rfl, I109, K110, pv111, qv111, rv111⟩ := q106
              replace rv111 : (m95 86 3).toInt ≤ (m107 86 3).toInt ∧ (m107 86 3).toInt ≤ (m107 86 2).toInt ∧ (m107 86 2).toInt = (m95 86 2).toInt ∧ ((v111.toInt = 0 ∨ (m95 86 3).toInt + 1 ≤ (m107 86 3).toInt) ∧ TRX (SU (tC m95) 0 (m95 86 3).toInt) (LSu (tC m95) 0) (fun a => isT (tC m95 a) = false) v111.toInt (m107 86 3).toInt (m107 86 4).toInt) ∧ (m107 lb 7).toInt = (m95 lb 7).toInt := by have q_ := rv111; (try rw [z105] at q_); exact q_
              have K110c := K110
              have K110 := K97.trans (K110.sub (fun _ _ q => q))
              show PV _ _ _ _ _ _ _ 57 [.ref 86, .int 6, .int y12, .int v92] [.int v111] _
              have k57 := rv111.2.2.2.1.2
              have k57p := rv111.2.2.2.1.1
              rw [kt52, kp52] at k57
              refine pv_if_ne (M := mX7_readSum) (tgt := 62) dX7_readSum_57 60 rfl (by decide) (fun c115 => ?_) (fun c115 => ?_)
              · have c115 := iv_ne (X := v111.toInt) (Y := 0) c115 rfl (by decide)
                have kT6 := TRX_ok k57 (by omega)
                refine pv_aload_n (M := mX7_readSum) 0 dX7_readSum_62 63 rfl rfl rfl ?_
                refine mv_get (M := mX7_readSum) (v := .ref lb) dX7_readSum_63 FX7 1 wd281 (by decide) (tl86 hT) rfl R.2.2.2.1 66 rfl ?_
                refine pv_iload_n (M := mX7_readSum) 3 dX7_readSum_66 67 rfl rfl rfl ?_
                refine pv_iconst (M := mX7_readSum) (v := 0) dX7_readSum_67 68 rfl (by decide) ?_
                have z117 : (0 : Int32).toInt = 0 := by decide
                refine pv_callv (M := mX7_readSum) (as := [.int v92, .int 0]) (st := []) (kc2 := 0) (ks2 := 0) dX7_readSum_68 wd567 YX6_emit ⟨wd568, wd569⟩ (mk_get R.2.2.2.2.2.2.1) rfl rfl (s_X6_emit_vx g hT I109 lb R.2.2.2.2.2 v92 0 (by decide) (by decide)) rfl rfl (Nat.le_of_ble_eq_true rfl) (by decide) rfl rfl 71 rfl (fun rv h1 q118 => ?_)
                obtain ⟨m119, n120, rfl, rfl, I121, K122, rm119⟩ := q118
                replace rm119 : (m119 lb 7).toInt = (m107 lb 7).toInt := rm119
                have K122c := K122
                have w123 : (m119 86 3).toInt = (m107 86 3).toInt := congrArg Int32.toInt (K122 86 3 (wr_out (by omega)))
                have w124 : (m119 86 2).toInt = (m107 86 2).toInt := congrArg Int32.toInt (K122 86 2 (wr_out (by omega)))
                have w125 : (m119 86 4).toInt = (m107 86 4).toInt := congrArg Int32.toInt (K122 86 4 (wr_out (by omega)))
                have K122 := K110.trans (K122.sub (by first | exact wR7_r (by omega) | exact wR7_wr))
                show PV _ _ _ _ _ _ _ 71 [.ref 86, .int 6, .int y12, .int v92] [] _
                refine iv_inc (M := mX7_readSum) (C := 1) dX7_readSum_71 74 rfl rfl (by decide) rfl rfl (by decide) (by omega) (by omega) (fun v126 ev126 => ?_)
                show PV _ _ _ _ _ _ _ 74 [.ref 86, .int 6, .int v126, .int v92] [] _
                refine pv_goto (M := mX7_readSum) (tgt := 12) dX7_readSum_74 (by decide) ?_
                refine pv_fg (lo2 := [.ref 86, .int 6, .int v126, pv_U]) ⟨Or.inr rfl, ⟨Or.inr rfl, ⟨Or.inr rfl, ⟨Or.inl rfl, trivial⟩⟩⟩⟩ ?_
                have kb3 : (m119 86 3).toInt = (m107 86 3).toInt := by omega
                have kbs : SU (tC m) 0 (m 86 3).toInt = LSu (tC m) 0 (m119 86 3).toInt := by rw [kgs, LSu_su kTX (by omega) kS, kT6.1]; congr 1; omega
                have kbt : isT (tC m (m119 86 3).toInt) = false := by rw [kb3]; exact kT6.2
                exact ih19 v126 m119 n120 (by first | omega | assumption | exact (iv_rng _).2 | exact (iv_rng _).1 | decide) (by first | omega | assumption | exact (iv_rng _).2 | exact (iv_rng _).1 | decide) (by first | omega | assumption | (show (m119 86 3).toInt ≤ (m119 86 2).toInt; omega) | decide) (by first | omega | assumption | (show (m119 86 2).toInt = (m 86 2).toInt; omega) | decide) (by first | omega | assumption | (show (m119 lb 7).toInt = (m lb 7).toInt; omega) | decide) (by first | omega | assumption | (show (m 86 3).toInt + 1 + 2 * v126.toInt ≤ (m119 86 3).toInt; omega) | decide) kbs kbt I121 K122 (by omega)
              · have c115 := iv_eq (X := v111.toInt) (Y := 0) c115 rfl (by decide)
                refine pv_iconst (M := mX7_readSum) (v := 0) dX7_readSum_60 61 rfl (by decide) ?_
                have z130 : (0 : Int32).toInt = 0 := by decide
                exact pv_iret (M := mX7_readSum) dX7_readSum_61 rfl rfl ⟨_, _, _, rfl, rfl, I109, K110, by decide, by decide, ⟨by omega, by omega, by omega, Or.inr ⟨by decide, by rw [kgs, LSu_su kTX (by omega) kS]; exact TRX_fl k57 (by omega)⟩, by omega⟩⟩
    have z131 : (0 : Int32).toInt = 0 := by decide
    exact lp18 (((160 - 0) : Int).toNat + 1) 0 m4 n5 (by first | omega | assumption | exact (iv_rng _).2 | exact (iv_rng _).1 | decide) (by first | omega | assumption | exact (iv_rng _).2 | exact (iv_rng _).1 | decide) (by first | omega | assumption | (show (m4 86 3).toInt ≤ (m4 86 2).toInt; omega) | decide) (by first | omega | assumption | (show (m4 86 2).toInt = (m 86 2).toInt; omega) | decide) (by first | omega | assumption | (show (m4 lb 7).toInt = (m lb 7).toInt; omega) | decide) (by first | omega | assumption | (show (m 86 3).toInt + 1 + 2 * 0 ≤ (m4 86 3).toInt; omega) | decide) (TRX_ok k5 (by omega)).1 (TRX_ok k5 (by omega)).2 I6 K7 (by omega)
  · have c11 := iv_eq (X := v8.toInt) (Y := 0) c11 rfl (by decide)
    refine pv_iconst (M := mX7_readSum) (v := 0) dX7_readSum_8 9 rfl (by decide) ?_
    have z132 : (0 : Int32).toInt = 0 := by decide
    exact pv_iret (M := mX7_readSum) dX7_readSum_9 rfl rfl ⟨_, _, _, rfl, rfl, I6, K7, by decide, by decide, ⟨by omega, by omega, by omega, Or.inr ⟨by decide, TRX_fl k5 (by omega)⟩, by omega⟩⟩

set_option maxHeartbeats 2000000 in
set_option maxRecDepth 20000 in
theorem s_X7_readFactor_v5x (g : pv_G) {T : List mv_T} {m : Nat → Nat → Int32} {n : Nat → Nat → Int64} {r : Nat → Value} {la lb : Nat} (hT : TX T) (I : IV BB m) (R : RX T r la lb) (hp0 : (m 86 3).toInt ≤ (m 86 2).toInt) (hp1 : TBC m) : PM g mX7_readFactor yX7_readFactor (sqI T BB wR7 r m 0 1 (fun m' v => (m 86 3).toInt ≤ (m' 86 3).toInt ∧ (m' 86 3).toInt ≤ (m' 86 2).toInt ∧ (m' 86 2).toInt = (m 86 2).toInt ∧ (RSX (FA (tC m) 1 (m 86 3).toInt) v.toInt (m' 86 3).toInt (m' 86 4).toInt) ∧ (m' lb 7).toInt = (m lb 7).toInt)) 8 0 0 [.ref 86, .int 5] (mk T m n r) := by
  have Kp : fr wR7 m m := fr.rf
  have R0 := R
  have zR := R.2.2.2.2.1.1
  have zR2 := R.2.2.2.2.2.1
  have z108 : 0 ≤ (m 86 3).toInt ∧ (m 86 3).toInt ≤ 160 := I 86 3
  have z109 : 0 ≤ (m 86 2).toInt ∧ (m 86 2).toInt ≤ 160 := I 86 2
  refine PM.of 1 (lo := [.ref 86, .int 5, pv_U]) rfl (by decide) rfl rfl (Nat.le_of_ble_eq_true rfl) ?_
  refine pv_aload_n (M := mX7_readFactor) 0 dX7_readFactor_0 1 rfl rfl rfl ?_
  refine pv_callv (M := mX7_readFactor) (as := []) (st := []) (kc2 := 0) (ks2 := 0) dX7_readFactor_1 wd527 YX7_peek ⟨wd529, wd2⟩ (mk_get (tl86 hT)) rfl rfl (s_X7_peek_vx g hT I R) rfl rfl (Nat.le_of_ble_eq_true rfl) (by decide) rfl rfl 4 rfl (fun rv h1 q1 => ?_)
  obtain ⟨v2, rfl, rfl, pv2, qv2, rv2⟩ := q1
  replace rv2 : v2.toInt = tC m (m 86 3).toInt ∧ (v2.toInt = -1 ∨ (m 86 3).toInt < (m 86 2).toInt) := rv2
  show PV _ _ _ _ _ _ _ 4 [.ref 86, .int 5, pv_U] [.int v2] _
  have k4 := rv2.1
  have k4b := rv2.2
  refine pv_bipush (M := mX7_readFactor) (v := 91) dX7_readFactor_4 6 rfl (by decide) ?_
  refine pv_icmp_ne (M := mX7_readFactor) (tgt := 42) dX7_readFactor_6 9 rfl (by decide) (fun c5 => ?_) (fun c5 => ?_)
  · have c5 := iv_ne (X := v2.toInt) (Y := 91) c5 rfl (by decide)
    have kn91 : tC m (m 86 3).toInt ≠ 91 := by omega
    refine pv_aload_n (M := mX7_readFactor) 0 dX7_readFactor_42 43 rfl rfl rfl ?_
    refine pv_callv (M := mX7_readFactor) (as := []) (st := []) (kc2 := 0) (ks2 := 0) dX7_readFactor_43 wd559 YX7_digitAhead ⟨wd561, wd9⟩ (mk_get (tl86 hT)) rfl rfl (s_X7_digitAhead_vx g hT I R) rfl rfl (Nat.le_of_ble_eq_true rfl) (by decide) rfl rfl 46 rfl (fun rv h1 q7 => ?_)
    obtain ⟨v8, rfl, rfl, pv8, qv8, rv8⟩ := q7
    replace rv8 : (v8 = 0 ∨ ((m 86 3).toInt < (m 86 2).toInt ∧ 48 ≤ (m 87 (m 86 3).toInt.toNat).toInt ∧ (m 87 (m 86 3).toInt.toNat).toInt ≤ 57)) ∧ ((v8.toInt = 1 ∧ dig (tC m (m 86 3).toInt) = true) ∨ (v8.toInt = 0 ∧ dig (tC m (m 86 3).toInt) = false)) := rv8
    show PV _ _ _ _ _ _ _ 46 [.ref 86, .int 5, pv_U] [.int v8] _
    have k46 := rv8.2
    refine pv_if_eq (M := mX7_readFactor) (tgt := 54) dX7_readFactor_46 49 rfl (by decide) (fun c10 => ?_) (fun c10 => ?_)
    · have c10 := iv_eq (X := v8.toInt) (Y := 0) c10 rfl (by decide)
      have kdn := (k46.resolve_left (fun q => by have q1 := q.1; omega)).2
      refine pv_aload_n (M := mX7_readFactor) 0 dX7_readFactor_54 55 rfl rfl rfl ?_
      refine pv_callv (M := mX7_readFactor) (as := []) (st := []) (kc2 := 0) (ks2 := 0) dX7_readFactor_55 wd527 YX7_peek ⟨wd529, wd2⟩ (mk_get (tl86 hT)) rfl rfl (s_X7_peek_vx g hT I R) rfl rfl (Nat.le_of_ble_eq_true rfl) (by decide) rfl rfl 58 rfl (fun rv h1 q12 => ?_)
      obtain ⟨v13, rfl, rfl, pv13, qv13, rv13⟩ := q12
      replace rv13 : v13.toInt = tC m (m 86 3).toInt ∧ (v13.toInt = -1 ∨ (m 86 3).toInt < (m 86 2).toInt) := rv13
      show PV _ _ _ _ _ _ _ 58 [.ref 86, .int 5, pv_U] [.int v13] _
      have k58 := rv13.1
      refine pv_iconst (M := mX7_readFactor) (v := (-1)) dX7_readFactor_58 59 rfl (by decide) ?_
      refine pv_icmp_ne (M := mX7_readFactor) (tgt := 66) dX7_readFactor_59 62 rfl (by decide) (fun c15 => ?_) (fun c15 => ?_)
      · have c15 := iv_ne (X := v13.toInt) (Y := (-1)) c15 rfl (by decide)
        refine pv_ldcS (M := mX7_readFactor) dX7_readFactor_66 rfl 68 rfl ?_
        refine pv_aload_n (M := mX7_readFactor) 0 dX7_readFactor_68 69 rfl rfl rfl ?_
        refine pv_callv (M := mX7_readFactor) (as := []) (st := [.retAddr (g.2.2.1 6 + 1)]) (kc2 := 0) (ks2 := 0) dX7_readFactor_69 wd527 YX7_peek ⟨wd529, wd2⟩ (mk_get (tl86 hT)) rfl rfl (s_X7_peek_vx g hT I R) rfl rfl (Nat.le_of_ble_eq_true rfl) (by decide) rfl rfl 72 rfl (fun rv h1 q16 => ?_)
        obtain ⟨v17, rfl, rfl, pv17, qv17, rv17⟩ := q16
        replace rv17 : v17.toInt = tC m (m 86 3).toInt ∧ (v17.toInt = -1 ∨ (m 86 3).toInt < (m 86 2).toInt) := rv17
        show PV _ _ _ _ _ _ _ 72 [.ref 86, .int 5, pv_U] [.int v17, .retAddr (g.2.2.1 6 + 1)] _
        have k72 := rv17.1
        have kb72 := hp1 (m 86 3).toInt
        refine iv_i2cU (M := mX7_readFactor) dX7_readFactor_72 73 rfl (fun v20 ev20 => ?_)
        have k73 := i2c_eq ev20 (by omega) (by omega)
        refine pv_callvS (M := mX7_readFactor) (as := [.int v20]) (st := []) (kc2 := 0) (ks2 := 0) dX7_readFactor_73 wd572 YJ0_indexOf_0f7a4 ⟨wd573, wd574⟩ rfl (s_J0_indexOf_0f7a4_vx g hT I v20 (by omega) (by omega)) rfl rfl (Nat.le_of_ble_eq_true rfl) (by decide) rfl rfl 76 rfl (fun rv h1 q22 => ?_)
        obtain ⟨v23, rfl, rfl, pv23, qv23, rv23⟩ := q22
        replace rv23 : v23.toInt = nix v20.toInt := rv23
        show PV _ _ _ _ _ _ _ 76 [.ref 86, .int 5, pv_U] [.int v23] _
        have k76 : v23.toInt = nix (tC m (m 86 3).toInt) := by first | (rw [show tC m (m 86 3).toInt = -1 by omega]; decide) | (rw [rv23, k73, k72])
        refine pv_istore_n (M := mX7_readFactor) 2 (lo2 := [.ref 86, .int 5, .int v23]) dX7_readFactor_76 77 rfl rfl (by decide) rfl rfl ?_
        refine pv_iload_n (M := mX7_readFactor) 2 dX7_readFactor_77 78 rfl rfl rfl ?_
        refine pv_if_ge (M := mX7_readFactor) (tgt := 87) dX7_readFactor_78 81 rfl (by decide) (fun c25 => ?_) (fun c25 => ?_)
        · have c25 := iv_le (X := 0) (Y := v23.toInt) c25 (by decide) rfl
          refine pv_aload_n (M := mX7_readFactor) 0 dX7_readFactor_87 88 rfl rfl rfl ?_
          refine mv_get (M := mX7_readFactor) (v := .ref lb) dX7_readFactor_88 FX7 1 wd281 (by decide) (tl86 hT) rfl R.2.2.2.1 91 rfl ?_
          refine pv_bipush (M := mX7_readFactor) (v := 36) dX7_readFactor_91 93 rfl (by decide) ?_
          refine pv_iload_n (M := mX7_readFactor) 2 dX7_readFactor_93 94 rfl rfl rfl ?_
          have z26 : (36 : Int32).toInt = 36 := by decide
          refine pv_callv (M := mX7_readFactor) (as := [.int 36, .int v23]) (st := []) (kc2 := 0) (ks2 := 0) dX7_readFactor_94 wd567 YX6_emit ⟨wd568, wd569⟩ (mk_get R.2.2.2.2.2.2.1) rfl rfl (s_X6_emit_vx g hT I lb R.2.2.2.2.2 36 v23 (by omega) (by omega)) rfl rfl (Nat.le_of_ble_eq_true rfl) (by decide) rfl rfl 97 rfl (fun rv h1 q27 => ?_)
          obtain ⟨m28, n29, rfl, rfl, I30, K31, rm28⟩ := q27
          replace rm28 : (m28 lb 7).toInt = (m lb 7).toInt := rm28
          have K31c := K31
          have w32 : (m28 86 3).toInt = (m 86 3).toInt := congrArg Int32.toInt (K31 86 3 (wr_out (by omega)))
          have w33 : (m28 86 2).toInt = (m 86 2).toInt := congrArg Int32.toInt (K31 86 2 (wr_out (by omega)))
          have w34 : (m28 86 4).toInt = (m 86 4).toInt := congrArg Int32.toInt (K31 86 4 (wr_out (by omega)))
          have K31 := Kp.trans (K31.sub (by first | exact wR7_r (by omega) | exact wR7_wr))
          show PV _ _ _ _ _ _ _ 97 [.ref 86, .int 5, .int v23] [] _
          refine pv_aload_n (M := mX7_readFactor) 0 dX7_readFactor_97 98 rfl rfl rfl ?_
          refine pv_dup (M := mX7_readFactor) dX7_readFactor_98 99 rfl rfl ?_
          refine iv_get (M := mX7_readFactor) (l1 := 0) (l2 := 160) dX7_readFactor_99 FX7 3 wd283 (by decide) (tl86 hT) rfl I30 rfl 102 rfl (fun v35 ev35 pv35 qv35 => ?_)
          have wv35 : v35.toInt = (m28 86 3).toInt := congrArg Int32.toInt ev35
          refine pv_iconst (M := mX7_readFactor) (v := 1) dX7_readFactor_102 103 rfl (by decide) ?_
          refine iv_iadd (M := mX7_readFactor) (X := v35.toInt) (Y := 1) dX7_readFactor_103 104 rfl rfl (by decide) (by omega) (by omega) (fun v36 ev36 => ?_)
          refine iv_put (M := mX7_readFactor) (l1 := 0) (l2 := 160) dX7_readFactor_104 FX7 3 wd283 (by decide) rfl (tl86 hT) rfl rfl rfl I30 rfl (by omega) (by omega) 107 rfl (fun m37 e40 I38 => ?_)
          have K39 := K31.set e40 (by decide)
          have w41 : (m37 86 3).toInt = v36.toInt := by rw [e40, up2_eq]
          have w42 : (m37 86 2).toInt = (m28 86 2).toInt := by rw [e40, up2_ne (by omega)]
          have w43 : (m37 86 4).toInt = (m28 86 4).toInt := by rw [e40, up2_ne (by omega)]
          have w44 : (m37 lb 7).toInt = (m28 lb 7).toInt := by rw [e40, up2_ne (by omega)]
          refine pv_iconst (M := mX7_readFactor) (v := 1) dX7_readFactor_107 108 rfl (by decide) ?_
          have z45 : (1 : Int32).toInt = 1 := by decide
          exact pv_iret (M := mX7_readFactor) dX7_readFactor_108 rfl rfl ⟨_, _, _, rfl, rfl, I38, K39, by decide, by decide, ⟨by omega, by omega, by omega, Or.inl ⟨by decide, by rw [FA_atom kn91, AT_nam kdn (nix_y (by omega)), show (m 86 3).toInt + 1 = (m37 86 3).toInt by omega]⟩, by omega⟩⟩
        · have c25 := iv_nle (X := 0) (Y := v23.toInt) c25 (by decide) rfl
          refine pv_aload_n (M := mX7_readFactor) 0 dX7_readFactor_81 82 rfl rfl rfl ?_
          refine pv_iconst (M := mX7_readFactor) (v := 1) dX7_readFactor_82 83 rfl (by decide) ?_
          have z46 : (1 : Int32).toInt = 1 := by decide
          refine pv_callv (M := mX7_readFactor) (as := [.int 1]) (st := []) (kc2 := 0) (ks2 := 0) dX7_readFactor_83 wd531 YX7_fail ⟨wd533, wd3⟩ (mk_get (tl86 hT)) rfl rfl (s_X7_fail_vx g hT I R 1 (by decide) (by decide) (by first | omega | assumption | exact (iv_rng _).2 | exact (iv_rng _).1 | decide)) rfl rfl (Nat.le_of_ble_eq_true rfl) (by decide) rfl rfl 86 rfl (fun rv h1 q47 => ?_)
          obtain ⟨m48, n49, v52, rfl, rfl, I50, K51, pv52, qv52, rv52⟩ := q47
          replace rv52 : (m 86 3).toInt ≤ (m48 86 3).toInt ∧ (m48 86 3).toInt ≤ (m48 86 2).toInt ∧ (m48 86 2).toInt = (m 86 2).toInt ∧ (v52.toInt = 0 ∧ (m48 86 3).toInt = (m 86 3).toInt ∧ (m48 86 4).toInt = -1000 * (1 : Int) - (m 86 3).toInt) ∧ (m48 lb 7).toInt = (m lb 7).toInt := by have q_ := rv52; (try rw [z46] at q_); exact q_
          have K51c := K51
          have K51 := Kp.trans (K51.sub (fun _ _ q => q))
          show PV _ _ _ _ _ _ _ 86 [.ref 86, .int 5, .int v23] [.int v52] _
          exact pv_iret (M := mX7_readFactor) dX7_readFactor_86 rfl (iv_nz (by omega) (by omega)) ⟨_, _, _, rfl, rfl, I50, K51, by omega, by omega, ⟨by omega, by omega, by omega, Or.inr ⟨by omega, FLT_of (a := 1) (p := (m 86 3).toInt) (by rw [FA_atom kn91]; exact AT_no kdn (nix_no (by omega))) (by decide) (by omega)⟩, by omega⟩⟩
      · have c15 := iv_eq (X := v13.toInt) (Y := (-1)) c15 rfl (by decide)
        refine pv_iconst (M := mX7_readFactor) (v := (-1)) dX7_readFactor_62 63 rfl (by decide) ?_
        refine pv_goto (M := mX7_readFactor) (tgt := 76) dX7_readFactor_63 (by decide) ?_
        have k76 : (-1) = nix (tC m (m 86 3).toInt) := by first | (rw [show tC m (m 86 3).toInt = -1 by omega]; decide) | (rw [rlit, k73, k72])
        refine pv_istore_n (M := mX7_readFactor) 2 (lo2 := [.ref 86, .int 5, .int (-1)]) dX7_readFactor_76 77 rfl rfl (by decide) rfl rfl ?_
        refine pv_iload_n (M := mX7_readFactor) 2 dX7_readFactor_77 78 rfl rfl rfl ?_
        refine pv_if_ge (M := mX7_readFactor) (tgt := 87) dX7_readFactor_78 81 rfl (by decide) (fun q => absurd q (by decide)) (fun _ => ?_)
        refine pv_aload_n (M := mX7_readFactor) 0 dX7_readFactor_81 82 rfl rfl rfl ?_
        refine pv_iconst (M := mX7_readFactor) (v := 1) dX7_readFactor_82 83 rfl (by decide) ?_
        have z55 : (1 : Int32).toInt = 1 := by decide
        refine pv_callv (M := mX7_readFactor) (as := [.int 1]) (st := []) (kc2 := 0) (ks2 := 0) dX7_readFactor_83 wd531 YX7_fail ⟨wd533, wd3⟩ (mk_get (tl86 hT)) rfl rfl (s_X7_fail_vx g hT I R 1 (by decide) (by decide) (by first | omega | assumption | exact (iv_rng _).2 | exact (iv_rng _).1 | decide)) rfl rfl (Nat.le_of_ble_eq_true rfl) (by decide) rfl rfl 86 rfl (fun rv h1 q56 => ?_)
        obtain ⟨m57, n58, v61, rfl, rfl, I59, K60, pv61, qv61, rv61⟩ := q56
        replace rv61 : (m 86 3).toInt ≤ (m57 86 3).toInt ∧ (m57 86 3).toInt ≤ (m57 86 2).toInt ∧ (m57 86 2).toInt = (m 86 2).toInt ∧ (v61.toInt = 0 ∧ (m57 86 3).toInt = (m 86 3).toInt ∧ (m57 86 4).toInt = -1000 * (1 : Int) - (m 86 3).toInt) ∧ (m57 lb 7).toInt = (m lb 7).toInt := by have q_ := rv61; (try rw [z55] at q_); exact q_
        have K60c := K60
        have K60 := Kp.trans (K60.sub (fun _ _ q => q))
        show PV _ _ _ _ _ _ _ 86 [.ref 86, .int 5, .int (-1)] [.int v61] _
        exact pv_iret (M := mX7_readFactor) dX7_readFactor_86 rfl (iv_nz (by omega) (by omega)) ⟨_, _, _, rfl, rfl, I59, K60, by omega, by omega, ⟨by omega, by omega, by omega, Or.inr ⟨by omega, FLT_of (a := 1) (p := (m 86 3).toInt) (by rw [FA_atom kn91]; exact AT_no kdn (nix_no (by omega))) (by decide) (by omega)⟩, by omega⟩⟩
    · have pc10 := rv8.1.resolve_left c10
      have c10 := iv_ne (X := v8.toInt) (Y := 0) c10 rfl (by decide)
      have kd := (k46.resolve_right (fun q => by have q1 := q.1; omega)).2
      refine pv_aload_n (M := mX7_readFactor) 0 dX7_readFactor_49 50 rfl rfl rfl ?_
      refine pv_callv (M := mX7_readFactor) (as := []) (st := []) (kc2 := 0) (ks2 := 0) dX7_readFactor_50 wd563 YX7_readNumber ⟨wd565, wd10⟩ (mk_get (tl86 hT)) rfl rfl (s_X7_readNumber_vx g hT I R (by first | omega | assumption | exact (iv_rng _).2 | exact (iv_rng _).1 | decide)) rfl rfl (Nat.le_of_ble_eq_true rfl) (by decide) rfl rfl 53 rfl (fun rv h1 q63 => ?_)
      obtain ⟨m64, n65, v68, rfl, rfl, I66, K67, pv68, qv68, rv68⟩ := q63
      replace rv68 : (m 86 3).toInt ≤ (m64 86 3).toInt ∧ (m64 86 3).toInt ≤ (m64 86 2).toInt ∧ (m64 86 2).toInt = (m 86 2).toInt ∧ (RSX (nd (tC m) 5 (m 86 3).toInt) v68.toInt (m64 86 3).toInt (m64 86 4).toInt) ∧ (m64 lb 7).toInt = (m lb 7).toInt := rv68
      have K67c := K67
      have K67 := Kp.trans (K67.sub (fun _ _ q => q))
      show PV _ _ _ _ _ _ _ 53 [.ref 86, .int 5, pv_U] [.int v68] _
      have k53 := rv68.2.2.2.1
      exact pv_iret (M := mX7_readFactor) dX7_readFactor_53 rfl (iv_nz (by omega) (by omega)) ⟨_, _, _, rfl, rfl, I66, K67, by omega, by omega, ⟨by omega, by omega, by omega, (by rw [FA_atom kn91, AT_num kd]; exact k53), by omega⟩⟩
  · have c5 := iv_eq (X := v2.toInt) (Y := 91) c5 rfl (by decide)
    have k91 : tC m (m 86 3).toInt = 91 := by omega
    refine pv_aload_n (M := mX7_readFactor) 0 dX7_readFactor_9 10 rfl rfl rfl ?_
    refine pv_iload_n (M := mX7_readFactor) 1 dX7_readFactor_10 11 rfl rfl rfl ?_
    have z71 : (5 : Int32).toInt = 5 := by decide
    refine pv_callv (M := mX7_readFactor) (as := [.int 5]) (st := []) (kc2 := 0) (ks2 := 0) dX7_readFactor_11 wd551 YX7_open ⟨wd553, wd7⟩ (mk_get (tl86 hT)) rfl rfl (s_X7_open_vx g hT I R 5 (by decide) (by decide) (by first | omega | assumption | exact (iv_rng _).2 | exact (iv_rng _).1 | decide)) rfl rfl (Nat.le_of_ble_eq_true rfl) (by decide) rfl rfl 14 rfl (fun rv h1 q72 => ?_)
    obtain ⟨m73, n74, v77, rfl, rfl, I75, K76, pv77, qv77, rv77⟩ := q72
    replace rv77 : (v77 = 0 ∨ (5 : Int) ≤ 5) ∧ (m 86 3).toInt ≤ (m73 86 3).toInt ∧ (m73 86 3).toInt ≤ (m73 86 2).toInt ∧ (m73 86 2).toInt = (m 86 2).toInt ∧ ((v77.toInt = 1 ∧ (5 : Int) ≤ 5 ∧ (m73 86 3).toInt = (m 86 3).toInt + 1) ∨ (v77.toInt = 0 ∧ 6 ≤ (5 : Int) ∧ (m73 86 4).toInt = -5000 - (m 86 3).toInt ∧ (m73 86 3).toInt = (m 86 3).toInt)) ∧ (m73 lb 7).toInt = (m lb 7).toInt := by have q_ := rv77; (try rw [z71] at q_); exact q_
    have K76c := K76
    have K76 := Kp.trans (K76.sub (fun _ _ q => q))
    show PV _ _ _ _ _ _ _ 14 [.ref 86, .int 5, pv_U] [.int v77] _
    refine pv_if_eq (M := mX7_readFactor) (tgt := 40) dX7_readFactor_14 17 rfl (by decide) (fun c78 => ?_) (fun c78 => ?_)
    · have c78 := iv_eq (X := v77.toInt) (Y := 0) c78 rfl (by decide)
      refine pv_iconst (M := mX7_readFactor) (v := 0) dX7_readFactor_40 41 rfl (by decide) ?_
      have z79 : (0 : Int32).toInt = 0 := by decide
      exact pv_iret (M := mX7_readFactor) dX7_readFactor_41 rfl rfl ⟨_, _, _, rfl, rfl, I75, K76, by decide, by decide, ⟨by omega, by omega, by omega, (by first | exact Or.inr ⟨by decide, FX_deep k91 (by omega)⟩ | exact Or.inr ⟨by decide, FX_cn k91 k27 (fun z => by omega) (by omega)⟩ | exact Or.inl ⟨by decide, FX_co k91 k27 (by omega) (by omega)⟩ | exact Or.inr ⟨by decide, FX_sum k91 (RSX_fl k24 (by omega))⟩ | (exfalso; omega)), by omega⟩⟩
    · have pc78 := rv77.1.resolve_left c78
      have c78 := iv_ne (X := v77.toInt) (Y := 0) c78 rfl (by decide)
      have kt17 : tC m73 = tC m := tC_eq (K76 86 2 rfl) (fun j => K76 87 j rfl)
      have kp17 : (m73 86 3).toInt = (m 86 3).toInt + 1 := by omega
      refine pv_aload_n (M := mX7_readFactor) 0 dX7_readFactor_17 18 rfl rfl rfl ?_
      refine pv_iload_n (M := mX7_readFactor) 1 dX7_readFactor_18 19 rfl rfl rfl ?_
      refine pv_iconst (M := mX7_readFactor) (v := 1) dX7_readFactor_19 20 rfl (by decide) ?_
      refine pv_iadd (M := mX7_readFactor) (v := 6) dX7_readFactor_20 21 rfl (by decide) ?_
      have z83 : (6 : Int32).toInt = 6 := by decide
      refine pv_callv (M := mX7_readFactor) (as := [.int 6]) (st := []) (kc2 := 0) (ks2 := 0) dX7_readFactor_21 wd539 YX7_readSum ⟨wd541, wd4⟩ (mk_get (tl86 hT)) rfl rfl (s_X7_readSum_v6x g hT I75 R (by first | omega | assumption | exact (iv_rng _).2 | exact (iv_rng _).1 | decide) (TBC_eq hp1 kt17)) rfl rfl (Nat.le_of_ble_eq_true rfl) (by decide) rfl rfl 24 rfl (fun rv h1 q84 => ?_)
      obtain ⟨m85, n86, v89, rfl, rfl, I87, K88, pv89, qv89, rv89⟩ := q84
      replace rv89 : (m73 86 3).toInt ≤ (m85 86 3).toInt ∧ (m85 86 3).toInt ≤ (m85 86 2).toInt ∧ (m85 86 2).toInt = (m73 86 2).toInt ∧ (RSX (SU (tC m73) 0 (m73 86 3).toInt) v89.toInt (m85 86 3).toInt (m85 86 4).toInt) ∧ (m85 lb 7).toInt = (m73 lb 7).toInt := by have q_ := rv89; (try rw [z83] at q_); exact q_
      have K88c := K88
      have K88 := K76.trans (K88.sub (fun _ _ q => q))
      show PV _ _ _ _ _ _ _ 24 [.ref 86, .int 5, pv_U] [.int v89] _
      have k24 := rv89.2.2.2.1
      rw [kt17, kp17] at k24
      refine pv_if_eq (M := mX7_readFactor) (tgt := 40) dX7_readFactor_24 27 rfl (by decide) (fun c92 => ?_) (fun c92 => ?_)
      · have c92 := iv_eq (X := v89.toInt) (Y := 0) c92 rfl (by decide)
        refine pv_iconst (M := mX7_readFactor) (v := 0) dX7_readFactor_40 41 rfl (by decide) ?_
        have z93 : (0 : Int32).toInt = 0 := by decide
        exact pv_iret (M := mX7_readFactor) dX7_readFactor_41 rfl rfl ⟨_, _, _, rfl, rfl, I87, K88, by decide, by decide, ⟨by omega, by omega, by omega, (by first | exact Or.inr ⟨by decide, FX_deep k91 (by omega)⟩ | exact Or.inr ⟨by decide, FX_cn k91 k27 (fun z => by omega) (by omega)⟩ | exact Or.inl ⟨by decide, FX_co k91 k27 (by omega) (by omega)⟩ | exact Or.inr ⟨by decide, FX_sum k91 (RSX_fl k24 (by omega))⟩ | (exfalso; omega)), by omega⟩⟩
      · have c92 := iv_ne (X := v89.toInt) (Y := 0) c92 rfl (by decide)
        have k27 := RSX_ok k24 (by omega)
        have kt27 : tC m85 = tC m := tC_eq (K88 86 2 rfl) (fun j => K88 87 j rfl)
        refine pv_aload_n (M := mX7_readFactor) 0 dX7_readFactor_27 28 rfl rfl rfl ?_
        refine pv_bipush (M := mX7_readFactor) (v := 93) dX7_readFactor_28 30 rfl (by decide) ?_
        have z96 : (93 : Int32).toInt = 93 := by decide
        refine pv_callv (M := mX7_readFactor) (as := [.int 93]) (st := []) (kc2 := 0) (ks2 := 0) dX7_readFactor_30 wd555 YX7_pass ⟨wd557, wd8⟩ (mk_get (tl86 hT)) rfl rfl (s_X7_pass_vx g hT I87 R 93 (by decide) (by decide) (by first | omega | assumption | exact (iv_rng _).2 | exact (iv_rng _).1 | decide)) rfl rfl (Nat.le_of_ble_eq_true rfl) (by decide) rfl rfl 33 rfl (fun rv h1 q97 => ?_)
        obtain ⟨m98, n99, v102, rfl, rfl, I100, K101, pv102, qv102, rv102⟩ := q97
        replace rv102 : (m85 86 3).toInt ≤ (m98 86 3).toInt ∧ (m98 86 3).toInt ≤ (m98 86 2).toInt ∧ (m98 86 2).toInt = (m85 86 2).toInt ∧ ((v102.toInt = 1 ∧ tC m85 (m85 86 3).toInt = (93 : Int) ∧ (m98 86 3).toInt = (m85 86 3).toInt + 1) ∨ (v102.toInt = 0 ∧ tC m85 (m85 86 3).toInt ≠ (93 : Int) ∧ (m98 86 4).toInt = -1000 - (m85 86 3).toInt ∧ (m98 86 3).toInt = (m85 86 3).toInt)) ∧ (m98 lb 7).toInt = (m85 lb 7).toInt := by have q_ := rv102; (try rw [z96] at q_); exact q_
        have K101c := K101
        have K101 := K88.trans (K101.sub (fun _ _ q => q))
        show PV _ _ _ _ _ _ _ 33 [.ref 86, .int 5, pv_U] [.int v102] _
        have k33 := rv102.2.2.2.1
        rw [kt27] at k33
        refine pv_if_eq (M := mX7_readFactor) (tgt := 40) dX7_readFactor_33 36 rfl (by decide) (fun c105 => ?_) (fun c105 => ?_)
        · have c105 := iv_eq (X := v102.toInt) (Y := 0) c105 rfl (by decide)
          refine pv_iconst (M := mX7_readFactor) (v := 0) dX7_readFactor_40 41 rfl (by decide) ?_
          have z106 : (0 : Int32).toInt = 0 := by decide
          exact pv_iret (M := mX7_readFactor) dX7_readFactor_41 rfl rfl ⟨_, _, _, rfl, rfl, I100, K101, by decide, by decide, ⟨by omega, by omega, by omega, (by first | exact Or.inr ⟨by decide, FX_deep k91 (by omega)⟩ | exact Or.inr ⟨by decide, FX_cn k91 k27 (fun z => by omega) (by omega)⟩ | exact Or.inl ⟨by decide, FX_co k91 k27 (by omega) (by omega)⟩ | exact Or.inr ⟨by decide, FX_sum k91 (RSX_fl k24 (by omega))⟩ | (exfalso; omega)), by omega⟩⟩
        · have c105 := iv_ne (X := v102.toInt) (Y := 0) c105 rfl (by decide)
          refine pv_iconst (M := mX7_readFactor) (v := 1) dX7_readFactor_36 37 rfl (by decide) ?_
          refine pv_goto (M := mX7_readFactor) (tgt := 41) dX7_readFactor_37 (by decide) ?_
          have z107 : (1 : Int32).toInt = 1 := by decide
          exact pv_iret (M := mX7_readFactor) dX7_readFactor_41 rfl rfl ⟨_, _, _, rfl, rfl, I100, K101, by decide, by decide, ⟨by omega, by omega, by omega, (by first | exact Or.inr ⟨by decide, FX_deep k91 (by omega)⟩ | exact Or.inr ⟨by decide, FX_cn k91 k27 (fun z => by omega) (by omega)⟩ | exact Or.inl ⟨by decide, FX_co k91 k27 (by omega) (by omega)⟩ | exact Or.inr ⟨by decide, FX_sum k91 (RSX_fl k24 (by omega))⟩ | (exfalso; omega)), by omega⟩⟩

set_option maxHeartbeats 2000000 in
set_option maxRecDepth 20000 in
theorem s_X7_readTerm_v5x (g : pv_G) {T : List mv_T} {m : Nat → Nat → Int32} {n : Nat → Nat → Int64} {r : Nat → Value} {la lb : Nat} (hT : TX T) (I : IV BB m) (R : RX T r la lb) (hp0 : (m 86 3).toInt ≤ (m 86 2).toInt) (hp1 : TBC m) : PM g mX7_readTerm yX7_readTerm (sqI T BB wR7 r m 0 1 (fun m' v => (m 86 3).toInt ≤ (m' 86 3).toInt ∧ (m' 86 3).toInt ≤ (m' 86 2).toInt ∧ (m' 86 2).toInt = (m 86 2).toInt ∧ ((v.toInt = 0 ∨ (m 86 3).toInt + 1 ≤ (m' 86 3).toInt) ∧ TRX (SU (tC m) 1 (m 86 3).toInt) (LSu (tC m) 1) (fun a => isT (tC m a) = false) v.toInt (m' 86 3).toInt (m' 86 4).toInt) ∧ (m' lb 7).toInt = (m lb 7).toInt)) 9 0 0 [.ref 86, .int 5] (mk T m n r) := by
  have Kp : fr wR7 m m := fr.rf
  have R0 := R
  have zR := R.2.2.2.2.1.1
  have zR2 := R.2.2.2.2.2.1
  have z84 : 0 ≤ (m 86 3).toInt ∧ (m 86 3).toInt ≤ 160 := I 86 3
  have z85 : 0 ≤ (m 86 2).toInt ∧ (m 86 2).toInt ≤ 160 := I 86 2
  refine PM.of 2 (lo := [.ref 86, .int 5, pv_U, pv_U]) rfl (by decide) rfl rfl (Nat.le_of_ble_eq_true rfl) ?_
  have kTX := TXT_C I
  refine pv_aload_n (M := mX7_readTerm) 0 dX7_readTerm_0 1 rfl rfl rfl ?_
  refine pv_iload_n (M := mX7_readTerm) 1 dX7_readTerm_1 2 rfl rfl rfl ?_
  have z2 : (5 : Int32).toInt = 5 := by decide
  refine pv_callv (M := mX7_readTerm) (as := [.int 5]) (st := []) (kc2 := 0) (ks2 := 0) dX7_readTerm_2 wd547 YX7_readFactor ⟨wd549, wd6⟩ (mk_get (tl86 hT)) rfl rfl (s_X7_readFactor_v5x g hT I R (by first | omega | assumption | exact (iv_rng _).2 | exact (iv_rng _).1 | decide) hp1) rfl rfl (Nat.le_of_ble_eq_true rfl) (by decide) rfl rfl 5 rfl (fun rv h1 q3 => ?_)
  obtain ⟨m4, n5, v8, rfl, rfl, I6, K7, pv8, qv8, rv8⟩ := q3
  replace rv8 : (m 86 3).toInt ≤ (m4 86 3).toInt ∧ (m4 86 3).toInt ≤ (m4 86 2).toInt ∧ (m4 86 2).toInt = (m 86 2).toInt ∧ (RSX (FA (tC m) 1 (m 86 3).toInt) v8.toInt (m4 86 3).toInt (m4 86 4).toInt) ∧ (m4 lb 7).toInt = (m lb 7).toInt := by have q_ := rv8; (try rw [z2] at q_); exact q_
  have K7c := K7
  have K7 := Kp.trans (K7.sub (fun _ _ q => q))
  show PV _ _ _ _ _ _ _ 5 [.ref 86, .int 5, pv_U, pv_U] [.int v8] _
  have k5 := rv8.2.2.2.1
  refine pv_if_ne (M := mX7_readTerm) (tgt := 10) dX7_readTerm_5 8 rfl (by decide) (fun c10 => ?_) (fun c10 => ?_)
  · have c10 := iv_ne (X := v8.toInt) (Y := 0) c10 rfl (by decide)
    have kF0 := RSX_ok k5 (by omega)
    have kF1 := FA_le 1 (m 86 3).toInt (by rw [kF0])
    rw [kF0] at kF1
    refine pv_iconst (M := mX7_readTerm) (v := 0) dX7_readTerm_10 11 rfl (by decide) ?_
    refine pv_istore_n (M := mX7_readTerm) 2 (lo2 := [.ref 86, .int 5, .int 0, pv_U]) dX7_readTerm_11 12 rfl rfl (by decide) rfl rfl ?_
    have lp20 : ∀ (fuel19 : Nat) (y14 : Int32) (m15 : Nat → Nat → Int32) (n16 : Nat → Nat → Int64), (0 ≤ y14.toInt) → (y14.toInt ≤ 160) → ((m15 86 3).toInt ≤ (m15 86 2).toInt) → ((m15 86 2).toInt = (m 86 2).toInt) → ((m15 lb 7).toInt = (m lb 7).toInt) → ((m 86 3).toInt + 1 + 2 * y14.toInt ≤ (m15 86 3).toInt) → (SU (tC m) 1 (m 86 3).toInt = LSu (tC m) 1 (m15 86 3).toInt) → IV BB m15 → fr wR7 m m15 → ((160 - y14.toInt) : Int).toNat < fuel19 → PV none g mX7_readTerm (sqI T BB wR7 r m 0 1 (fun m' v => (m 86 3).toInt ≤ (m' 86 3).toInt ∧ (m' 86 3).toInt ≤ (m' 86 2).toInt ∧ (m' 86 2).toInt = (m 86 2).toInt ∧ ((v.toInt = 0 ∨ (m 86 3).toInt + 1 ≤ (m' 86 3).toInt) ∧ TRX (SU (tC m) 1 (m 86 3).toInt) (LSu (tC m) 1) (fun a => isT (tC m a) = false) v.toInt (m' 86 3).toInt (m' 86 4).toInt) ∧ (m' lb 7).toInt = (m lb 7).toInt)) 9 0 0 12 [.ref 86, .int 5, .int y14, pv_U] [] (mk T m15 n16 r) := by
      intro fuel19
      induction fuel19 with
      | zero => intro y14 m15 n16 b22 b23 b24 b25 b26 b27 b28 I17 K18 z29; omega
      | succ fuel19 ih21 =>
        intro y14 m15 n16 b22 b23 b24 b25 b26 b27 b28 I17 K18 z29
        have z30 : 0 ≤ (m15 86 3).toInt ∧ (m15 86 3).toInt ≤ 160 := I17 86 3
        have z31 : 0 ≤ (m15 86 2).toInt ∧ (m15 86 2).toInt ≤ 160 := I17 86 2
        have kgs := (show SU (tC m) 1 (m 86 3).toInt = LSu (tC m) 1 (m15 86 3).toInt by assumption)
        have kt12 : tC m15 = tC m := tC_eq (K18 86 2 rfl) (fun j => K18 87 j rfl)
        refine pv_iload_n (M := mX7_readTerm) 2 dX7_readTerm_12 13 rfl rfl rfl ?_
        refine pv_sipush (M := mX7_readTerm) (v := 160) dX7_readTerm_13 16 rfl (by decide) ?_
        refine pv_icmp_ge (M := mX7_readTerm) (tgt := 66) dX7_readTerm_16 19 rfl (by decide) (fun c34 => ?_) (fun c34 => ?_)
        · have c34 := iv_le (X := 160) (Y := y14.toInt) c34 (by decide) rfl
          refine pv_iconst (M := mX7_readTerm) (v := 1) dX7_readTerm_66 67 rfl (by decide) ?_
          have z35 : (1 : Int32).toInt = 1 := by decide
          exact pv_iret (M := mX7_readTerm) dX7_readTerm_67 rfl rfl ⟨_, _, _, rfl, rfl, I17, K18, by decide, by decide, ⟨by omega, by omega, by omega, ⟨Or.inr (by omega), Or.inl ⟨by decide, kgs, by first | (exact (k23.resolve_left (fun q => by have q1 := q.1; omega)).2) | (exfalso; omega)⟩⟩, by omega⟩⟩
        · have c34 := iv_nle (X := 160) (Y := y14.toInt) c34 (by decide) rfl
          refine pv_aload_n (M := mX7_readTerm) 0 dX7_readTerm_19 20 rfl rfl rfl ?_
          refine pv_callv (M := mX7_readTerm) (as := []) (st := []) (kc2 := 0) (ks2 := 0) dX7_readTerm_20 wd654 YX7_timesAhead ⟨wd656, wd11⟩ (mk_get (tl86 hT)) rfl rfl (s_X7_timesAhead_vx g hT I17 R) rfl rfl (Nat.le_of_ble_eq_true rfl) (by decide) rfl rfl 23 rfl (fun rv h1 q36 => ?_)
          obtain ⟨v37, rfl, rfl, pv37, qv37, rv37⟩ := q36
          replace rv37 : (v37 = 0 ∨ (m15 86 3).toInt < (m15 86 2).toInt) ∧ ((v37.toInt = 1 ∧ isT (tC m15 (m15 86 3).toInt) = true) ∨ (v37.toInt = 0 ∧ isT (tC m15 (m15 86 3).toInt) = false)) := rv37
          show PV _ _ _ _ _ _ _ 23 [.ref 86, .int 5, .int y14, pv_U] [.int v37] _
          have k23 := rv37.2
          rw [kt12] at k23
          refine pv_if_eq (M := mX7_readTerm) (tgt := 66) dX7_readTerm_23 26 rfl (by decide) (fun c40 => ?_) (fun c40 => ?_)
          · have c40 := iv_eq (X := v37.toInt) (Y := 0) c40 rfl (by decide)
            refine pv_iconst (M := mX7_readTerm) (v := 1) dX7_readTerm_66 67 rfl (by decide) ?_
            have z41 : (1 : Int32).toInt = 1 := by decide
            exact pv_iret (M := mX7_readTerm) dX7_readTerm_67 rfl rfl ⟨_, _, _, rfl, rfl, I17, K18, by decide, by decide, ⟨by omega, by omega, by omega, ⟨Or.inr (by omega), Or.inl ⟨by decide, kgs, by first | (exact (k23.resolve_left (fun q => by have q1 := q.1; omega)).2) | (exfalso; omega)⟩⟩, by omega⟩⟩
          · have pc40 := rv37.1.resolve_left c40
            have c40 := iv_ne (X := v37.toInt) (Y := 0) c40 rfl (by decide)
            have kT := (k23.resolve_right (fun q => by have q1 := q.1; omega)).2
            refine pv_aload_n (M := mX7_readTerm) 0 dX7_readTerm_26 27 rfl rfl rfl ?_
            refine pv_callv (M := mX7_readTerm) (as := []) (st := []) (kc2 := 0) (ks2 := 0) dX7_readTerm_27 wd527 YX7_peek ⟨wd529, wd2⟩ (mk_get (tl86 hT)) rfl rfl (s_X7_peek_vx g hT I17 R) rfl rfl (Nat.le_of_ble_eq_true rfl) (by decide) rfl rfl 30 rfl (fun rv h1 q43 => ?_)
            obtain ⟨v44, rfl, rfl, pv44, qv44, rv44⟩ := q43
            replace rv44 : v44.toInt = tC m15 (m15 86 3).toInt ∧ (v44.toInt = -1 ∨ (m15 86 3).toInt < (m15 86 2).toInt) := rv44
            show PV _ _ _ _ _ _ _ 30 [.ref 86, .int 5, .int y14, pv_U] [.int v44] _
            refine pv_istore_n (M := mX7_readTerm) 3 (lo2 := [.ref 86, .int 5, .int y14, .int v44]) dX7_readTerm_30 31 rfl rfl (by decide) rfl rfl ?_
            refine pv_aload_n (M := mX7_readTerm) 0 dX7_readTerm_31 32 rfl rfl rfl ?_
            refine pv_dup (M := mX7_readTerm) dX7_readTerm_32 33 rfl rfl ?_
            refine iv_get (M := mX7_readTerm) (l1 := 0) (l2 := 160) dX7_readTerm_33 FX7 3 wd283 (by decide) (tl86 hT) rfl I17 rfl 36 rfl (fun v45 ev45 pv45 qv45 => ?_)
            have wv45 : v45.toInt = (m15 86 3).toInt := congrArg Int32.toInt ev45
            refine pv_iconst (M := mX7_readTerm) (v := 1) dX7_readTerm_36 37 rfl (by decide) ?_
            refine iv_iadd (M := mX7_readTerm) (X := v45.toInt) (Y := 1) dX7_readTerm_37 38 rfl rfl (by decide) (by omega) (by omega) (fun v46 ev46 => ?_)
            refine iv_put (M := mX7_readTerm) (l1 := 0) (l2 := 160) dX7_readTerm_38 FX7 3 wd283 (by decide) rfl (tl86 hT) rfl rfl rfl I17 rfl (by omega) (by omega) 41 rfl (fun m47 e50 I48 => ?_)
            have K49 := K18.set e50 (by decide)
            have w51 : (m47 86 3).toInt = v46.toInt := by rw [e50, up2_eq]
            have w52 : (m47 86 2).toInt = (m15 86 2).toInt := by rw [e50, up2_ne (by omega)]
            have w53 : (m47 86 4).toInt = (m15 86 4).toInt := by rw [e50, up2_ne (by omega)]
            have w54 : (m47 lb 7).toInt = (m15 lb 7).toInt := by rw [e50, up2_ne (by omega)]
            have kt41 : tC m47 = tC m := tC_eq (K49 86 2 rfl) (fun j => K49 87 j rfl)
            have kp41 : (m47 86 3).toInt = (m15 86 3).toInt + 1 := by omega
            refine pv_aload_n (M := mX7_readTerm) 0 dX7_readTerm_41 42 rfl rfl rfl ?_
            refine pv_iload_n (M := mX7_readTerm) 1 dX7_readTerm_42 43 rfl rfl rfl ?_
            have z57 : (5 : Int32).toInt = 5 := by decide
            refine pv_callv (M := mX7_readTerm) (as := [.int 5]) (st := []) (kc2 := 0) (ks2 := 0) dX7_readTerm_43 wd547 YX7_readFactor ⟨wd549, wd6⟩ (mk_get (tl86 hT)) rfl rfl (s_X7_readFactor_v5x g hT I48 R (by first | omega | assumption | exact (iv_rng _).2 | exact (iv_rng _).1 | decide) (TBC_eq hp1 kt41)) rfl rfl (Nat.le_of_ble_eq_true rfl) (by decide) rfl rfl 46 rfl (fun rv h1 q58 => ?_)
            obtain ⟨m59, n60, v63, rfl, rfl, I61, K62, pv63, qv63, rv63⟩ := q58
            replace rv63 : (m47 86 3).toInt ≤ (m59 86 3).toInt ∧ (m59 86 3).toInt ≤ (m59 86 2).toInt ∧ (m59 86 2).toInt = (m47 86 2).toInt ∧ (RSX (FA (tC m47) 1 (m47 86 3).toInt) v63.toInt (m59 86 3).toInt (m59 86 4).toInt) ∧ (m59 lb 7).toInt = (m47 lb 7).toInt := by have q_ := rv63; (try rw [z57] at q_); exact q_
            have K62c := K62
            have K62 := K49.trans (K62.sub (fun _ _ q => q))
            show PV _ _ _ _ _ _ _ 46 [.ref 86, .int 5, .int y14, .int v44] [.int v63] _
            have k46 := rv63.2.2.2.1
            rw [kt41, kp41] at k46
            refine pv_if_ne (M := mX7_readTerm) (tgt := 51) dX7_readTerm_46 49 rfl (by decide) (fun c66 => ?_) (fun c66 => ?_)
            · have c66 := iv_ne (X := v63.toInt) (Y := 0) c66 rfl (by decide)
              have kF4 := RSX_ok k46 (by omega)
              have kF5 := FA_le 1 ((m15 86 3).toInt + 1) (by rw [kF4])
              rw [kF4] at kF5
              refine pv_aload_n (M := mX7_readTerm) 0 dX7_readTerm_51 52 rfl rfl rfl ?_
              refine mv_get (M := mX7_readTerm) (v := .ref lb) dX7_readTerm_52 FX7 1 wd281 (by decide) (tl86 hT) rfl R.2.2.2.1 55 rfl ?_
              refine pv_iload_n (M := mX7_readTerm) 3 dX7_readTerm_55 56 rfl rfl rfl ?_
              refine pv_iconst (M := mX7_readTerm) (v := 0) dX7_readTerm_56 57 rfl (by decide) ?_
              have z70 : (0 : Int32).toInt = 0 := by decide
              refine pv_callv (M := mX7_readTerm) (as := [.int v44, .int 0]) (st := []) (kc2 := 0) (ks2 := 0) dX7_readTerm_57 wd567 YX6_emit ⟨wd568, wd569⟩ (mk_get R.2.2.2.2.2.2.1) rfl rfl (s_X6_emit_vx g hT I61 lb R.2.2.2.2.2 v44 0 (by decide) (by decide)) rfl rfl (Nat.le_of_ble_eq_true rfl) (by decide) rfl rfl 60 rfl (fun rv h1 q71 => ?_)
              obtain ⟨m72, n73, rfl, rfl, I74, K75, rm72⟩ := q71
              replace rm72 : (m72 lb 7).toInt = (m59 lb 7).toInt := rm72
              have K75c := K75
              have w76 : (m72 86 3).toInt = (m59 86 3).toInt := congrArg Int32.toInt (K75 86 3 (wr_out (by omega)))
              have w77 : (m72 86 2).toInt = (m59 86 2).toInt := congrArg Int32.toInt (K75 86 2 (wr_out (by omega)))
              have w78 : (m72 86 4).toInt = (m59 86 4).toInt := congrArg Int32.toInt (K75 86 4 (wr_out (by omega)))
              have K75 := K62.trans (K75.sub (by first | exact wR7_r (by omega) | exact wR7_wr))
              show PV _ _ _ _ _ _ _ 60 [.ref 86, .int 5, .int y14, .int v44] [] _
              refine iv_inc (M := mX7_readTerm) (C := 1) dX7_readTerm_60 63 rfl rfl (by decide) rfl rfl (by decide) (by omega) (by omega) (fun v79 ev79 => ?_)
              show PV _ _ _ _ _ _ _ 63 [.ref 86, .int 5, .int v79, .int v44] [] _
              refine pv_goto (M := mX7_readTerm) (tgt := 12) dX7_readTerm_63 (by decide) ?_
              refine pv_fg (lo2 := [.ref 86, .int 5, .int v79, pv_U]) ⟨Or.inr rfl, ⟨Or.inr rfl, ⟨Or.inr rfl, ⟨Or.inl rfl, trivial⟩⟩⟩⟩ ?_
              have kbs : SU (tC m) 1 (m 86 3).toInt = LSu (tC m) 1 (m72 86 3).toInt := by rw [kgs, LSu_ok kTX (by omega) (isT_S kT) kF4]; congr 1; omega
              exact ih21 v79 m72 n73 (by first | omega | assumption | exact (iv_rng _).2 | exact (iv_rng _).1 | decide) (by first | omega | assumption | exact (iv_rng _).2 | exact (iv_rng _).1 | decide) (by first | omega | assumption | (show (m72 86 3).toInt ≤ (m72 86 2).toInt; omega) | decide) (by first | omega | assumption | (show (m72 86 2).toInt = (m 86 2).toInt; omega) | decide) (by first | omega | assumption | (show (m72 lb 7).toInt = (m lb 7).toInt; omega) | decide) (by first | omega | assumption | (show (m 86 3).toInt + 1 + 2 * v79.toInt ≤ (m72 86 3).toInt; omega) | decide) kbs I74 K75 (by omega)
            · have c66 := iv_eq (X := v63.toInt) (Y := 0) c66 rfl (by decide)
              refine pv_iconst (M := mX7_readTerm) (v := 0) dX7_readTerm_49 50 rfl (by decide) ?_
              have z81 : (0 : Int32).toInt = 0 := by decide
              exact pv_iret (M := mX7_readTerm) dX7_readTerm_50 rfl rfl ⟨_, _, _, rfl, rfl, I61, K62, by decide, by decide, ⟨by omega, by omega, by omega, ⟨Or.inl (by decide), Or.inr ⟨by decide, by rw [kgs]; exact LSu_fl kTX (by omega) (isT_S kT) (RSX_fl k46 (by omega))⟩⟩, by omega⟩⟩
    have z82 : (0 : Int32).toInt = 0 := by decide
    exact lp20 (((160 - 0) : Int).toNat + 1) 0 m4 n5 (by first | omega | assumption | exact (iv_rng _).2 | exact (iv_rng _).1 | decide) (by first | omega | assumption | exact (iv_rng _).2 | exact (iv_rng _).1 | decide) (by first | omega | assumption | (show (m4 86 3).toInt ≤ (m4 86 2).toInt; omega) | decide) (by first | omega | assumption | (show (m4 86 2).toInt = (m 86 2).toInt; omega) | decide) (by first | omega | assumption | (show (m4 lb 7).toInt = (m lb 7).toInt; omega) | decide) (by first | omega | assumption | (show (m 86 3).toInt + 1 + 2 * 0 ≤ (m4 86 3).toInt; omega) | decide) (SU_ok kF0) I6 K7 (by omega)
  · have c10 := iv_eq (X := v8.toInt) (Y := 0) c10 rfl (by decide)
    refine pv_iconst (M := mX7_readTerm) (v := 0) dX7_readTerm_8 9 rfl (by decide) ?_
    have z83 : (0 : Int32).toInt = 0 := by decide
    exact pv_iret (M := mX7_readTerm) dX7_readTerm_9 rfl rfl ⟨_, _, _, rfl, rfl, I6, K7, by decide, by decide, ⟨by omega, by omega, by omega, ⟨Or.inl (by decide), Or.inr ⟨by decide, SU_fl (RSX_fl k5 (by omega))⟩⟩, by omega⟩⟩

set_option maxHeartbeats 2000000 in
set_option maxRecDepth 20000 in
theorem s_X7_readSum_v5x (g : pv_G) {T : List mv_T} {m : Nat → Nat → Int32} {n : Nat → Nat → Int64} {r : Nat → Value} {la lb : Nat} (hT : TX T) (I : IV BB m) (R : RX T r la lb) (hp0 : (m 86 3).toInt ≤ (m 86 2).toInt) (hp1 : TBC m) : PM g mX7_readSum yX7_readSum (sqI T BB wR7 r m 0 1 (fun m' v => (m 86 3).toInt ≤ (m' 86 3).toInt ∧ (m' 86 3).toInt ≤ (m' 86 2).toInt ∧ (m' 86 2).toInt = (m 86 2).toInt ∧ (RSX (SU (tC m) 1 (m 86 3).toInt) v.toInt (m' 86 3).toInt (m' 86 4).toInt) ∧ (m' lb 7).toInt = (m lb 7).toInt)) 10 0 0 [.ref 86, .int 5] (mk T m n r) := by
  have Kp : fr wR7 m m := fr.rf
  have R0 := R
  have zR := R.2.2.2.2.1.1
  have zR2 := R.2.2.2.2.2.1
  have z133 : 0 ≤ (m 86 3).toInt ∧ (m 86 3).toInt ≤ 160 := I 86 3
  have z134 : 0 ≤ (m 86 2).toInt ∧ (m 86 2).toInt ≤ 160 := I 86 2
  refine PM.of 2 (lo := [.ref 86, .int 5, pv_U, pv_U]) rfl (by decide) rfl rfl (Nat.le_of_ble_eq_true rfl) ?_
  have kTX := TXT_C I
  refine pv_aload_n (M := mX7_readSum) 0 dX7_readSum_0 1 rfl rfl rfl ?_
  refine pv_iload_n (M := mX7_readSum) 1 dX7_readSum_1 2 rfl rfl rfl ?_
  have z2 : (5 : Int32).toInt = 5 := by decide
  refine pv_callv (M := mX7_readSum) (as := [.int 5]) (st := []) (kc2 := 0) (ks2 := 0) dX7_readSum_2 wd543 YX7_readTerm ⟨wd545, wd5⟩ (mk_get (tl86 hT)) rfl rfl (s_X7_readTerm_v5x g hT I R (by first | omega | assumption | exact (iv_rng _).2 | exact (iv_rng _).1 | decide) hp1) rfl rfl (Nat.le_of_ble_eq_true rfl) (by decide) rfl rfl 5 rfl (fun rv h1 q3 => ?_)
  obtain ⟨m4, n5, v8, rfl, rfl, I6, K7, pv8, qv8, rv8⟩ := q3
  replace rv8 : (m 86 3).toInt ≤ (m4 86 3).toInt ∧ (m4 86 3).toInt ≤ (m4 86 2).toInt ∧ (m4 86 2).toInt = (m 86 2).toInt ∧ ((v8.toInt = 0 ∨ (m 86 3).toInt + 1 ≤ (m4 86 3).toInt) ∧ TRX (SU (tC m) 1 (m 86 3).toInt) (LSu (tC m) 1) (fun a => isT (tC m a) = false) v8.toInt (m4 86 3).toInt (m4 86 4).toInt) ∧ (m4 lb 7).toInt = (m lb 7).toInt := by have q_ := rv8; (try rw [z2] at q_); exact q_
  have K7c := K7
  have K7 := Kp.trans (K7.sub (fun _ _ q => q))
  show PV _ _ _ _ _ _ _ 5 [.ref 86, .int 5, pv_U, pv_U] [.int v8] _
  have k5 := rv8.2.2.2.1.2
  have k5p := rv8.2.2.2.1.1
  refine pv_if_ne (M := mX7_readSum) (tgt := 10) dX7_readSum_5 8 rfl (by decide) (fun c11 => ?_) (fun c11 => ?_)
  · have c11 := iv_ne (X := v8.toInt) (Y := 0) c11 rfl (by decide)
    refine pv_iconst (M := mX7_readSum) (v := 0) dX7_readSum_10 11 rfl (by decide) ?_
    refine pv_istore_n (M := mX7_readSum) 2 (lo2 := [.ref 86, .int 5, .int 0, pv_U]) dX7_readSum_11 12 rfl rfl (by decide) rfl rfl ?_
    have lp18 : ∀ (fuel17 : Nat) (y12 : Int32) (m13 : Nat → Nat → Int32) (n14 : Nat → Nat → Int64), (0 ≤ y12.toInt) → (y12.toInt ≤ 160) → ((m13 86 3).toInt ≤ (m13 86 2).toInt) → ((m13 86 2).toInt = (m 86 2).toInt) → ((m13 lb 7).toInt = (m lb 7).toInt) → ((m 86 3).toInt + 1 + 2 * y12.toInt ≤ (m13 86 3).toInt) → (SU (tC m) 1 (m 86 3).toInt = LSu (tC m) 1 (m13 86 3).toInt) → (isT (tC m (m13 86 3).toInt) = false) → IV BB m13 → fr wR7 m m13 → ((160 - y12.toInt) : Int).toNat < fuel17 → PV none g mX7_readSum (sqI T BB wR7 r m 0 1 (fun m' v => (m 86 3).toInt ≤ (m' 86 3).toInt ∧ (m' 86 3).toInt ≤ (m' 86 2).toInt ∧ (m' 86 2).toInt = (m 86 2).toInt ∧ (RSX (SU (tC m) 1 (m 86 3).toInt) v.toInt (m' 86 3).toInt (m' 86 4).toInt) ∧ (m' lb 7).toInt = (m lb 7).toInt)) 10 0 0 12 [.ref 86, .int 5, .int y12, pv_U] [] (mk T m13 n14 r) := by
      intro fuel17
      induction fuel17 with
      | zero => intro y12 m13 n14 b20 b21 b22 b23 b24 b25 b26 b27 I15 K16 z28; omega
      | succ fuel17 ih19 =>
        intro y12 m13 n14 b20 b21 b22 b23 b24 b25 b26 b27 I15 K16 z28
        have z29 : 0 ≤ (m13 86 3).toInt ∧ (m13 86 3).toInt ≤ 160 := I15 86 3
        have z30 : 0 ≤ (m13 86 2).toInt ∧ (m13 86 2).toInt ≤ 160 := I15 86 2
        have kgs := (show SU (tC m) 1 (m 86 3).toInt = LSu (tC m) 1 (m13 86 3).toInt by assumption)
        have kgt := (show isT (tC m (m13 86 3).toInt) = false by assumption)
        have kt12 : tC m13 = tC m := tC_eq (K16 86 2 rfl) (fun j => K16 87 j rfl)
        refine pv_iload_n (M := mX7_readSum) 2 dX7_readSum_12 13 rfl rfl rfl ?_
        refine pv_sipush (M := mX7_readSum) (v := 160) dX7_readSum_13 16 rfl (by decide) ?_
        refine pv_icmp_ge (M := mX7_readSum) (tgt := 77) dX7_readSum_16 19 rfl (by decide) (fun c34 => ?_) (fun c34 => ?_)
        · have c34 := iv_le (X := 160) (Y := y12.toInt) c34 (by decide) rfl
          refine pv_iconst (M := mX7_readSum) (v := 1) dX7_readSum_77 78 rfl (by decide) ?_
          have z35 : (1 : Int32).toInt = 1 := by decide
          exact pv_iret (M := mX7_readSum) dX7_readSum_78 rfl rfl ⟨_, _, _, rfl, rfl, I15, K16, by decide, by decide, ⟨by omega, by omega, by omega, (by first | exact Or.inl ⟨by decide, by rw [kgs]; exact LSu_no (isS_n kgt (by omega) (by omega))⟩ | (exfalso; omega)), by omega⟩⟩
        · have c34 := iv_nle (X := 160) (Y := y12.toInt) c34 (by decide) rfl
          refine pv_aload_n (M := mX7_readSum) 0 dX7_readSum_19 20 rfl rfl rfl ?_
          refine pv_callv (M := mX7_readSum) (as := []) (st := []) (kc2 := 0) (ks2 := 0) dX7_readSum_20 wd527 YX7_peek ⟨wd529, wd2⟩ (mk_get (tl86 hT)) rfl rfl (s_X7_peek_vx g hT I15 R) rfl rfl (Nat.le_of_ble_eq_true rfl) (by decide) rfl rfl 23 rfl (fun rv h1 q36 => ?_)
          obtain ⟨v37, rfl, rfl, pv37, qv37, rv37⟩ := q36
          replace rv37 : v37.toInt = tC m13 (m13 86 3).toInt ∧ (v37.toInt = -1 ∨ (m13 86 3).toInt < (m13 86 2).toInt) := rv37
          show PV _ _ _ _ _ _ _ 23 [.ref 86, .int 5, .int y12, pv_U] [.int v37] _
          have k23 := rv37.1
          have k23b := rv37.2
          rw [kt12] at k23
          refine pv_bipush (M := mX7_readSum) (v := 43) dX7_readSum_23 25 rfl (by decide) ?_
          refine pv_icmp_eq (M := mX7_readSum) (tgt := 37) dX7_readSum_25 28 rfl (by decide) (fun c41 => ?_) (fun c41 => ?_)
          · have c41 := iv_eq (X := v37.toInt) (Y := 43) c41 rfl (by decide)
            have kS : isS (tC m (m13 86 3).toInt) = true := isS_y (by omega)
            refine pv_aload_n (M := mX7_readSum) 0 dX7_readSum_37 38 rfl rfl rfl ?_
            refine pv_callv (M := mX7_readSum) (as := []) (st := []) (kc2 := 0) (ks2 := 0) dX7_readSum_38 wd527 YX7_peek ⟨wd529, wd2⟩ (mk_get (tl86 hT)) rfl rfl (s_X7_peek_vx g hT I15 R) rfl rfl (Nat.le_of_ble_eq_true rfl) (by decide) rfl rfl 41 rfl (fun rv h1 q43 => ?_)
            obtain ⟨v44, rfl, rfl, pv44, qv44, rv44⟩ := q43
            replace rv44 : v44.toInt = tC m13 (m13 86 3).toInt ∧ (v44.toInt = -1 ∨ (m13 86 3).toInt < (m13 86 2).toInt) := rv44
            show PV _ _ _ _ _ _ _ 41 [.ref 86, .int 5, .int y12, pv_U] [.int v44] _
            refine pv_istore_n (M := mX7_readSum) 3 (lo2 := [.ref 86, .int 5, .int y12, .int v44]) dX7_readSum_41 42 rfl rfl (by decide) rfl rfl ?_
            refine pv_aload_n (M := mX7_readSum) 0 dX7_readSum_42 43 rfl rfl rfl ?_
            refine pv_dup (M := mX7_readSum) dX7_readSum_43 44 rfl rfl ?_
            refine iv_get (M := mX7_readSum) (l1 := 0) (l2 := 160) dX7_readSum_44 FX7 3 wd283 (by decide) (tl86 hT) rfl I15 rfl 47 rfl (fun v45 ev45 pv45 qv45 => ?_)
            have wv45 : v45.toInt = (m13 86 3).toInt := congrArg Int32.toInt ev45
            refine pv_iconst (M := mX7_readSum) (v := 1) dX7_readSum_47 48 rfl (by decide) ?_
            refine iv_iadd (M := mX7_readSum) (X := v45.toInt) (Y := 1) dX7_readSum_48 49 rfl rfl (by decide) (by omega) (by omega) (fun v46 ev46 => ?_)
            refine iv_put (M := mX7_readSum) (l1 := 0) (l2 := 160) dX7_readSum_49 FX7 3 wd283 (by decide) rfl (tl86 hT) rfl rfl rfl I15 rfl (by omega) (by omega) 52 rfl (fun m47 e50 I48 => ?_)
            have K49 := K16.set e50 (by decide)
            have w51 : (m47 86 3).toInt = v46.toInt := by rw [e50, up2_eq]
            have w52 : (m47 86 2).toInt = (m13 86 2).toInt := by rw [e50, up2_ne (by omega)]
            have w53 : (m47 86 4).toInt = (m13 86 4).toInt := by rw [e50, up2_ne (by omega)]
            have w54 : (m47 lb 7).toInt = (m13 lb 7).toInt := by rw [e50, up2_ne (by omega)]
            have kt52 : tC m47 = tC m := tC_eq (K49 86 2 rfl) (fun j => K49 87 j rfl)
            have kp52 : (m47 86 3).toInt = (m13 86 3).toInt + 1 := by omega
            refine pv_aload_n (M := mX7_readSum) 0 dX7_readSum_52 53 rfl rfl rfl ?_
            refine pv_iload_n (M := mX7_readSum) 1 dX7_readSum_53 54 rfl rfl rfl ?_
            have z57 : (5 : Int32).toInt = 5 := by decide
            refine pv_callv (M := mX7_readSum) (as := [.int 5]) (st := []) (kc2 := 0) (ks2 := 0) dX7_readSum_54 wd543 YX7_readTerm ⟨wd545, wd5⟩ (mk_get (tl86 hT)) rfl rfl (s_X7_readTerm_v5x g hT I48 R (by first | omega | assumption | exact (iv_rng _).2 | exact (iv_rng _).1 | decide) (TBC_eq hp1 kt52)) rfl rfl (Nat.le_of_ble_eq_true rfl) (by decide) rfl rfl 57 rfl (fun rv h1 q58 => ?_)
            obtain ⟨m59, n60, v63, rfl, rfl, I61, K62, pv63, qv63, rv63⟩ := q58
            replace rv63 : (m47 86 3).toInt ≤ (m59 86 3).toInt ∧ (m59 86 3).toInt ≤ (m59 86 2).toInt ∧ (m59 86 2).toInt = (m47 86 2).toInt ∧ ((v63.toInt = 0 ∨ (m47 86 3).toInt + 1 ≤ (m59 86 3).toInt) ∧ TRX (SU (tC m47) 1 (m47 86 3).toInt) (LSu (tC m47) 1) (fun a => isT (tC m47 a) = false) v63.toInt (m59 86 3).toInt (m59 86 4).toInt) ∧ (m59 lb 7).toInt = (m47 lb 7).toInt := by have q_ := rv63; (try rw [z57] at q_); exact q_
            have K62c := K62
            have K62 := K49.trans (K62.sub (fun _ _ q => q))
            show PV _ _ _ _ _ _ _ 57 [.ref 86, .int 5, .int y12, .int v44] [.int v63] _
            have k57 := rv63.2.2.2.1.2
            have k57p := rv63.2.2.2.1.1
            rw [kt52, kp52] at k57
            refine pv_if_ne (M := mX7_readSum) (tgt := 62) dX7_readSum_57 60 rfl (by decide) (fun c67 => ?_) (fun c67 => ?_)
            · have c67 := iv_ne (X := v63.toInt) (Y := 0) c67 rfl (by decide)
              have kT6 := TRX_ok k57 (by omega)
              refine pv_aload_n (M := mX7_readSum) 0 dX7_readSum_62 63 rfl rfl rfl ?_
              refine mv_get (M := mX7_readSum) (v := .ref lb) dX7_readSum_63 FX7 1 wd281 (by decide) (tl86 hT) rfl R.2.2.2.1 66 rfl ?_
              refine pv_iload_n (M := mX7_readSum) 3 dX7_readSum_66 67 rfl rfl rfl ?_
              refine pv_iconst (M := mX7_readSum) (v := 0) dX7_readSum_67 68 rfl (by decide) ?_
              have z69 : (0 : Int32).toInt = 0 := by decide
              refine pv_callv (M := mX7_readSum) (as := [.int v44, .int 0]) (st := []) (kc2 := 0) (ks2 := 0) dX7_readSum_68 wd567 YX6_emit ⟨wd568, wd569⟩ (mk_get R.2.2.2.2.2.2.1) rfl rfl (s_X6_emit_vx g hT I61 lb R.2.2.2.2.2 v44 0 (by decide) (by decide)) rfl rfl (Nat.le_of_ble_eq_true rfl) (by decide) rfl rfl 71 rfl (fun rv h1 q70 => ?_)
              obtain ⟨m71, n72, rfl, rfl, I73, K74, rm71⟩ := q70
              replace rm71 : (m71 lb 7).toInt = (m59 lb 7).toInt := rm71
              have K74c := K74
              have w75 : (m71 86 3).toInt = (m59 86 3).toInt := congrArg Int32.toInt (K74 86 3 (wr_out (by omega)))
              have w76 : (m71 86 2).toInt = (m59 86 2).toInt := congrArg Int32.toInt (K74 86 2 (wr_out (by omega)))
              have w77 : (m71 86 4).toInt = (m59 86 4).toInt := congrArg Int32.toInt (K74 86 4 (wr_out (by omega)))
              have K74 := K62.trans (K74.sub (by first | exact wR7_r (by omega) | exact wR7_wr))
              show PV _ _ _ _ _ _ _ 71 [.ref 86, .int 5, .int y12, .int v44] [] _
              refine iv_inc (M := mX7_readSum) (C := 1) dX7_readSum_71 74 rfl rfl (by decide) rfl rfl (by decide) (by omega) (by omega) (fun v78 ev78 => ?_)
              show PV _ _ _ _ _ _ _ 74 [.ref 86, .int 5, .int v78, .int v44] [] _
              refine pv_goto (M := mX7_readSum) (tgt := 12) dX7_readSum_74 (by decide) ?_
              refine pv_fg (lo2 := [.ref 86, .int 5, .int v78, pv_U]) ⟨Or.inr rfl, ⟨Or.inr rfl, ⟨Or.inr rfl, ⟨Or.inl rfl, trivial⟩⟩⟩⟩ ?_
              have kb3 : (m71 86 3).toInt = (m59 86 3).toInt := by omega
              have kbs : SU (tC m) 1 (m 86 3).toInt = LSu (tC m) 1 (m71 86 3).toInt := by rw [kgs, LSu_su kTX (by omega) kS, kT6.1]; congr 1; omega
              have kbt : isT (tC m (m71 86 3).toInt) = false := by rw [kb3]; exact kT6.2
              exact ih19 v78 m71 n72 (by first | omega | assumption | exact (iv_rng _).2 | exact (iv_rng _).1 | decide) (by first | omega | assumption | exact (iv_rng _).2 | exact (iv_rng _).1 | decide) (by first | omega | assumption | (show (m71 86 3).toInt ≤ (m71 86 2).toInt; omega) | decide) (by first | omega | assumption | (show (m71 86 2).toInt = (m 86 2).toInt; omega) | decide) (by first | omega | assumption | (show (m71 lb 7).toInt = (m lb 7).toInt; omega) | decide) (by first | omega | assumption | (show (m 86 3).toInt + 1 + 2 * v78.toInt ≤ (m71 86 3).toInt; omega) | decide) kbs kbt I73 K74 (by omega)
            · have c67 := iv_eq (X := v63.toInt) (Y := 0) c67 rfl (by decide)
              refine pv_iconst (M := mX7_readSum) (v := 0) dX7_readSum_60 61 rfl (by decide) ?_
              have z82 : (0 : Int32).toInt = 0 := by decide
              exact pv_iret (M := mX7_readSum) dX7_readSum_61 rfl rfl ⟨_, _, _, rfl, rfl, I61, K62, by decide, by decide, ⟨by omega, by omega, by omega, Or.inr ⟨by decide, by rw [kgs, LSu_su kTX (by omega) kS]; exact TRX_fl k57 (by omega)⟩, by omega⟩⟩
          · have c41 := iv_ne (X := v37.toInt) (Y := 43) c41 rfl (by decide)
            refine pv_aload_n (M := mX7_readSum) 0 dX7_readSum_28 29 rfl rfl rfl ?_
            refine pv_callv (M := mX7_readSum) (as := []) (st := []) (kc2 := 0) (ks2 := 0) dX7_readSum_29 wd527 YX7_peek ⟨wd529, wd2⟩ (mk_get (tl86 hT)) rfl rfl (s_X7_peek_vx g hT I15 R) rfl rfl (Nat.le_of_ble_eq_true rfl) (by decide) rfl rfl 32 rfl (fun rv h1 q83 => ?_)
            obtain ⟨v84, rfl, rfl, pv84, qv84, rv84⟩ := q83
            replace rv84 : v84.toInt = tC m13 (m13 86 3).toInt ∧ (v84.toInt = -1 ∨ (m13 86 3).toInt < (m13 86 2).toInt) := rv84
            show PV _ _ _ _ _ _ _ 32 [.ref 86, .int 5, .int y12, pv_U] [.int v84] _
            have k32 := rv84.1
            have k32b := rv84.2
            rw [kt12] at k32
            refine pv_bipush (M := mX7_readSum) (v := 45) dX7_readSum_32 34 rfl (by decide) ?_
            refine pv_icmp_ne (M := mX7_readSum) (tgt := 77) dX7_readSum_34 37 rfl (by decide) (fun c88 => ?_) (fun c88 => ?_)
            · have c88 := iv_ne (X := v84.toInt) (Y := 45) c88 rfl (by decide)
              refine pv_iconst (M := mX7_readSum) (v := 1) dX7_readSum_77 78 rfl (by decide) ?_
              have z89 : (1 : Int32).toInt = 1 := by decide
              exact pv_iret (M := mX7_readSum) dX7_readSum_78 rfl rfl ⟨_, _, _, rfl, rfl, I15, K16, by decide, by decide, ⟨by omega, by omega, by omega, (by first | exact Or.inl ⟨by decide, by rw [kgs]; exact LSu_no (isS_n kgt (by omega) (by omega))⟩ | (exfalso; omega)), by omega⟩⟩
            · have c88 := iv_eq (X := v84.toInt) (Y := 45) c88 rfl (by decide)
              have kS : isS (tC m (m13 86 3).toInt) = true := isS_y (by omega)
              refine pv_aload_n (M := mX7_readSum) 0 dX7_readSum_37 38 rfl rfl rfl ?_
              refine pv_callv (M := mX7_readSum) (as := []) (st := []) (kc2 := 0) (ks2 := 0) dX7_readSum_38 wd527 YX7_peek ⟨wd529, wd2⟩ (mk_get (tl86 hT)) rfl rfl (s_X7_peek_vx g hT I15 R) rfl rfl (Nat.le_of_ble_eq_true rfl) (by decide) rfl rfl 41 rfl (fun rv h1 q91 => ?_)
              obtain ⟨v92, rfl, rfl, pv92, qv92, rv92⟩ := q91
              replace rv92 : v92.toInt = tC m13 (m13 86 3).toInt ∧ (v92.toInt = -1 ∨ (m13 86 3).toInt < (m13 86 2).toInt) := rv92
              show PV _ _ _ _ _ _ _ 41 [.ref 86, .int 5, .int y12, pv_U] [.int v92] _
              refine pv_istore_n (M := mX7_readSum) 3 (lo2 := [.ref 86, .int 5, .int y12, .int v92]) dX7_readSum_41 42 rfl rfl (by decide) rfl rfl ?_
              refine pv_aload_n (M := mX7_readSum) 0 dX7_readSum_42 43 rfl rfl rfl ?_
              refine pv_dup (M := mX7_readSum) dX7_readSum_43 44 rfl rfl ?_
              refine iv_get (M := mX7_readSum) (l1 := 0) (l2 := 160) dX7_readSum_44 FX7 3 wd283 (by decide) (tl86 hT) rfl I15 rfl 47 rfl (fun v93 ev93 pv93 qv93 => ?_)
              have wv93 : v93.toInt = (m13 86 3).toInt := congrArg Int32.toInt ev93
              refine pv_iconst (M := mX7_readSum) (v := 1) dX7_readSum_47 48 rfl (by decide) ?_
              refine iv_iadd (M := mX7_readSum) (X := v93.toInt) (Y := 1) dX7_readSum_48 49 rfl rfl (by decide) (by omega) (by omega) (fun v94 ev94 => ?_)
              refine iv_put (M := mX7_readSum) (l1 := 0) (l2 := 160) dX7_readSum_49 FX7 3 wd283 (by decide) rfl (tl86 hT) rfl rfl rfl I15 rfl (by omega) (by omega) 52 rfl (fun m95 e98 I96 => ?_)
              have K97 := K16.set e98 (by decide)
              have w99 : (m95 86 3).toInt = v94.toInt := by rw [e98, up2_eq]
              have w100 : (m95 86 2).toInt = (m13 86 2).toInt := by rw [e98, up2_ne (by omega)]
              have w101 : (m95 86 4).toInt = (m13 86 4).toInt := by rw [e98, up2_ne (by omega)]
              have w102 : (m95 lb 7).toInt = (m13 lb 7).toInt := by rw [e98, up2_ne (by omega)]
              have kt52 : tC m95 = tC m := tC_eq (K97 86 2 rfl) (fun j => K97 87 j rfl)
              have kp52 : (m95 86 3).toInt = (m13 86 3).toInt + 1 := by omega
              refine pv_aload_n (M := mX7_readSum) 0 dX7_readSum_52 53 rfl rfl rfl ?_
              refine pv_iload_n (M := mX7_readSum) 1 dX7_readSum_53 54 rfl rfl rfl ?_
              have z105 : (5 : Int32).toInt = 5 := by decide
              refine pv_callv (M := mX7_readSum) (as := [.int 5]) (st := []) (kc2 := 0) (ks2 := 0) dX7_readSum_54 wd543 YX7_readTerm ⟨wd545, wd5⟩ (mk_get (tl86 hT)) rfl rfl (s_X7_readTerm_v5x g hT I96 R (by first | omega | assumption | exact (iv_rng _).2 | exact (iv_rng _).1 | decide) (TBC_eq hp1 kt52)) rfl rfl (Nat.le_of_ble_eq_true rfl) (by decide) rfl rfl 57 rfl (fun rv h1 q106 => ?_)
              obtain ⟨m107, n108, v111, rfl, rfl, I109, K110, pv111, qv111, rv111⟩ := q106
              replace rv111 : (m95 86 3).toInt ≤ (m107 86 3).toInt ∧ (m107 86 3).toInt ≤ (m107 86 2).toInt ∧ (m107 86 2).toInt = (m95 86 2).toInt ∧ ((v111.toInt = 0 ∨ (m95 86 3).toInt + 1 ≤ (m107 86 3).toInt) ∧ TRX (SU (tC m95) 1 (m95 86 3).toInt) (LSu (tC m95) 1) (fun a => isT (tC m95 a) = false) v111.toInt (m107 86 3).toInt (m107 86 4).toInt) ∧ (m107 lb 7).toInt = (m95 lb 7).toInt := by have q_ := rv111; (try rw [z105] at q_); exact q_
              have K110c := K110
              have K110 := K97.trans (K110.sub (fun _ _ q => q))
              show PV _ _ _ _ _ _ _ 57 [.ref 86, .int 5, .int y12, .int v92] [.int v111] _
              have k57 := rv111.2.2.2.1.2
              have k57p := rv111.2.2.2.1.1
              rw [kt52, kp52] at k57
              refine pv_if_ne (M := mX7_readSum) (tgt := 62) dX7_readSum_57 60 rfl (by decide) (fun c115 => ?_) (fun c115 => ?_)
              · have c115 := iv_ne (X := v111.toInt) (Y := 0) c115 rfl (by decide)
                have kT6 := TRX_ok k57 (by omega)
                refine pv_aload_n (M := mX7_readSum) 0 dX7_readSum_62 63 rfl rfl rfl ?_
                refine mv_get (M := mX7_readSum) (v := .ref lb) dX7_readSum_63 FX7 1 wd281 (by decide) (tl86 hT) rfl R.2.2.2.1 66 rfl ?_
                refine pv_iload_n (M := mX7_readSum) 3 dX7_readSum_66 67 rfl rfl rfl ?_
                refine pv_iconst (M := mX7_readSum) (v := 0) dX7_readSum_67 68 rfl (by decide) ?_
                have z117 : (0 : Int32).toInt = 0 := by decide
                refine pv_callv (M := mX7_readSum) (as := [.int v92, .int 0]) (st := []) (kc2 := 0) (ks2 := 0) dX7_readSum_68 wd567 YX6_emit ⟨wd568, wd569⟩ (mk_get R.2.2.2.2.2.2.1) rfl rfl (s_X6_emit_vx g hT I109 lb R.2.2.2.2.2 v92 0 (by decide) (by decide)) rfl rfl (Nat.le_of_ble_eq_true rfl) (by decide) rfl rfl 71 rfl (fun rv h1 q118 => ?_)
                obtain ⟨m119, n120, rfl, rfl, I121, K122, rm119⟩ := q118
                replace rm119 : (m119 lb 7).toInt = (m107 lb 7).toInt := rm119
                have K122c := K122
                have w123 : (m119 86 3).toInt = (m107 86 3).toInt := congrArg Int32.toInt (K122 86 3 (wr_out (by omega)))
                have w124 : (m119 86 2).toInt = (m107 86 2).toInt := congrArg Int32.toInt (K122 86 2 (wr_out (by omega)))
                have w125 : (m119 86 4).toInt = (m107 86 4).toInt := congrArg Int32.toInt (K122 86 4 (wr_out (by omega)))
                have K122 := K110.trans (K122.sub (by first | exact wR7_r (by omega) | exact wR7_wr))
                show PV _ _ _ _ _ _ _ 71 [.ref 86, .int 5, .int y12, .int v92] [] _
                refine iv_inc (M := mX7_readSum) (C := 1) dX7_readSum_71 74 rfl rfl (by decide) rfl rfl (by decide) (by omega) (by omega) (fun v126 ev126 => ?_)
                show PV _ _ _ _ _ _ _ 74 [.ref 86, .int 5, .int v126, .int v92] [] _
                refine pv_goto (M := mX7_readSum) (tgt := 12) dX7_readSum_74 (by decide) ?_
                refine pv_fg (lo2 := [.ref 86, .int 5, .int v126, pv_U]) ⟨Or.inr rfl, ⟨Or.inr rfl, ⟨Or.inr rfl, ⟨Or.inl rfl, trivial⟩⟩⟩⟩ ?_
                have kb3 : (m119 86 3).toInt = (m107 86 3).toInt := by omega
                have kbs : SU (tC m) 1 (m 86 3).toInt = LSu (tC m) 1 (m119 86 3).toInt := by rw [kgs, LSu_su kTX (by omega) kS, kT6.1]; congr 1; omega
                have kbt : isT (tC m (m119 86 3).toInt) = false := by rw [kb3]; exact kT6.2
                exact ih19 v126 m119 n120 (by first | omega | assumption | exact (iv_rng _).2 | exact (iv_rng _).1 | decide) (by first | omega | assumption | exact (iv_rng _).2 | exact (iv_rng _).1 | decide) (by first | omega | assumption | (show (m119 86 3).toInt ≤ (m119 86 2).toInt; omega) | decide) (by first | omega | assumption | (show (m119 86 2).toInt = (m 86 2).toInt; omega) | decide) (by first | omega | assumption | (show (m119 lb 7).toInt = (m lb 7).toInt; omega) | decide) (by first | omega | assumption | (show (m 86 3).toInt + 1 + 2 * v126.toInt ≤ (m119 86 3).toInt; omega) | decide) kbs kbt I121 K122 (by omega)
              · have c115 := iv_eq (X := v111.toInt) (Y := 0) c115 rfl (by decide)
                refine pv_iconst (M := mX7_readSum) (v := 0) dX7_readSum_60 61 rfl (by decide) ?_
                have z130 : (0 : Int32).toInt = 0 := by decide
                exact pv_iret (M := mX7_readSum) dX7_readSum_61 rfl rfl ⟨_, _, _, rfl, rfl, I109, K110, by decide, by decide, ⟨by omega, by omega, by omega, Or.inr ⟨by decide, by rw [kgs, LSu_su kTX (by omega) kS]; exact TRX_fl k57 (by omega)⟩, by omega⟩⟩
    have z131 : (0 : Int32).toInt = 0 := by decide
    exact lp18 (((160 - 0) : Int).toNat + 1) 0 m4 n5 (by first | omega | assumption | exact (iv_rng _).2 | exact (iv_rng _).1 | decide) (by first | omega | assumption | exact (iv_rng _).2 | exact (iv_rng _).1 | decide) (by first | omega | assumption | (show (m4 86 3).toInt ≤ (m4 86 2).toInt; omega) | decide) (by first | omega | assumption | (show (m4 86 2).toInt = (m 86 2).toInt; omega) | decide) (by first | omega | assumption | (show (m4 lb 7).toInt = (m lb 7).toInt; omega) | decide) (by first | omega | assumption | (show (m 86 3).toInt + 1 + 2 * 0 ≤ (m4 86 3).toInt; omega) | decide) (TRX_ok k5 (by omega)).1 (TRX_ok k5 (by omega)).2 I6 K7 (by omega)
  · have c11 := iv_eq (X := v8.toInt) (Y := 0) c11 rfl (by decide)
    refine pv_iconst (M := mX7_readSum) (v := 0) dX7_readSum_8 9 rfl (by decide) ?_
    have z132 : (0 : Int32).toInt = 0 := by decide
    exact pv_iret (M := mX7_readSum) dX7_readSum_9 rfl rfl ⟨_, _, _, rfl, rfl, I6, K7, by decide, by decide, ⟨by omega, by omega, by omega, Or.inr ⟨by decide, TRX_fl k5 (by omega)⟩, by omega⟩⟩

set_option maxHeartbeats 2000000 in
set_option maxRecDepth 20000 in
theorem s_X7_readFactor_v4x (g : pv_G) {T : List mv_T} {m : Nat → Nat → Int32} {n : Nat → Nat → Int64} {r : Nat → Value} {la lb : Nat} (hT : TX T) (I : IV BB m) (R : RX T r la lb) (hp0 : (m 86 3).toInt ≤ (m 86 2).toInt) (hp1 : TBC m) : PM g mX7_readFactor yX7_readFactor (sqI T BB wR7 r m 0 1 (fun m' v => (m 86 3).toInt ≤ (m' 86 3).toInt ∧ (m' 86 3).toInt ≤ (m' 86 2).toInt ∧ (m' 86 2).toInt = (m 86 2).toInt ∧ (RSX (FA (tC m) 2 (m 86 3).toInt) v.toInt (m' 86 3).toInt (m' 86 4).toInt) ∧ (m' lb 7).toInt = (m lb 7).toInt)) 11 0 0 [.ref 86, .int 4] (mk T m n r) := by
  have Kp : fr wR7 m m := fr.rf
  have R0 := R
  have zR := R.2.2.2.2.1.1
  have zR2 := R.2.2.2.2.2.1
  have z108 : 0 ≤ (m 86 3).toInt ∧ (m 86 3).toInt ≤ 160 := I 86 3
  have z109 : 0 ≤ (m 86 2).toInt ∧ (m 86 2).toInt ≤ 160 := I 86 2
  refine PM.of 1 (lo := [.ref 86, .int 4, pv_U]) rfl (by decide) rfl rfl (Nat.le_of_ble_eq_true rfl) ?_
  refine pv_aload_n (M := mX7_readFactor) 0 dX7_readFactor_0 1 rfl rfl rfl ?_
  refine pv_callv (M := mX7_readFactor) (as := []) (st := []) (kc2 := 0) (ks2 := 0) dX7_readFactor_1 wd527 YX7_peek ⟨wd529, wd2⟩ (mk_get (tl86 hT)) rfl rfl (s_X7_peek_vx g hT I R) rfl rfl (Nat.le_of_ble_eq_true rfl) (by decide) rfl rfl 4 rfl (fun rv h1 q1 => ?_)
  obtain ⟨v2, rfl, rfl, pv2, qv2, rv2⟩ := q1
  replace rv2 : v2.toInt = tC m (m 86 3).toInt ∧ (v2.toInt = -1 ∨ (m 86 3).toInt < (m 86 2).toInt) := rv2
  show PV _ _ _ _ _ _ _ 4 [.ref 86, .int 4, pv_U] [.int v2] _
  have k4 := rv2.1
  have k4b := rv2.2
  refine pv_bipush (M := mX7_readFactor) (v := 91) dX7_readFactor_4 6 rfl (by decide) ?_
  refine pv_icmp_ne (M := mX7_readFactor) (tgt := 42) dX7_readFactor_6 9 rfl (by decide) (fun c5 => ?_) (fun c5 => ?_)
  · have c5 := iv_ne (X := v2.toInt) (Y := 91) c5 rfl (by decide)
    have kn91 : tC m (m 86 3).toInt ≠ 91 := by omega
    refine pv_aload_n (M := mX7_readFactor) 0 dX7_readFactor_42 43 rfl rfl rfl ?_
    refine pv_callv (M := mX7_readFactor) (as := []) (st := []) (kc2 := 0) (ks2 := 0) dX7_readFactor_43 wd559 YX7_digitAhead ⟨wd561, wd9⟩ (mk_get (tl86 hT)) rfl rfl (s_X7_digitAhead_vx g hT I R) rfl rfl (Nat.le_of_ble_eq_true rfl) (by decide) rfl rfl 46 rfl (fun rv h1 q7 => ?_)
    obtain ⟨v8, rfl, rfl, pv8, qv8, rv8⟩ := q7
    replace rv8 : (v8 = 0 ∨ ((m 86 3).toInt < (m 86 2).toInt ∧ 48 ≤ (m 87 (m 86 3).toInt.toNat).toInt ∧ (m 87 (m 86 3).toInt.toNat).toInt ≤ 57)) ∧ ((v8.toInt = 1 ∧ dig (tC m (m 86 3).toInt) = true) ∨ (v8.toInt = 0 ∧ dig (tC m (m 86 3).toInt) = false)) := rv8
    show PV _ _ _ _ _ _ _ 46 [.ref 86, .int 4, pv_U] [.int v8] _
    have k46 := rv8.2
    refine pv_if_eq (M := mX7_readFactor) (tgt := 54) dX7_readFactor_46 49 rfl (by decide) (fun c10 => ?_) (fun c10 => ?_)
    · have c10 := iv_eq (X := v8.toInt) (Y := 0) c10 rfl (by decide)
      have kdn := (k46.resolve_left (fun q => by have q1 := q.1; omega)).2
      refine pv_aload_n (M := mX7_readFactor) 0 dX7_readFactor_54 55 rfl rfl rfl ?_
      refine pv_callv (M := mX7_readFactor) (as := []) (st := []) (kc2 := 0) (ks2 := 0) dX7_readFactor_55 wd527 YX7_peek ⟨wd529, wd2⟩ (mk_get (tl86 hT)) rfl rfl (s_X7_peek_vx g hT I R) rfl rfl (Nat.le_of_ble_eq_true rfl) (by decide) rfl rfl 58 rfl (fun rv h1 q12 => ?_)
      obtain ⟨v13, rfl, rfl, pv13, qv13, rv13⟩ := q12
      replace rv13 : v13.toInt = tC m (m 86 3).toInt ∧ (v13.toInt = -1 ∨ (m 86 3).toInt < (m 86 2).toInt) := rv13
      show PV _ _ _ _ _ _ _ 58 [.ref 86, .int 4, pv_U] [.int v13] _
      have k58 := rv13.1
      refine pv_iconst (M := mX7_readFactor) (v := (-1)) dX7_readFactor_58 59 rfl (by decide) ?_
      refine pv_icmp_ne (M := mX7_readFactor) (tgt := 66) dX7_readFactor_59 62 rfl (by decide) (fun c15 => ?_) (fun c15 => ?_)
      · have c15 := iv_ne (X := v13.toInt) (Y := (-1)) c15 rfl (by decide)
        refine pv_ldcS (M := mX7_readFactor) dX7_readFactor_66 rfl 68 rfl ?_
        refine pv_aload_n (M := mX7_readFactor) 0 dX7_readFactor_68 69 rfl rfl rfl ?_
        refine pv_callv (M := mX7_readFactor) (as := []) (st := [.retAddr (g.2.2.1 6 + 1)]) (kc2 := 0) (ks2 := 0) dX7_readFactor_69 wd527 YX7_peek ⟨wd529, wd2⟩ (mk_get (tl86 hT)) rfl rfl (s_X7_peek_vx g hT I R) rfl rfl (Nat.le_of_ble_eq_true rfl) (by decide) rfl rfl 72 rfl (fun rv h1 q16 => ?_)
        obtain ⟨v17, rfl, rfl, pv17, qv17, rv17⟩ := q16
        replace rv17 : v17.toInt = tC m (m 86 3).toInt ∧ (v17.toInt = -1 ∨ (m 86 3).toInt < (m 86 2).toInt) := rv17
        show PV _ _ _ _ _ _ _ 72 [.ref 86, .int 4, pv_U] [.int v17, .retAddr (g.2.2.1 6 + 1)] _
        have k72 := rv17.1
        have kb72 := hp1 (m 86 3).toInt
        refine iv_i2cU (M := mX7_readFactor) dX7_readFactor_72 73 rfl (fun v20 ev20 => ?_)
        have k73 := i2c_eq ev20 (by omega) (by omega)
        refine pv_callvS (M := mX7_readFactor) (as := [.int v20]) (st := []) (kc2 := 0) (ks2 := 0) dX7_readFactor_73 wd572 YJ0_indexOf_0f7a4 ⟨wd573, wd574⟩ rfl (s_J0_indexOf_0f7a4_vx g hT I v20 (by omega) (by omega)) rfl rfl (Nat.le_of_ble_eq_true rfl) (by decide) rfl rfl 76 rfl (fun rv h1 q22 => ?_)
        obtain ⟨v23, rfl, rfl, pv23, qv23, rv23⟩ := q22
        replace rv23 : v23.toInt = nix v20.toInt := rv23
        show PV _ _ _ _ _ _ _ 76 [.ref 86, .int 4, pv_U] [.int v23] _
        have k76 : v23.toInt = nix (tC m (m 86 3).toInt) := by first | (rw [show tC m (m 86 3).toInt = -1 by omega]; decide) | (rw [rv23, k73, k72])
        refine pv_istore_n (M := mX7_readFactor) 2 (lo2 := [.ref 86, .int 4, .int v23]) dX7_readFactor_76 77 rfl rfl (by decide) rfl rfl ?_
        refine pv_iload_n (M := mX7_readFactor) 2 dX7_readFactor_77 78 rfl rfl rfl ?_
        refine pv_if_ge (M := mX7_readFactor) (tgt := 87) dX7_readFactor_78 81 rfl (by decide) (fun c25 => ?_) (fun c25 => ?_)
        · have c25 := iv_le (X := 0) (Y := v23.toInt) c25 (by decide) rfl
          refine pv_aload_n (M := mX7_readFactor) 0 dX7_readFactor_87 88 rfl rfl rfl ?_
          refine mv_get (M := mX7_readFactor) (v := .ref lb) dX7_readFactor_88 FX7 1 wd281 (by decide) (tl86 hT) rfl R.2.2.2.1 91 rfl ?_
          refine pv_bipush (M := mX7_readFactor) (v := 36) dX7_readFactor_91 93 rfl (by decide) ?_
          refine pv_iload_n (M := mX7_readFactor) 2 dX7_readFactor_93 94 rfl rfl rfl ?_
          have z26 : (36 : Int32).toInt = 36 := by decide
          refine pv_callv (M := mX7_readFactor) (as := [.int 36, .int v23]) (st := []) (kc2 := 0) (ks2 := 0) dX7_readFactor_94 wd567 YX6_emit ⟨wd568, wd569⟩ (mk_get R.2.2.2.2.2.2.1) rfl rfl (s_X6_emit_vx g hT I lb R.2.2.2.2.2 36 v23 (by omega) (by omega)) rfl rfl (Nat.le_of_ble_eq_true rfl) (by decide) rfl rfl 97 rfl (fun rv h1 q27 => ?_)
          obtain ⟨m28, n29, rfl, rfl, I30, K31, rm28⟩ := q27
          replace rm28 : (m28 lb 7).toInt = (m lb 7).toInt := rm28
          have K31c := K31
          have w32 : (m28 86 3).toInt = (m 86 3).toInt := congrArg Int32.toInt (K31 86 3 (wr_out (by omega)))
          have w33 : (m28 86 2).toInt = (m 86 2).toInt := congrArg Int32.toInt (K31 86 2 (wr_out (by omega)))
          have w34 : (m28 86 4).toInt = (m 86 4).toInt := congrArg Int32.toInt (K31 86 4 (wr_out (by omega)))
          have K31 := Kp.trans (K31.sub (by first | exact wR7_r (by omega) | exact wR7_wr))
          show PV _ _ _ _ _ _ _ 97 [.ref 86, .int 4, .int v23] [] _
          refine pv_aload_n (M := mX7_readFactor) 0 dX7_readFactor_97 98 rfl rfl rfl ?_
          refine pv_dup (M := mX7_readFactor) dX7_readFactor_98 99 rfl rfl ?_
          refine iv_get (M := mX7_readFactor) (l1 := 0) (l2 := 160) dX7_readFactor_99 FX7 3 wd283 (by decide) (tl86 hT) rfl I30 rfl 102 rfl (fun v35 ev35 pv35 qv35 => ?_)
          have wv35 : v35.toInt = (m28 86 3).toInt := congrArg Int32.toInt ev35
          refine pv_iconst (M := mX7_readFactor) (v := 1) dX7_readFactor_102 103 rfl (by decide) ?_
          refine iv_iadd (M := mX7_readFactor) (X := v35.toInt) (Y := 1) dX7_readFactor_103 104 rfl rfl (by decide) (by omega) (by omega) (fun v36 ev36 => ?_)
          refine iv_put (M := mX7_readFactor) (l1 := 0) (l2 := 160) dX7_readFactor_104 FX7 3 wd283 (by decide) rfl (tl86 hT) rfl rfl rfl I30 rfl (by omega) (by omega) 107 rfl (fun m37 e40 I38 => ?_)
          have K39 := K31.set e40 (by decide)
          have w41 : (m37 86 3).toInt = v36.toInt := by rw [e40, up2_eq]
          have w42 : (m37 86 2).toInt = (m28 86 2).toInt := by rw [e40, up2_ne (by omega)]
          have w43 : (m37 86 4).toInt = (m28 86 4).toInt := by rw [e40, up2_ne (by omega)]
          have w44 : (m37 lb 7).toInt = (m28 lb 7).toInt := by rw [e40, up2_ne (by omega)]
          refine pv_iconst (M := mX7_readFactor) (v := 1) dX7_readFactor_107 108 rfl (by decide) ?_
          have z45 : (1 : Int32).toInt = 1 := by decide
          exact pv_iret (M := mX7_readFactor) dX7_readFactor_108 rfl rfl ⟨_, _, _, rfl, rfl, I38, K39, by decide, by decide, ⟨by omega, by omega, by omega, Or.inl ⟨by decide, by rw [FA_atom kn91, AT_nam kdn (nix_y (by omega)), show (m 86 3).toInt + 1 = (m37 86 3).toInt by omega]⟩, by omega⟩⟩
        · have c25 := iv_nle (X := 0) (Y := v23.toInt) c25 (by decide) rfl
          refine pv_aload_n (M := mX7_readFactor) 0 dX7_readFactor_81 82 rfl rfl rfl ?_
          refine pv_iconst (M := mX7_readFactor) (v := 1) dX7_readFactor_82 83 rfl (by decide) ?_
          have z46 : (1 : Int32).toInt = 1 := by decide
          refine pv_callv (M := mX7_readFactor) (as := [.int 1]) (st := []) (kc2 := 0) (ks2 := 0) dX7_readFactor_83 wd531 YX7_fail ⟨wd533, wd3⟩ (mk_get (tl86 hT)) rfl rfl (s_X7_fail_vx g hT I R 1 (by decide) (by decide) (by first | omega | assumption | exact (iv_rng _).2 | exact (iv_rng _).1 | decide)) rfl rfl (Nat.le_of_ble_eq_true rfl) (by decide) rfl rfl 86 rfl (fun rv h1 q47 => ?_)
          obtain ⟨m48, n49, v52, rfl, rfl, I50, K51, pv52, qv52, rv52⟩ := q47
          replace rv52 : (m 86 3).toInt ≤ (m48 86 3).toInt ∧ (m48 86 3).toInt ≤ (m48 86 2).toInt ∧ (m48 86 2).toInt = (m 86 2).toInt ∧ (v52.toInt = 0 ∧ (m48 86 3).toInt = (m 86 3).toInt ∧ (m48 86 4).toInt = -1000 * (1 : Int) - (m 86 3).toInt) ∧ (m48 lb 7).toInt = (m lb 7).toInt := by have q_ := rv52; (try rw [z46] at q_); exact q_
          have K51c := K51
          have K51 := Kp.trans (K51.sub (fun _ _ q => q))
          show PV _ _ _ _ _ _ _ 86 [.ref 86, .int 4, .int v23] [.int v52] _
          exact pv_iret (M := mX7_readFactor) dX7_readFactor_86 rfl (iv_nz (by omega) (by omega)) ⟨_, _, _, rfl, rfl, I50, K51, by omega, by omega, ⟨by omega, by omega, by omega, Or.inr ⟨by omega, FLT_of (a := 1) (p := (m 86 3).toInt) (by rw [FA_atom kn91]; exact AT_no kdn (nix_no (by omega))) (by decide) (by omega)⟩, by omega⟩⟩
      · have c15 := iv_eq (X := v13.toInt) (Y := (-1)) c15 rfl (by decide)
        refine pv_iconst (M := mX7_readFactor) (v := (-1)) dX7_readFactor_62 63 rfl (by decide) ?_
        refine pv_goto (M := mX7_readFactor) (tgt := 76) dX7_readFactor_63 (by decide) ?_
        have k76 : (-1) = nix (tC m (m 86 3).toInt) := by first | (rw [show tC m (m 86 3).toInt = -1 by omega]; decide) | (rw [rlit, k73, k72])
        refine pv_istore_n (M := mX7_readFactor) 2 (lo2 := [.ref 86, .int 4, .int (-1)]) dX7_readFactor_76 77 rfl rfl (by decide) rfl rfl ?_
        refine pv_iload_n (M := mX7_readFactor) 2 dX7_readFactor_77 78 rfl rfl rfl ?_
        refine pv_if_ge (M := mX7_readFactor) (tgt := 87) dX7_readFactor_78 81 rfl (by decide) (fun q => absurd q (by decide)) (fun _ => ?_)
        refine pv_aload_n (M := mX7_readFactor) 0 dX7_readFactor_81 82 rfl rfl rfl ?_
        refine pv_iconst (M := mX7_readFactor) (v := 1) dX7_readFactor_82 83 rfl (by decide) ?_
        have z55 : (1 : Int32).toInt = 1 := by decide
        refine pv_callv (M := mX7_readFactor) (as := [.int 1]) (st := []) (kc2 := 0) (ks2 := 0) dX7_readFactor_83 wd531 YX7_fail ⟨wd533, wd3⟩ (mk_get (tl86 hT)) rfl rfl (s_X7_fail_vx g hT I R 1 (by decide) (by decide) (by first | omega | assumption | exact (iv_rng _).2 | exact (iv_rng _).1 | decide)) rfl rfl (Nat.le_of_ble_eq_true rfl) (by decide) rfl rfl 86 rfl (fun rv h1 q56 => ?_)
        obtain ⟨m57, n58, v61, rfl, rfl, I59, K60, pv61, qv61, rv61⟩ := q56
        replace rv61 : (m 86 3).toInt ≤ (m57 86 3).toInt ∧ (m57 86 3).toInt ≤ (m57 86 2).toInt ∧ (m57 86 2).toInt = (m 86 2).toInt ∧ (v61.toInt = 0 ∧ (m57 86 3).toInt = (m 86 3).toInt ∧ (m57 86 4).toInt = -1000 * (1 : Int) - (m 86 3).toInt) ∧ (m57 lb 7).toInt = (m lb 7).toInt := by have q_ := rv61; (try rw [z55] at q_); exact q_
        have K60c := K60
        have K60 := Kp.trans (K60.sub (fun _ _ q => q))
        show PV _ _ _ _ _ _ _ 86 [.ref 86, .int 4, .int (-1)] [.int v61] _
        exact pv_iret (M := mX7_readFactor) dX7_readFactor_86 rfl (iv_nz (by omega) (by omega)) ⟨_, _, _, rfl, rfl, I59, K60, by omega, by omega, ⟨by omega, by omega, by omega, Or.inr ⟨by omega, FLT_of (a := 1) (p := (m 86 3).toInt) (by rw [FA_atom kn91]; exact AT_no kdn (nix_no (by omega))) (by decide) (by omega)⟩, by omega⟩⟩
    · have pc10 := rv8.1.resolve_left c10
      have c10 := iv_ne (X := v8.toInt) (Y := 0) c10 rfl (by decide)
      have kd := (k46.resolve_right (fun q => by have q1 := q.1; omega)).2
      refine pv_aload_n (M := mX7_readFactor) 0 dX7_readFactor_49 50 rfl rfl rfl ?_
      refine pv_callv (M := mX7_readFactor) (as := []) (st := []) (kc2 := 0) (ks2 := 0) dX7_readFactor_50 wd563 YX7_readNumber ⟨wd565, wd10⟩ (mk_get (tl86 hT)) rfl rfl (s_X7_readNumber_vx g hT I R (by first | omega | assumption | exact (iv_rng _).2 | exact (iv_rng _).1 | decide)) rfl rfl (Nat.le_of_ble_eq_true rfl) (by decide) rfl rfl 53 rfl (fun rv h1 q63 => ?_)
      obtain ⟨m64, n65, v68, rfl, rfl, I66, K67, pv68, qv68, rv68⟩ := q63
      replace rv68 : (m 86 3).toInt ≤ (m64 86 3).toInt ∧ (m64 86 3).toInt ≤ (m64 86 2).toInt ∧ (m64 86 2).toInt = (m 86 2).toInt ∧ (RSX (nd (tC m) 5 (m 86 3).toInt) v68.toInt (m64 86 3).toInt (m64 86 4).toInt) ∧ (m64 lb 7).toInt = (m lb 7).toInt := rv68
      have K67c := K67
      have K67 := Kp.trans (K67.sub (fun _ _ q => q))
      show PV _ _ _ _ _ _ _ 53 [.ref 86, .int 4, pv_U] [.int v68] _
      have k53 := rv68.2.2.2.1
      exact pv_iret (M := mX7_readFactor) dX7_readFactor_53 rfl (iv_nz (by omega) (by omega)) ⟨_, _, _, rfl, rfl, I66, K67, by omega, by omega, ⟨by omega, by omega, by omega, (by rw [FA_atom kn91, AT_num kd]; exact k53), by omega⟩⟩
  · have c5 := iv_eq (X := v2.toInt) (Y := 91) c5 rfl (by decide)
    have k91 : tC m (m 86 3).toInt = 91 := by omega
    refine pv_aload_n (M := mX7_readFactor) 0 dX7_readFactor_9 10 rfl rfl rfl ?_
    refine pv_iload_n (M := mX7_readFactor) 1 dX7_readFactor_10 11 rfl rfl rfl ?_
    have z71 : (4 : Int32).toInt = 4 := by decide
    refine pv_callv (M := mX7_readFactor) (as := [.int 4]) (st := []) (kc2 := 0) (ks2 := 0) dX7_readFactor_11 wd551 YX7_open ⟨wd553, wd7⟩ (mk_get (tl86 hT)) rfl rfl (s_X7_open_vx g hT I R 4 (by decide) (by decide) (by first | omega | assumption | exact (iv_rng _).2 | exact (iv_rng _).1 | decide)) rfl rfl (Nat.le_of_ble_eq_true rfl) (by decide) rfl rfl 14 rfl (fun rv h1 q72 => ?_)
    obtain ⟨m73, n74, v77, rfl, rfl, I75, K76, pv77, qv77, rv77⟩ := q72
    replace rv77 : (v77 = 0 ∨ (4 : Int) ≤ 5) ∧ (m 86 3).toInt ≤ (m73 86 3).toInt ∧ (m73 86 3).toInt ≤ (m73 86 2).toInt ∧ (m73 86 2).toInt = (m 86 2).toInt ∧ ((v77.toInt = 1 ∧ (4 : Int) ≤ 5 ∧ (m73 86 3).toInt = (m 86 3).toInt + 1) ∨ (v77.toInt = 0 ∧ 6 ≤ (4 : Int) ∧ (m73 86 4).toInt = -5000 - (m 86 3).toInt ∧ (m73 86 3).toInt = (m 86 3).toInt)) ∧ (m73 lb 7).toInt = (m lb 7).toInt := by have q_ := rv77; (try rw [z71] at q_); exact q_
    have K76c := K76
    have K76 := Kp.trans (K76.sub (fun _ _ q => q))
    show PV _ _ _ _ _ _ _ 14 [.ref 86, .int 4, pv_U] [.int v77] _
    refine pv_if_eq (M := mX7_readFactor) (tgt := 40) dX7_readFactor_14 17 rfl (by decide) (fun c78 => ?_) (fun c78 => ?_)
    · have c78 := iv_eq (X := v77.toInt) (Y := 0) c78 rfl (by decide)
      refine pv_iconst (M := mX7_readFactor) (v := 0) dX7_readFactor_40 41 rfl (by decide) ?_
      have z79 : (0 : Int32).toInt = 0 := by decide
      exact pv_iret (M := mX7_readFactor) dX7_readFactor_41 rfl rfl ⟨_, _, _, rfl, rfl, I75, K76, by decide, by decide, ⟨by omega, by omega, by omega, (by first | exact Or.inr ⟨by decide, FX_deep k91 (by omega)⟩ | exact Or.inr ⟨by decide, FX_cn k91 k27 (fun z => by omega) (by omega)⟩ | exact Or.inl ⟨by decide, FX_co k91 k27 (by omega) (by omega)⟩ | exact Or.inr ⟨by decide, FX_sum k91 (RSX_fl k24 (by omega))⟩ | (exfalso; omega)), by omega⟩⟩
    · have pc78 := rv77.1.resolve_left c78
      have c78 := iv_ne (X := v77.toInt) (Y := 0) c78 rfl (by decide)
      have kt17 : tC m73 = tC m := tC_eq (K76 86 2 rfl) (fun j => K76 87 j rfl)
      have kp17 : (m73 86 3).toInt = (m 86 3).toInt + 1 := by omega
      refine pv_aload_n (M := mX7_readFactor) 0 dX7_readFactor_17 18 rfl rfl rfl ?_
      refine pv_iload_n (M := mX7_readFactor) 1 dX7_readFactor_18 19 rfl rfl rfl ?_
      refine pv_iconst (M := mX7_readFactor) (v := 1) dX7_readFactor_19 20 rfl (by decide) ?_
      refine pv_iadd (M := mX7_readFactor) (v := 5) dX7_readFactor_20 21 rfl (by decide) ?_
      have z83 : (5 : Int32).toInt = 5 := by decide
      refine pv_callv (M := mX7_readFactor) (as := [.int 5]) (st := []) (kc2 := 0) (ks2 := 0) dX7_readFactor_21 wd539 YX7_readSum ⟨wd541, wd4⟩ (mk_get (tl86 hT)) rfl rfl (s_X7_readSum_v5x g hT I75 R (by first | omega | assumption | exact (iv_rng _).2 | exact (iv_rng _).1 | decide) (TBC_eq hp1 kt17)) rfl rfl (Nat.le_of_ble_eq_true rfl) (by decide) rfl rfl 24 rfl (fun rv h1 q84 => ?_)
      obtain ⟨m85, n86, v89, rfl, rfl, I87, K88, pv89, qv89, rv89⟩ := q84
      replace rv89 : (m73 86 3).toInt ≤ (m85 86 3).toInt ∧ (m85 86 3).toInt ≤ (m85 86 2).toInt ∧ (m85 86 2).toInt = (m73 86 2).toInt ∧ (RSX (SU (tC m73) 1 (m73 86 3).toInt) v89.toInt (m85 86 3).toInt (m85 86 4).toInt) ∧ (m85 lb 7).toInt = (m73 lb 7).toInt := by have q_ := rv89; (try rw [z83] at q_); exact q_
      have K88c := K88
      have K88 := K76.trans (K88.sub (fun _ _ q => q))
      show PV _ _ _ _ _ _ _ 24 [.ref 86, .int 4, pv_U] [.int v89] _
      have k24 := rv89.2.2.2.1
      rw [kt17, kp17] at k24
      refine pv_if_eq (M := mX7_readFactor) (tgt := 40) dX7_readFactor_24 27 rfl (by decide) (fun c92 => ?_) (fun c92 => ?_)
      · have c92 := iv_eq (X := v89.toInt) (Y := 0) c92 rfl (by decide)
        refine pv_iconst (M := mX7_readFactor) (v := 0) dX7_readFactor_40 41 rfl (by decide) ?_
        have z93 : (0 : Int32).toInt = 0 := by decide
        exact pv_iret (M := mX7_readFactor) dX7_readFactor_41 rfl rfl ⟨_, _, _, rfl, rfl, I87, K88, by decide, by decide, ⟨by omega, by omega, by omega, (by first | exact Or.inr ⟨by decide, FX_deep k91 (by omega)⟩ | exact Or.inr ⟨by decide, FX_cn k91 k27 (fun z => by omega) (by omega)⟩ | exact Or.inl ⟨by decide, FX_co k91 k27 (by omega) (by omega)⟩ | exact Or.inr ⟨by decide, FX_sum k91 (RSX_fl k24 (by omega))⟩ | (exfalso; omega)), by omega⟩⟩
      · have c92 := iv_ne (X := v89.toInt) (Y := 0) c92 rfl (by decide)
        have k27 := RSX_ok k24 (by omega)
        have kt27 : tC m85 = tC m := tC_eq (K88 86 2 rfl) (fun j => K88 87 j rfl)
        refine pv_aload_n (M := mX7_readFactor) 0 dX7_readFactor_27 28 rfl rfl rfl ?_
        refine pv_bipush (M := mX7_readFactor) (v := 93) dX7_readFactor_28 30 rfl (by decide) ?_
        have z96 : (93 : Int32).toInt = 93 := by decide
        refine pv_callv (M := mX7_readFactor) (as := [.int 93]) (st := []) (kc2 := 0) (ks2 := 0) dX7_readFactor_30 wd555 YX7_pass ⟨wd557, wd8⟩ (mk_get (tl86 hT)) rfl rfl (s_X7_pass_vx g hT I87 R 93 (by decide) (by decide) (by first | omega | assumption | exact (iv_rng _).2 | exact (iv_rng _).1 | decide)) rfl rfl (Nat.le_of_ble_eq_true rfl) (by decide) rfl rfl 33 rfl (fun rv h1 q97 => ?_)
        obtain ⟨m98, n99, v102, rfl, rfl, I100, K101, pv102, qv102, rv102⟩ := q97
        replace rv102 : (m85 86 3).toInt ≤ (m98 86 3).toInt ∧ (m98 86 3).toInt ≤ (m98 86 2).toInt ∧ (m98 86 2).toInt = (m85 86 2).toInt ∧ ((v102.toInt = 1 ∧ tC m85 (m85 86 3).toInt = (93 : Int) ∧ (m98 86 3).toInt = (m85 86 3).toInt + 1) ∨ (v102.toInt = 0 ∧ tC m85 (m85 86 3).toInt ≠ (93 : Int) ∧ (m98 86 4).toInt = -1000 - (m85 86 3).toInt ∧ (m98 86 3).toInt = (m85 86 3).toInt)) ∧ (m98 lb 7).toInt = (m85 lb 7).toInt := by have q_ := rv102; (try rw [z96] at q_); exact q_
        have K101c := K101
        have K101 := K88.trans (K101.sub (fun _ _ q => q))
        show PV _ _ _ _ _ _ _ 33 [.ref 86, .int 4, pv_U] [.int v102] _
        have k33 := rv102.2.2.2.1
        rw [kt27] at k33
        refine pv_if_eq (M := mX7_readFactor) (tgt := 40) dX7_readFactor_33 36 rfl (by decide) (fun c105 => ?_) (fun c105 => ?_)
        · have c105 := iv_eq (X := v102.toInt) (Y := 0) c105 rfl (by decide)
          refine pv_iconst (M := mX7_readFactor) (v := 0) dX7_readFactor_40 41 rfl (by decide) ?_
          have z106 : (0 : Int32).toInt = 0 := by decide
          exact pv_iret (M := mX7_readFactor) dX7_readFactor_41 rfl rfl ⟨_, _, _, rfl, rfl, I100, K101, by decide, by decide, ⟨by omega, by omega, by omega, (by first | exact Or.inr ⟨by decide, FX_deep k91 (by omega)⟩ | exact Or.inr ⟨by decide, FX_cn k91 k27 (fun z => by omega) (by omega)⟩ | exact Or.inl ⟨by decide, FX_co k91 k27 (by omega) (by omega)⟩ | exact Or.inr ⟨by decide, FX_sum k91 (RSX_fl k24 (by omega))⟩ | (exfalso; omega)), by omega⟩⟩
        · have c105 := iv_ne (X := v102.toInt) (Y := 0) c105 rfl (by decide)
          refine pv_iconst (M := mX7_readFactor) (v := 1) dX7_readFactor_36 37 rfl (by decide) ?_
          refine pv_goto (M := mX7_readFactor) (tgt := 41) dX7_readFactor_37 (by decide) ?_
          have z107 : (1 : Int32).toInt = 1 := by decide
          exact pv_iret (M := mX7_readFactor) dX7_readFactor_41 rfl rfl ⟨_, _, _, rfl, rfl, I100, K101, by decide, by decide, ⟨by omega, by omega, by omega, (by first | exact Or.inr ⟨by decide, FX_deep k91 (by omega)⟩ | exact Or.inr ⟨by decide, FX_cn k91 k27 (fun z => by omega) (by omega)⟩ | exact Or.inl ⟨by decide, FX_co k91 k27 (by omega) (by omega)⟩ | exact Or.inr ⟨by decide, FX_sum k91 (RSX_fl k24 (by omega))⟩ | (exfalso; omega)), by omega⟩⟩

set_option maxHeartbeats 2000000 in
set_option maxRecDepth 20000 in
theorem s_X7_readTerm_v4x (g : pv_G) {T : List mv_T} {m : Nat → Nat → Int32} {n : Nat → Nat → Int64} {r : Nat → Value} {la lb : Nat} (hT : TX T) (I : IV BB m) (R : RX T r la lb) (hp0 : (m 86 3).toInt ≤ (m 86 2).toInt) (hp1 : TBC m) : PM g mX7_readTerm yX7_readTerm (sqI T BB wR7 r m 0 1 (fun m' v => (m 86 3).toInt ≤ (m' 86 3).toInt ∧ (m' 86 3).toInt ≤ (m' 86 2).toInt ∧ (m' 86 2).toInt = (m 86 2).toInt ∧ ((v.toInt = 0 ∨ (m 86 3).toInt + 1 ≤ (m' 86 3).toInt) ∧ TRX (SU (tC m) 2 (m 86 3).toInt) (LSu (tC m) 2) (fun a => isT (tC m a) = false) v.toInt (m' 86 3).toInt (m' 86 4).toInt) ∧ (m' lb 7).toInt = (m lb 7).toInt)) 12 0 0 [.ref 86, .int 4] (mk T m n r) := by
  have Kp : fr wR7 m m := fr.rf
  have R0 := R
  have zR := R.2.2.2.2.1.1
  have zR2 := R.2.2.2.2.2.1
  have z84 : 0 ≤ (m 86 3).toInt ∧ (m 86 3).toInt ≤ 160 := I 86 3
  have z85 : 0 ≤ (m 86 2).toInt ∧ (m 86 2).toInt ≤ 160 := I 86 2
  refine PM.of 2 (lo := [.ref 86, .int 4, pv_U, pv_U]) rfl (by decide) rfl rfl (Nat.le_of_ble_eq_true rfl) ?_
  have kTX := TXT_C I
  refine pv_aload_n (M := mX7_readTerm) 0 dX7_readTerm_0 1 rfl rfl rfl ?_
  refine pv_iload_n (M := mX7_readTerm) 1 dX7_readTerm_1 2 rfl rfl rfl ?_
  have z2 : (4 : Int32).toInt = 4 := by decide
  refine pv_callv (M := mX7_readTerm) (as := [.int 4]) (st := []) (kc2 := 0) (ks2 := 0) dX7_readTerm_2 wd547 YX7_readFactor ⟨wd549, wd6⟩ (mk_get (tl86 hT)) rfl rfl (s_X7_readFactor_v4x g hT I R (by first | omega | assumption | exact (iv_rng _).2 | exact (iv_rng _).1 | decide) hp1) rfl rfl (Nat.le_of_ble_eq_true rfl) (by decide) rfl rfl 5 rfl (fun rv h1 q3 => ?_)
  obtain ⟨m4, n5, v8, rfl, rfl, I6, K7, pv8, qv8, rv8⟩ := q3
  replace rv8 : (m 86 3).toInt ≤ (m4 86 3).toInt ∧ (m4 86 3).toInt ≤ (m4 86 2).toInt ∧ (m4 86 2).toInt = (m 86 2).toInt ∧ (RSX (FA (tC m) 2 (m 86 3).toInt) v8.toInt (m4 86 3).toInt (m4 86 4).toInt) ∧ (m4 lb 7).toInt = (m lb 7).toInt := by have q_ := rv8; (try rw [z2] at q_); exact q_
  have K7c := K7
  have K7 := Kp.trans (K7.sub (fun _ _ q => q))
  show PV _ _ _ _ _ _ _ 5 [.ref 86, .int 4, pv_U, pv_U] [.int v8] _
  have k5 := rv8.2.2.2.1
  refine pv_if_ne (M := mX7_readTerm) (tgt := 10) dX7_readTerm_5 8 rfl (by decide) (fun c10 => ?_) (fun c10 => ?_)
  · have c10 := iv_ne (X := v8.toInt) (Y := 0) c10 rfl (by decide)
    have kF0 := RSX_ok k5 (by omega)
    have kF1 := FA_le 2 (m 86 3).toInt (by rw [kF0])
    rw [kF0] at kF1
    refine pv_iconst (M := mX7_readTerm) (v := 0) dX7_readTerm_10 11 rfl (by decide) ?_
    refine pv_istore_n (M := mX7_readTerm) 2 (lo2 := [.ref 86, .int 4, .int 0, pv_U]) dX7_readTerm_11 12 rfl rfl (by decide) rfl rfl ?_
    have lp20 : ∀ (fuel19 : Nat) (y14 : Int32) (m15 : Nat → Nat → Int32) (n16 : Nat → Nat → Int64), (0 ≤ y14.toInt) → (y14.toInt ≤ 160) → ((m15 86 3).toInt ≤ (m15 86 2).toInt) → ((m15 86 2).toInt = (m 86 2).toInt) → ((m15 lb 7).toInt = (m lb 7).toInt) → ((m 86 3).toInt + 1 + 2 * y14.toInt ≤ (m15 86 3).toInt) → (SU (tC m) 2 (m 86 3).toInt = LSu (tC m) 2 (m15 86 3).toInt) → IV BB m15 → fr wR7 m m15 → ((160 - y14.toInt) : Int).toNat < fuel19 → PV none g mX7_readTerm (sqI T BB wR7 r m 0 1 (fun m' v => (m 86 3).toInt ≤ (m' 86 3).toInt ∧ (m' 86 3).toInt ≤ (m' 86 2).toInt ∧ (m' 86 2).toInt = (m 86 2).toInt ∧ ((v.toInt = 0 ∨ (m 86 3).toInt + 1 ≤ (m' 86 3).toInt) ∧ TRX (SU (tC m) 2 (m 86 3).toInt) (LSu (tC m) 2) (fun a => isT (tC m a) = false) v.toInt (m' 86 3).toInt (m' 86 4).toInt) ∧ (m' lb 7).toInt = (m lb 7).toInt)) 12 0 0 12 [.ref 86, .int 4, .int y14, pv_U] [] (mk T m15 n16 r) := by
      intro fuel19
      induction fuel19 with
      | zero => intro y14 m15 n16 b22 b23 b24 b25 b26 b27 b28 I17 K18 z29; omega
      | succ fuel19 ih21 =>
        intro y14 m15 n16 b22 b23 b24 b25 b26 b27 b28 I17 K18 z29
        have z30 : 0 ≤ (m15 86 3).toInt ∧ (m15 86 3).toInt ≤ 160 := I17 86 3
        have z31 : 0 ≤ (m15 86 2).toInt ∧ (m15 86 2).toInt ≤ 160 := I17 86 2
        have kgs := (show SU (tC m) 2 (m 86 3).toInt = LSu (tC m) 2 (m15 86 3).toInt by assumption)
        have kt12 : tC m15 = tC m := tC_eq (K18 86 2 rfl) (fun j => K18 87 j rfl)
        refine pv_iload_n (M := mX7_readTerm) 2 dX7_readTerm_12 13 rfl rfl rfl ?_
        refine pv_sipush (M := mX7_readTerm) (v := 160) dX7_readTerm_13 16 rfl (by decide) ?_
        refine pv_icmp_ge (M := mX7_readTerm) (tgt := 66) dX7_readTerm_16 19 rfl (by decide) (fun c34 => ?_) (fun c34 => ?_)
        · have c34 := iv_le (X := 160) (Y := y14.toInt) c34 (by decide) rfl
          refine pv_iconst (M := mX7_readTerm) (v := 1) dX7_readTerm_66 67 rfl (by decide) ?_
          have z35 : (1 : Int32).toInt = 1 := by decide
          exact pv_iret (M := mX7_readTerm) dX7_readTerm_67 rfl rfl ⟨_, _, _, rfl, rfl, I17, K18, by decide, by decide, ⟨by omega, by omega, by omega, ⟨Or.inr (by omega), Or.inl ⟨by decide, kgs, by first | (exact (k23.resolve_left (fun q => by have q1 := q.1; omega)).2) | (exfalso; omega)⟩⟩, by omega⟩⟩
        · have c34 := iv_nle (X := 160) (Y := y14.toInt) c34 (by decide) rfl
          refine pv_aload_n (M := mX7_readTerm) 0 dX7_readTerm_19 20 rfl rfl rfl ?_
          refine pv_callv (M := mX7_readTerm) (as := []) (st := []) (kc2 := 0) (ks2 := 0) dX7_readTerm_20 wd654 YX7_timesAhead ⟨wd656, wd11⟩ (mk_get (tl86 hT)) rfl rfl (s_X7_timesAhead_vx g hT I17 R) rfl rfl (Nat.le_of_ble_eq_true rfl) (by decide) rfl rfl 23 rfl (fun rv h1 q36 => ?_)
          obtain ⟨v37, rfl, rfl, pv37, qv37, rv37⟩ := q36
          replace rv37 : (v37 = 0 ∨ (m15 86 3).toInt < (m15 86 2).toInt) ∧ ((v37.toInt = 1 ∧ isT (tC m15 (m15 86 3).toInt) = true) ∨ (v37.toInt = 0 ∧ isT (tC m15 (m15 86 3).toInt) = false)) := rv37
          show PV _ _ _ _ _ _ _ 23 [.ref 86, .int 4, .int y14, pv_U] [.int v37] _
          have k23 := rv37.2
          rw [kt12] at k23
          refine pv_if_eq (M := mX7_readTerm) (tgt := 66) dX7_readTerm_23 26 rfl (by decide) (fun c40 => ?_) (fun c40 => ?_)
          · have c40 := iv_eq (X := v37.toInt) (Y := 0) c40 rfl (by decide)
            refine pv_iconst (M := mX7_readTerm) (v := 1) dX7_readTerm_66 67 rfl (by decide) ?_
            have z41 : (1 : Int32).toInt = 1 := by decide
            exact pv_iret (M := mX7_readTerm) dX7_readTerm_67 rfl rfl ⟨_, _, _, rfl, rfl, I17, K18, by decide, by decide, ⟨by omega, by omega, by omega, ⟨Or.inr (by omega), Or.inl ⟨by decide, kgs, by first | (exact (k23.resolve_left (fun q => by have q1 := q.1; omega)).2) | (exfalso; omega)⟩⟩, by omega⟩⟩
          · have pc40 := rv37.1.resolve_left c40
            have c40 := iv_ne (X := v37.toInt) (Y := 0) c40 rfl (by decide)
            have kT := (k23.resolve_right (fun q => by have q1 := q.1; omega)).2
            refine pv_aload_n (M := mX7_readTerm) 0 dX7_readTerm_26 27 rfl rfl rfl ?_
            refine pv_callv (M := mX7_readTerm) (as := []) (st := []) (kc2 := 0) (ks2 := 0) dX7_readTerm_27 wd527 YX7_peek ⟨wd529, wd2⟩ (mk_get (tl86 hT)) rfl rfl (s_X7_peek_vx g hT I17 R) rfl rfl (Nat.le_of_ble_eq_true rfl) (by decide) rfl rfl 30 rfl (fun rv h1 q43 => ?_)
            obtain ⟨v44, rfl, rfl, pv44, qv44, rv44⟩ := q43
            replace rv44 : v44.toInt = tC m15 (m15 86 3).toInt ∧ (v44.toInt = -1 ∨ (m15 86 3).toInt < (m15 86 2).toInt) := rv44
            show PV _ _ _ _ _ _ _ 30 [.ref 86, .int 4, .int y14, pv_U] [.int v44] _
            refine pv_istore_n (M := mX7_readTerm) 3 (lo2 := [.ref 86, .int 4, .int y14, .int v44]) dX7_readTerm_30 31 rfl rfl (by decide) rfl rfl ?_
            refine pv_aload_n (M := mX7_readTerm) 0 dX7_readTerm_31 32 rfl rfl rfl ?_
            refine pv_dup (M := mX7_readTerm) dX7_readTerm_32 33 rfl rfl ?_
            refine iv_get (M := mX7_readTerm) (l1 := 0) (l2 := 160) dX7_readTerm_33 FX7 3 wd283 (by decide) (tl86 hT) rfl I17 rfl 36 rfl (fun v45 ev45 pv45 qv45 => ?_)
            have wv45 : v45.toInt = (m15 86 3).toInt := congrArg Int32.toInt ev45
            refine pv_iconst (M := mX7_readTerm) (v := 1) dX7_readTerm_36 37 rfl (by decide) ?_
            refine iv_iadd (M := mX7_readTerm) (X := v45.toInt) (Y := 1) dX7_readTerm_37 38 rfl rfl (by decide) (by omega) (by omega) (fun v46 ev46 => ?_)
            refine iv_put (M := mX7_readTerm) (l1 := 0) (l2 := 160) dX7_readTerm_38 FX7 3 wd283 (by decide) rfl (tl86 hT) rfl rfl rfl I17 rfl (by omega) (by omega) 41 rfl (fun m47 e50 I48 => ?_)
            have K49 := K18.set e50 (by decide)
            have w51 : (m47 86 3).toInt = v46.toInt := by rw [e50, up2_eq]
            have w52 : (m47 86 2).toInt = (m15 86 2).toInt := by rw [e50, up2_ne (by omega)]
            have w53 : (m47 86 4).toInt = (m15 86 4).toInt := by rw [e50, up2_ne (by omega)]
            have w54 : (m47 lb 7).toInt = (m15 lb 7).toInt := by rw [e50, up2_ne (by omega)]
            have kt41 : tC m47 = tC m := tC_eq (K49 86 2 rfl) (fun j => K49 87 j rfl)
            have kp41 : (m47 86 3).toInt = (m15 86 3).toInt + 1 := by omega
            refine pv_aload_n (M := mX7_readTerm) 0 dX7_readTerm_41 42 rfl rfl rfl ?_
            refine pv_iload_n (M := mX7_readTerm) 1 dX7_readTerm_42 43 rfl rfl rfl ?_
            have z57 : (4 : Int32).toInt = 4 := by decide
            refine pv_callv (M := mX7_readTerm) (as := [.int 4]) (st := []) (kc2 := 0) (ks2 := 0) dX7_readTerm_43 wd547 YX7_readFactor ⟨wd549, wd6⟩ (mk_get (tl86 hT)) rfl rfl (s_X7_readFactor_v4x g hT I48 R (by first | omega | assumption | exact (iv_rng _).2 | exact (iv_rng _).1 | decide) (TBC_eq hp1 kt41)) rfl rfl (Nat.le_of_ble_eq_true rfl) (by decide) rfl rfl 46 rfl (fun rv h1 q58 => ?_)
            obtain ⟨m59, n60, v63, rfl, rfl, I61, K62, pv63, qv63, rv63⟩ := q58
            replace rv63 : (m47 86 3).toInt ≤ (m59 86 3).toInt ∧ (m59 86 3).toInt ≤ (m59 86 2).toInt ∧ (m59 86 2).toInt = (m47 86 2).toInt ∧ (RSX (FA (tC m47) 2 (m47 86 3).toInt) v63.toInt (m59 86 3).toInt (m59 86 4).toInt) ∧ (m59 lb 7).toInt = (m47 lb 7).toInt := by have q_ := rv63; (try rw [z57] at q_); exact q_
            have K62c := K62
            have K62 := K49.trans (K62.sub (fun _ _ q => q))
            show PV _ _ _ _ _ _ _ 46 [.ref 86, .int 4, .int y14, .int v44] [.int v63] _
            have k46 := rv63.2.2.2.1
            rw [kt41, kp41] at k46
            refine pv_if_ne (M := mX7_readTerm) (tgt := 51) dX7_readTerm_46 49 rfl (by decide) (fun c66 => ?_) (fun c66 => ?_)
            · have c66 := iv_ne (X := v63.toInt) (Y := 0) c66 rfl (by decide)
              have kF4 := RSX_ok k46 (by omega)
              have kF5 := FA_le 2 ((m15 86 3).toInt + 1) (by rw [kF4])
              rw [kF4] at kF5
              refine pv_aload_n (M := mX7_readTerm) 0 dX7_readTerm_51 52 rfl rfl rfl ?_
              refine mv_get (M := mX7_readTerm) (v := .ref lb) dX7_readTerm_52 FX7 1 wd281 (by decide) (tl86 hT) rfl R.2.2.2.1 55 rfl ?_
              refine pv_iload_n (M := mX7_readTerm) 3 dX7_readTerm_55 56 rfl rfl rfl ?_
              refine pv_iconst (M := mX7_readTerm) (v := 0) dX7_readTerm_56 57 rfl (by decide) ?_
              have z70 : (0 : Int32).toInt = 0 := by decide
              refine pv_callv (M := mX7_readTerm) (as := [.int v44, .int 0]) (st := []) (kc2 := 0) (ks2 := 0) dX7_readTerm_57 wd567 YX6_emit ⟨wd568, wd569⟩ (mk_get R.2.2.2.2.2.2.1) rfl rfl (s_X6_emit_vx g hT I61 lb R.2.2.2.2.2 v44 0 (by decide) (by decide)) rfl rfl (Nat.le_of_ble_eq_true rfl) (by decide) rfl rfl 60 rfl (fun rv h1 q71 => ?_)
              obtain ⟨m72, n73, rfl, rfl, I74, K75, rm72⟩ := q71
              replace rm72 : (m72 lb 7).toInt = (m59 lb 7).toInt := rm72
              have K75c := K75
              have w76 : (m72 86 3).toInt = (m59 86 3).toInt := congrArg Int32.toInt (K75 86 3 (wr_out (by omega)))
              have w77 : (m72 86 2).toInt = (m59 86 2).toInt := congrArg Int32.toInt (K75 86 2 (wr_out (by omega)))
              have w78 : (m72 86 4).toInt = (m59 86 4).toInt := congrArg Int32.toInt (K75 86 4 (wr_out (by omega)))
              have K75 := K62.trans (K75.sub (by first | exact wR7_r (by omega) | exact wR7_wr))
              show PV _ _ _ _ _ _ _ 60 [.ref 86, .int 4, .int y14, .int v44] [] _
              refine iv_inc (M := mX7_readTerm) (C := 1) dX7_readTerm_60 63 rfl rfl (by decide) rfl rfl (by decide) (by omega) (by omega) (fun v79 ev79 => ?_)
              show PV _ _ _ _ _ _ _ 63 [.ref 86, .int 4, .int v79, .int v44] [] _
              refine pv_goto (M := mX7_readTerm) (tgt := 12) dX7_readTerm_63 (by decide) ?_
              refine pv_fg (lo2 := [.ref 86, .int 4, .int v79, pv_U]) ⟨Or.inr rfl, ⟨Or.inr rfl, ⟨Or.inr rfl, ⟨Or.inl rfl, trivial⟩⟩⟩⟩ ?_
              have kbs : SU (tC m) 2 (m 86 3).toInt = LSu (tC m) 2 (m72 86 3).toInt := by rw [kgs, LSu_ok kTX (by omega) (isT_S kT) kF4]; congr 1; omega
              exact ih21 v79 m72 n73 (by first | omega | assumption | exact (iv_rng _).2 | exact (iv_rng _).1 | decide) (by first | omega | assumption | exact (iv_rng _).2 | exact (iv_rng _).1 | decide) (by first | omega | assumption | (show (m72 86 3).toInt ≤ (m72 86 2).toInt; omega) | decide) (by first | omega | assumption | (show (m72 86 2).toInt = (m 86 2).toInt; omega) | decide) (by first | omega | assumption | (show (m72 lb 7).toInt = (m lb 7).toInt; omega) | decide) (by first | omega | assumption | (show (m 86 3).toInt + 1 + 2 * v79.toInt ≤ (m72 86 3).toInt; omega) | decide) kbs I74 K75 (by omega)
            · have c66 := iv_eq (X := v63.toInt) (Y := 0) c66 rfl (by decide)
              refine pv_iconst (M := mX7_readTerm) (v := 0) dX7_readTerm_49 50 rfl (by decide) ?_
              have z81 : (0 : Int32).toInt = 0 := by decide
              exact pv_iret (M := mX7_readTerm) dX7_readTerm_50 rfl rfl ⟨_, _, _, rfl, rfl, I61, K62, by decide, by decide, ⟨by omega, by omega, by omega, ⟨Or.inl (by decide), Or.inr ⟨by decide, by rw [kgs]; exact LSu_fl kTX (by omega) (isT_S kT) (RSX_fl k46 (by omega))⟩⟩, by omega⟩⟩
    have z82 : (0 : Int32).toInt = 0 := by decide
    exact lp20 (((160 - 0) : Int).toNat + 1) 0 m4 n5 (by first | omega | assumption | exact (iv_rng _).2 | exact (iv_rng _).1 | decide) (by first | omega | assumption | exact (iv_rng _).2 | exact (iv_rng _).1 | decide) (by first | omega | assumption | (show (m4 86 3).toInt ≤ (m4 86 2).toInt; omega) | decide) (by first | omega | assumption | (show (m4 86 2).toInt = (m 86 2).toInt; omega) | decide) (by first | omega | assumption | (show (m4 lb 7).toInt = (m lb 7).toInt; omega) | decide) (by first | omega | assumption | (show (m 86 3).toInt + 1 + 2 * 0 ≤ (m4 86 3).toInt; omega) | decide) (SU_ok kF0) I6 K7 (by omega)
  · have c10 := iv_eq (X := v8.toInt) (Y := 0) c10 rfl (by decide)
    refine pv_iconst (M := mX7_readTerm) (v := 0) dX7_readTerm_8 9 rfl (by decide) ?_
    have z83 : (0 : Int32).toInt = 0 := by decide
    exact pv_iret (M := mX7_readTerm) dX7_readTerm_9 rfl rfl ⟨_, _, _, rfl, rfl, I6, K7, by decide, by decide, ⟨by omega, by omega, by omega, ⟨Or.inl (by decide), Or.inr ⟨by decide, SU_fl (RSX_fl k5 (by omega))⟩⟩, by omega⟩⟩

set_option maxHeartbeats 2000000 in
set_option maxRecDepth 20000 in
theorem s_X7_readSum_v4x (g : pv_G) {T : List mv_T} {m : Nat → Nat → Int32} {n : Nat → Nat → Int64} {r : Nat → Value} {la lb : Nat} (hT : TX T) (I : IV BB m) (R : RX T r la lb) (hp0 : (m 86 3).toInt ≤ (m 86 2).toInt) (hp1 : TBC m) : PM g mX7_readSum yX7_readSum (sqI T BB wR7 r m 0 1 (fun m' v => (m 86 3).toInt ≤ (m' 86 3).toInt ∧ (m' 86 3).toInt ≤ (m' 86 2).toInt ∧ (m' 86 2).toInt = (m 86 2).toInt ∧ (RSX (SU (tC m) 2 (m 86 3).toInt) v.toInt (m' 86 3).toInt (m' 86 4).toInt) ∧ (m' lb 7).toInt = (m lb 7).toInt)) 13 0 0 [.ref 86, .int 4] (mk T m n r) := by
  have Kp : fr wR7 m m := fr.rf
  have R0 := R
  have zR := R.2.2.2.2.1.1
  have zR2 := R.2.2.2.2.2.1
  have z133 : 0 ≤ (m 86 3).toInt ∧ (m 86 3).toInt ≤ 160 := I 86 3
  have z134 : 0 ≤ (m 86 2).toInt ∧ (m 86 2).toInt ≤ 160 := I 86 2
  refine PM.of 2 (lo := [.ref 86, .int 4, pv_U, pv_U]) rfl (by decide) rfl rfl (Nat.le_of_ble_eq_true rfl) ?_
  have kTX := TXT_C I
  refine pv_aload_n (M := mX7_readSum) 0 dX7_readSum_0 1 rfl rfl rfl ?_
  refine pv_iload_n (M := mX7_readSum) 1 dX7_readSum_1 2 rfl rfl rfl ?_
  have z2 : (4 : Int32).toInt = 4 := by decide
  refine pv_callv (M := mX7_readSum) (as := [.int 4]) (st := []) (kc2 := 0) (ks2 := 0) dX7_readSum_2 wd543 YX7_readTerm ⟨wd545, wd5⟩ (mk_get (tl86 hT)) rfl rfl (s_X7_readTerm_v4x g hT I R (by first | omega | assumption | exact (iv_rng _).2 | exact (iv_rng _).1 | decide) hp1) rfl rfl (Nat.le_of_ble_eq_true rfl) (by decide) rfl rfl 5 rfl (fun rv h1 q3 => ?_)
  obtain ⟨m4, n5, v8, rfl, rfl, I6, K7, pv8, qv8, rv8⟩ := q3
  replace rv8 : (m 86 3).toInt ≤ (m4 86 3).toInt ∧ (m4 86 3).toInt ≤ (m4 86 2).toInt ∧ (m4 86 2).toInt = (m 86 2).toInt ∧ ((v8.toInt = 0 ∨ (m 86 3).toInt + 1 ≤ (m4 86 3).toInt) ∧ TRX (SU (tC m) 2 (m 86 3).toInt) (LSu (tC m) 2) (fun a => isT (tC m a) = false) v8.toInt (m4 86 3).toInt (m4 86 4).toInt) ∧ (m4 lb 7).toInt = (m lb 7).toInt := by have q_ := rv8; (try rw [z2] at q_); exact q_
  have K7c := K7
  have K7 := Kp.trans (K7.sub (fun _ _ q => q))
  show PV _ _ _ _ _ _ _ 5 [.ref 86, .int 4, pv_U, pv_U] [.int v8] _
  have k5 := rv8.2.2.2.1.2
  have k5p := rv8.2.2.2.1.1
  refine pv_if_ne (M := mX7_readSum) (tgt := 10) dX7_readSum_5 8 rfl (by decide) (fun c11 => ?_) (fun c11 => ?_)
  · have c11 := iv_ne (X := v8.toInt) (Y := 0) c11 rfl (by decide)
    refine pv_iconst (M := mX7_readSum) (v := 0) dX7_readSum_10 11 rfl (by decide) ?_
    refine pv_istore_n (M := mX7_readSum) 2 (lo2 := [.ref 86, .int 4, .int 0, pv_U]) dX7_readSum_11 12 rfl rfl (by decide) rfl rfl ?_
    have lp18 : ∀ (fuel17 : Nat) (y12 : Int32) (m13 : Nat → Nat → Int32) (n14 : Nat → Nat → Int64), (0 ≤ y12.toInt) → (y12.toInt ≤ 160) → ((m13 86 3).toInt ≤ (m13 86 2).toInt) → ((m13 86 2).toInt = (m 86 2).toInt) → ((m13 lb 7).toInt = (m lb 7).toInt) → ((m 86 3).toInt + 1 + 2 * y12.toInt ≤ (m13 86 3).toInt) → (SU (tC m) 2 (m 86 3).toInt = LSu (tC m) 2 (m13 86 3).toInt) → (isT (tC m (m13 86 3).toInt) = false) → IV BB m13 → fr wR7 m m13 → ((160 - y12.toInt) : Int).toNat < fuel17 → PV none g mX7_readSum (sqI T BB wR7 r m 0 1 (fun m' v => (m 86 3).toInt ≤ (m' 86 3).toInt ∧ (m' 86 3).toInt ≤ (m' 86 2).toInt ∧ (m' 86 2).toInt = (m 86 2).toInt ∧ (RSX (SU (tC m) 2 (m 86 3).toInt) v.toInt (m' 86 3).toInt (m' 86 4).toInt) ∧ (m' lb 7).toInt = (m lb 7).toInt)) 13 0 0 12 [.ref 86, .int 4, .int y12, pv_U] [] (mk T m13 n14 r) := by
      intro fuel17
      induction fuel17 with
      | zero => intro y12 m13 n14 b20 b21 b22 b23 b24 b25 b26 b27 I15 K16 z28; omega
      | succ fuel17 ih19 =>
        intro y12 m13 n14 b20 b21 b22 b23 b24 b25 b26 b27 I15 K16 z28
        have z29 : 0 ≤ (m13 86 3).toInt ∧ (m13 86 3).toInt ≤ 160 := I15 86 3
        have z30 : 0 ≤ (m13 86 2).toInt ∧ (m13 86 2).toInt ≤ 160 := I15 86 2
        have kgs := (show SU (tC m) 2 (m 86 3).toInt = LSu (tC m) 2 (m13 86 3).toInt by assumption)
        have kgt := (show isT (tC m (m13 86 3).toInt) = false by assumption)
        have kt12 : tC m13 = tC m := tC_eq (K16 86 2 rfl) (fun j => K16 87 j rfl)
        refine pv_iload_n (M := mX7_readSum) 2 dX7_readSum_12 13 rfl rfl rfl ?_
        refine pv_sipush (M := mX7_readSum) (v := 160) dX7_readSum_13 16 rfl (by decide) ?_
        refine pv_icmp_ge (M := mX7_readSum) (tgt := 77) dX7_readSum_16 19 rfl (by decide) (fun c34 => ?_) (fun c34 => ?_)
        · have c34 := iv_le (X := 160) (Y := y12.toInt) c34 (by decide) rfl
          refine pv_iconst (M := mX7_readSum) (v := 1) dX7_readSum_77 78 rfl (by decide) ?_
          have z35 : (1 : Int32).toInt = 1 := by decide
          exact pv_iret (M := mX7_readSum) dX7_readSum_78 rfl rfl ⟨_, _, _, rfl, rfl, I15, K16, by decide, by decide, ⟨by omega, by omega, by omega, (by first | exact Or.inl ⟨by decide, by rw [kgs]; exact LSu_no (isS_n kgt (by omega) (by omega))⟩ | (exfalso; omega)), by omega⟩⟩
        · have c34 := iv_nle (X := 160) (Y := y12.toInt) c34 (by decide) rfl
          refine pv_aload_n (M := mX7_readSum) 0 dX7_readSum_19 20 rfl rfl rfl ?_
          refine pv_callv (M := mX7_readSum) (as := []) (st := []) (kc2 := 0) (ks2 := 0) dX7_readSum_20 wd527 YX7_peek ⟨wd529, wd2⟩ (mk_get (tl86 hT)) rfl rfl (s_X7_peek_vx g hT I15 R) rfl rfl (Nat.le_of_ble_eq_true rfl) (by decide) rfl rfl 23 rfl (fun rv h1 q36 => ?_)
          obtain ⟨v37, rfl, rfl, pv37, qv37, rv37⟩ := q36
          replace rv37 : v37.toInt = tC m13 (m13 86 3).toInt ∧ (v37.toInt = -1 ∨ (m13 86 3).toInt < (m13 86 2).toInt) := rv37
          show PV _ _ _ _ _ _ _ 23 [.ref 86, .int 4, .int y12, pv_U] [.int v37] _
          have k23 := rv37.1
          have k23b := rv37.2
          rw [kt12] at k23
          refine pv_bipush (M := mX7_readSum) (v := 43) dX7_readSum_23 25 rfl (by decide) ?_
          refine pv_icmp_eq (M := mX7_readSum) (tgt := 37) dX7_readSum_25 28 rfl (by decide) (fun c41 => ?_) (fun c41 => ?_)
          · have c41 := iv_eq (X := v37.toInt) (Y := 43) c41 rfl (by decide)
            have kS : isS (tC m (m13 86 3).toInt) = true := isS_y (by omega)
            refine pv_aload_n (M := mX7_readSum) 0 dX7_readSum_37 38 rfl rfl rfl ?_
            refine pv_callv (M := mX7_readSum) (as := []) (st := []) (kc2 := 0) (ks2 := 0) dX7_readSum_38 wd527 YX7_peek ⟨wd529, wd2⟩ (mk_get (tl86 hT)) rfl rfl (s_X7_peek_vx g hT I15 R) rfl rfl (Nat.le_of_ble_eq_true rfl) (by decide) rfl rfl 41 rfl (fun rv h1 q43 => ?_)
            obtain ⟨v44, rfl, rfl, pv44, qv44, rv44⟩ := q43
            replace rv44 : v44.toInt = tC m13 (m13 86 3).toInt ∧ (v44.toInt = -1 ∨ (m13 86 3).toInt < (m13 86 2).toInt) := rv44
            show PV _ _ _ _ _ _ _ 41 [.ref 86, .int 4, .int y12, pv_U] [.int v44] _
            refine pv_istore_n (M := mX7_readSum) 3 (lo2 := [.ref 86, .int 4, .int y12, .int v44]) dX7_readSum_41 42 rfl rfl (by decide) rfl rfl ?_
            refine pv_aload_n (M := mX7_readSum) 0 dX7_readSum_42 43 rfl rfl rfl ?_
            refine pv_dup (M := mX7_readSum) dX7_readSum_43 44 rfl rfl ?_
            refine iv_get (M := mX7_readSum) (l1 := 0) (l2 := 160) dX7_readSum_44 FX7 3 wd283 (by decide) (tl86 hT) rfl I15 rfl 47 rfl (fun v45 ev45 pv45 qv45 => ?_)
            have wv45 : v45.toInt = (m13 86 3).toInt := congrArg Int32.toInt ev45
            refine pv_iconst (M := mX7_readSum) (v := 1) dX7_readSum_47 48 rfl (by decide) ?_
            refine iv_iadd (M := mX7_readSum) (X := v45.toInt) (Y := 1) dX7_readSum_48 49 rfl rfl (by decide) (by omega) (by omega) (fun v46 ev46 => ?_)
            refine iv_put (M := mX7_readSum) (l1 := 0) (l2 := 160) dX7_readSum_49 FX7 3 wd283 (by decide) rfl (tl86 hT) rfl rfl rfl I15 rfl (by omega) (by omega) 52 rfl (fun m47 e50 I48 => ?_)
            have K49 := K16.set e50 (by decide)
            have w51 : (m47 86 3).toInt = v46.toInt := by rw [e50, up2_eq]
            have w52 : (m47 86 2).toInt = (m13 86 2).toInt := by rw [e50, up2_ne (by omega)]
            have w53 : (m47 86 4).toInt = (m13 86 4).toInt := by rw [e50, up2_ne (by omega)]
            have w54 : (m47 lb 7).toInt = (m13 lb 7).toInt := by rw [e50, up2_ne (by omega)]
            have kt52 : tC m47 = tC m := tC_eq (K49 86 2 rfl) (fun j => K49 87 j rfl)
            have kp52 : (m47 86 3).toInt = (m13 86 3).toInt + 1 := by omega
            refine pv_aload_n (M := mX7_readSum) 0 dX7_readSum_52 53 rfl rfl rfl ?_
            refine pv_iload_n (M := mX7_readSum) 1 dX7_readSum_53 54 rfl rfl rfl ?_
            have z57 : (4 : Int32).toInt = 4 := by decide
            refine pv_callv (M := mX7_readSum) (as := [.int 4]) (st := []) (kc2 := 0) (ks2 := 0) dX7_readSum_54 wd543 YX7_readTerm ⟨wd545, wd5⟩ (mk_get (tl86 hT)) rfl rfl (s_X7_readTerm_v4x g hT I48 R (by first | omega | assumption | exact (iv_rng _).2 | exact (iv_rng _).1 | decide) (TBC_eq hp1 kt52)) rfl rfl (Nat.le_of_ble_eq_true rfl) (by decide) rfl rfl 57 rfl (fun rv h1 q58 => ?_)
            obtain ⟨m59, n60, v63, rfl, rfl, I61, K62, pv63, qv63, rv63⟩ := q58
            replace rv63 : (m47 86 3).toInt ≤ (m59 86 3).toInt ∧ (m59 86 3).toInt ≤ (m59 86 2).toInt ∧ (m59 86 2).toInt = (m47 86 2).toInt ∧ ((v63.toInt = 0 ∨ (m47 86 3).toInt + 1 ≤ (m59 86 3).toInt) ∧ TRX (SU (tC m47) 2 (m47 86 3).toInt) (LSu (tC m47) 2) (fun a => isT (tC m47 a) = false) v63.toInt (m59 86 3).toInt (m59 86 4).toInt) ∧ (m59 lb 7).toInt = (m47 lb 7).toInt := by have q_ := rv63; (try rw [z57] at q_); exact q_
            have K62c := K62
            have K62 := K49.trans (K62.sub (fun _ _ q => q))
            show PV _ _ _ _ _ _ _ 57 [.ref 86, .int 4, .int y12, .int v44] [.int v63] _
            have k57 := rv63.2.2.2.1.2
            have k57p := rv63.2.2.2.1.1
            rw [kt52, kp52] at k57
            refine pv_if_ne (M := mX7_readSum) (tgt := 62) dX7_readSum_57 60 rfl (by decide) (fun c67 => ?_) (fun c67 => ?_)
            · have c67 := iv_ne (X := v63.toInt) (Y := 0) c67 rfl (by decide)
              have kT6 := TRX_ok k57 (by omega)
              refine pv_aload_n (M := mX7_readSum) 0 dX7_readSum_62 63 rfl rfl rfl ?_
              refine mv_get (M := mX7_readSum) (v := .ref lb) dX7_readSum_63 FX7 1 wd281 (by decide) (tl86 hT) rfl R.2.2.2.1 66 rfl ?_
              refine pv_iload_n (M := mX7_readSum) 3 dX7_readSum_66 67 rfl rfl rfl ?_
              refine pv_iconst (M := mX7_readSum) (v := 0) dX7_readSum_67 68 rfl (by decide) ?_
              have z69 : (0 : Int32).toInt = 0 := by decide
              refine pv_callv (M := mX7_readSum) (as := [.int v44, .int 0]) (st := []) (kc2 := 0) (ks2 := 0) dX7_readSum_68 wd567 YX6_emit ⟨wd568, wd569⟩ (mk_get R.2.2.2.2.2.2.1) rfl rfl (s_X6_emit_vx g hT I61 lb R.2.2.2.2.2 v44 0 (by decide) (by decide)) rfl rfl (Nat.le_of_ble_eq_true rfl) (by decide) rfl rfl 71 rfl (fun rv h1 q70 => ?_)
              obtain ⟨m71, n72, rfl, rfl, I73, K74, rm71⟩ := q70
              replace rm71 : (m71 lb 7).toInt = (m59 lb 7).toInt := rm71
              have K74c := K74
              have w75 : (m71 86 3).toInt = (m59 86 3).toInt := congrArg Int32.toInt (K74 86 3 (wr_out (by omega)))
              have w76 : (m71 86 2).toInt = (m59 86 2).toInt := congrArg Int32.toInt (K74 86 2 (wr_out (by omega)))
              have w77 : (m71 86 4).toInt = (m59 86 4).toInt := congrArg Int32.toInt (K74 86 4 (wr_out (by omega)))
              have K74 := K62.trans (K74.sub (by first | exact wR7_r (by omega) | exact wR7_wr))
              show PV _ _ _ _ _ _ _ 71 [.ref 86, .int 4, .int y12, .int v44] [] _
              refine iv_inc (M := mX7_readSum) (C := 1) dX7_readSum_71 74 rfl rfl (by decide) rfl rfl (by decide) (by omega) (by omega) (fun v78 ev78 => ?_)
              show PV _ _ _ _ _ _ _ 74 [.ref 86, .int 4, .int v78, .int v44] [] _
              refine pv_goto (M := mX7_readSum) (tgt := 12) dX7_readSum_74 (by decide) ?_
              refine pv_fg (lo2 := [.ref 86, .int 4, .int v78, pv_U]) ⟨Or.inr rfl, ⟨Or.inr rfl, ⟨Or.inr rfl, ⟨Or.inl rfl, trivial⟩⟩⟩⟩ ?_
              have kb3 : (m71 86 3).toInt = (m59 86 3).toInt := by omega
              have kbs : SU (tC m) 2 (m 86 3).toInt = LSu (tC m) 2 (m71 86 3).toInt := by rw [kgs, LSu_su kTX (by omega) kS, kT6.1]; congr 1; omega
              have kbt : isT (tC m (m71 86 3).toInt) = false := by rw [kb3]; exact kT6.2
              exact ih19 v78 m71 n72 (by first | omega | assumption | exact (iv_rng _).2 | exact (iv_rng _).1 | decide) (by first | omega | assumption | exact (iv_rng _).2 | exact (iv_rng _).1 | decide) (by first | omega | assumption | (show (m71 86 3).toInt ≤ (m71 86 2).toInt; omega) | decide) (by first | omega | assumption | (show (m71 86 2).toInt = (m 86 2).toInt; omega) | decide) (by first | omega | assumption | (show (m71 lb 7).toInt = (m lb 7).toInt; omega) | decide) (by first | omega | assumption | (show (m 86 3).toInt + 1 + 2 * v78.toInt ≤ (m71 86 3).toInt; omega) | decide) kbs kbt I73 K74 (by omega)
            · have c67 := iv_eq (X := v63.toInt) (Y := 0) c67 rfl (by decide)
              refine pv_iconst (M := mX7_readSum) (v := 0) dX7_readSum_60 61 rfl (by decide) ?_
              have z82 : (0 : Int32).toInt = 0 := by decide
              exact pv_iret (M := mX7_readSum) dX7_readSum_61 rfl rfl ⟨_, _, _, rfl, rfl, I61, K62, by decide, by decide, ⟨by omega, by omega, by omega, Or.inr ⟨by decide, by rw [kgs, LSu_su kTX (by omega) kS]; exact TRX_fl k57 (by omega)⟩, by omega⟩⟩
          · have c41 := iv_ne (X := v37.toInt) (Y := 43) c41 rfl (by decide)
            refine pv_aload_n (M := mX7_readSum) 0 dX7_readSum_28 29 rfl rfl rfl ?_
            refine pv_callv (M := mX7_readSum) (as := []) (st := []) (kc2 := 0) (ks2 := 0) dX7_readSum_29 wd527 YX7_peek ⟨wd529, wd2⟩ (mk_get (tl86 hT)) rfl rfl (s_X7_peek_vx g hT I15 R) rfl rfl (Nat.le_of_ble_eq_true rfl) (by decide) rfl rfl 32 rfl (fun rv h1 q83 => ?_)
            obtain ⟨v84, rfl, rfl, pv84, qv84, rv84⟩ := q83
            replace rv84 : v84.toInt = tC m13 (m13 86 3).toInt ∧ (v84.toInt = -1 ∨ (m13 86 3).toInt < (m13 86 2).toInt) := rv84
            show PV _ _ _ _ _ _ _ 32 [.ref 86, .int 4, .int y12, pv_U] [.int v84] _
            have k32 := rv84.1
            have k32b := rv84.2
            rw [kt12] at k32
            refine pv_bipush (M := mX7_readSum) (v := 45) dX7_readSum_32 34 rfl (by decide) ?_
            refine pv_icmp_ne (M := mX7_readSum) (tgt := 77) dX7_readSum_34 37 rfl (by decide) (fun c88 => ?_) (fun c88 => ?_)
            · have c88 := iv_ne (X := v84.toInt) (Y := 45) c88 rfl (by decide)
              refine pv_iconst (M := mX7_readSum) (v := 1) dX7_readSum_77 78 rfl (by decide) ?_
              have z89 : (1 : Int32).toInt = 1 := by decide
              exact pv_iret (M := mX7_readSum) dX7_readSum_78 rfl rfl ⟨_, _, _, rfl, rfl, I15, K16, by decide, by decide, ⟨by omega, by omega, by omega, (by first | exact Or.inl ⟨by decide, by rw [kgs]; exact LSu_no (isS_n kgt (by omega) (by omega))⟩ | (exfalso; omega)), by omega⟩⟩
            · have c88 := iv_eq (X := v84.toInt) (Y := 45) c88 rfl (by decide)
              have kS : isS (tC m (m13 86 3).toInt) = true := isS_y (by omega)
              refine pv_aload_n (M := mX7_readSum) 0 dX7_readSum_37 38 rfl rfl rfl ?_
              refine pv_callv (M := mX7_readSum) (as := []) (st := []) (kc2 := 0) (ks2 := 0) dX7_readSum_38 wd527 YX7_peek ⟨wd529, wd2⟩ (mk_get (tl86 hT)) rfl rfl (s_X7_peek_vx g hT I15 R) rfl rfl (Nat.le_of_ble_eq_true rfl) (by decide) rfl rfl 41 rfl (fun rv h1 q91 => ?_)
              obtain ⟨v92, rfl, rfl, pv92, qv92, rv92⟩ := q91
              replace rv92 : v92.toInt = tC m13 (m13 86 3).toInt ∧ (v92.toInt = -1 ∨ (m13 86 3).toInt < (m13 86 2).toInt) := rv92
              show PV _ _ _ _ _ _ _ 41 [.ref 86, .int 4, .int y12, pv_U] [.int v92] _
              refine pv_istore_n (M := mX7_readSum) 3 (lo2 := [.ref 86, .int 4, .int y12, .int v92]) dX7_readSum_41 42 rfl rfl (by decide) rfl rfl ?_
              refine pv_aload_n (M := mX7_readSum) 0 dX7_readSum_42 43 rfl rfl rfl ?_
              refine pv_dup (M := mX7_readSum) dX7_readSum_43 44 rfl rfl ?_
              refine iv_get (M := mX7_readSum) (l1 := 0) (l2 := 160) dX7_readSum_44 FX7 3 wd283 (by decide) (tl86 hT) rfl I15 rfl 47 rfl (fun v93 ev93 pv93 qv93 => ?_)
              have wv93 : v93.toInt = (m13 86 3).toInt := congrArg Int32.toInt ev93
              refine pv_iconst (M := mX7_readSum) (v := 1) dX7_readSum_47 48 rfl (by decide) ?_
              refine iv_iadd (M := mX7_readSum) (X := v93.toInt) (Y := 1) dX7_readSum_48 49 rfl rfl (by decide) (by omega) (by omega) (fun v94 ev94 => ?_)
              refine iv_put (M := mX7_readSum) (l1 := 0) (l2 := 160) dX7_readSum_49 FX7 3 wd283 (by decide) rfl (tl86 hT) rfl rfl rfl I15 rfl (by omega) (by omega) 52 rfl (fun m95 e98 I96 => ?_)
              have K97 := K16.set e98 (by decide)
              have w99 : (m95 86 3).toInt = v94.toInt := by rw [e98, up2_eq]
              have w100 : (m95 86 2).toInt = (m13 86 2).toInt := by rw [e98, up2_ne (by omega)]
              have w101 : (m95 86 4).toInt = (m13 86 4).toInt := by rw [e98, up2_ne (by omega)]
              have w102 : (m95 lb 7).toInt = (m13 lb 7).toInt := by rw [e98, up2_ne (by omega)]
              have kt52 : tC m95 = tC m := tC_eq (K97 86 2 rfl) (fun j => K97 87 j rfl)
              have kp52 : (m95 86 3).toInt = (m13 86 3).toInt + 1 := by omega
              refine pv_aload_n (M := mX7_readSum) 0 dX7_readSum_52 53 rfl rfl rfl ?_
              refine pv_iload_n (M := mX7_readSum) 1 dX7_readSum_53 54 rfl rfl rfl ?_
              have z105 : (4 : Int32).toInt = 4 := by decide
              refine pv_callv (M := mX7_readSum) (as := [.int 4]) (st := []) (kc2 := 0) (ks2 := 0) dX7_readSum_54 wd543 YX7_readTerm ⟨wd545, wd5⟩ (mk_get (tl86 hT)) rfl rfl (s_X7_readTerm_v4x g hT I96 R (by first | omega | assumption | exact (iv_rng _).2 | exact (iv_rng _).1 | decide) (TBC_eq hp1 kt52)) rfl rfl (Nat.le_of_ble_eq_true rfl) (by decide) rfl rfl 57 rfl (fun rv h1 q106 => ?_)
              obtain ⟨m107, n108, v111, rfl, rfl, I109, K110, pv111, qv111, rv111⟩ := q106
              replace rv111 : (m95 86 3).toInt ≤ (m107 86 3).toInt ∧ (m107 86 3).toInt ≤ (m107 86 2).toInt ∧ (m107 86 2).toInt = (m95 86 2).toInt ∧ ((v111.toInt = 0 ∨ (m95 86 3).toInt + 1 ≤ (m107 86 3).toInt) ∧ TRX (SU (tC m95) 2 (m95 86 3).toInt) (LSu (tC m95) 2) (fun a => isT (tC m95 a) = false) v111.toInt (m107 86 3).toInt (m107 86 4).toInt) ∧ (m107 lb 7).toInt = (m95 lb 7).toInt := by have q_ := rv111; (try rw [z105] at q_); exact q_
              have K110c := K110
              have K110 := K97.trans (K110.sub (fun _ _ q => q))
              show PV _ _ _ _ _ _ _ 57 [.ref 86, .int 4, .int y12, .int v92] [.int v111] _
              have k57 := rv111.2.2.2.1.2
              have k57p := rv111.2.2.2.1.1
              rw [kt52, kp52] at k57
              refine pv_if_ne (M := mX7_readSum) (tgt := 62) dX7_readSum_57 60 rfl (by decide) (fun c115 => ?_) (fun c115 => ?_)
              · have c115 := iv_ne (X := v111.toInt) (Y := 0) c115 rfl (by decide)
                have kT6 := TRX_ok k57 (by omega)
                refine pv_aload_n (M := mX7_readSum) 0 dX7_readSum_62 63 rfl rfl rfl ?_
                refine mv_get (M := mX7_readSum) (v := .ref lb) dX7_readSum_63 FX7 1 wd281 (by decide) (tl86 hT) rfl R.2.2.2.1 66 rfl ?_
                refine pv_iload_n (M := mX7_readSum) 3 dX7_readSum_66 67 rfl rfl rfl ?_
                refine pv_iconst (M := mX7_readSum) (v := 0) dX7_readSum_67 68 rfl (by decide) ?_
                have z117 : (0 : Int32).toInt = 0 := by decide
                refine pv_callv (M := mX7_readSum) (as := [.int v92, .int 0]) (st := []) (kc2 := 0) (ks2 := 0) dX7_readSum_68 wd567 YX6_emit ⟨wd568, wd569⟩ (mk_get R.2.2.2.2.2.2.1) rfl rfl (s_X6_emit_vx g hT I109 lb R.2.2.2.2.2 v92 0 (by decide) (by decide)) rfl rfl (Nat.le_of_ble_eq_true rfl) (by decide) rfl rfl 71 rfl (fun rv h1 q118 => ?_)
                obtain ⟨m119, n120, rfl, rfl, I121, K122, rm119⟩ := q118
                replace rm119 : (m119 lb 7).toInt = (m107 lb 7).toInt := rm119
                have K122c := K122
                have w123 : (m119 86 3).toInt = (m107 86 3).toInt := congrArg Int32.toInt (K122 86 3 (wr_out (by omega)))
                have w124 : (m119 86 2).toInt = (m107 86 2).toInt := congrArg Int32.toInt (K122 86 2 (wr_out (by omega)))
                have w125 : (m119 86 4).toInt = (m107 86 4).toInt := congrArg Int32.toInt (K122 86 4 (wr_out (by omega)))
                have K122 := K110.trans (K122.sub (by first | exact wR7_r (by omega) | exact wR7_wr))
                show PV _ _ _ _ _ _ _ 71 [.ref 86, .int 4, .int y12, .int v92] [] _
                refine iv_inc (M := mX7_readSum) (C := 1) dX7_readSum_71 74 rfl rfl (by decide) rfl rfl (by decide) (by omega) (by omega) (fun v126 ev126 => ?_)
                show PV _ _ _ _ _ _ _ 74 [.ref 86, .int 4, .int v126, .int v92] [] _
                refine pv_goto (M := mX7_readSum) (tgt := 12) dX7_readSum_74 (by decide) ?_
                refine pv_fg (lo2 := [.ref 86, .int 4, .int v126, pv_U]) ⟨Or.inr rfl, ⟨Or.inr rfl, ⟨Or.inr rfl, ⟨Or.inl rfl, trivial⟩⟩⟩⟩ ?_
                have kb3 : (m119 86 3).toInt = (m107 86 3).toInt := by omega
                have kbs : SU (tC m) 2 (m 86 3).toInt = LSu (tC m) 2 (m119 86 3).toInt := by rw [kgs, LSu_su kTX (by omega) kS, kT6.1]; congr 1; omega
                have kbt : isT (tC m (m119 86 3).toInt) = false := by rw [kb3]; exact kT6.2
                exact ih19 v126 m119 n120 (by first | omega | assumption | exact (iv_rng _).2 | exact (iv_rng _).1 | decide) (by first | omega | assumption | exact (iv_rng _).2 | exact (iv_rng _).1 | decide) (by first | omega | assumption | (show (m119 86 3).toInt ≤ (m119 86 2).toInt; omega) | decide) (by first | omega | assumption | (show (m119 86 2).toInt = (m 86 2).toInt; omega) | decide) (by first | omega | assumption | (show (m119 lb 7).toInt = (m lb 7).toInt; omega) | decide) (by first | omega | assumption | (show (m 86 3).toInt + 1 + 2 * v126.toInt ≤ (m119 86 3).toInt; omega) | decide) kbs kbt I121 K122 (by omega)
              · have c115 := iv_eq (X := v111.toInt) (Y := 0) c115 rfl (by decide)
                refine pv_iconst (M := mX7_readSum) (v := 0) dX7_readSum_60 61 rfl (by decide) ?_
                have z130 : (0 : Int32).toInt = 0 := by decide
                exact pv_iret (M := mX7_readSum) dX7_readSum_61 rfl rfl ⟨_, _, _, rfl, rfl, I109, K110, by decide, by decide, ⟨by omega, by omega, by omega, Or.inr ⟨by decide, by rw [kgs, LSu_su kTX (by omega) kS]; exact TRX_fl k57 (by omega)⟩, by omega⟩⟩
    have z131 : (0 : Int32).toInt = 0 := by decide
    exact lp18 (((160 - 0) : Int).toNat + 1) 0 m4 n5 (by first | omega | assumption | exact (iv_rng _).2 | exact (iv_rng _).1 | decide) (by first | omega | assumption | exact (iv_rng _).2 | exact (iv_rng _).1 | decide) (by first | omega | assumption | (show (m4 86 3).toInt ≤ (m4 86 2).toInt; omega) | decide) (by first | omega | assumption | (show (m4 86 2).toInt = (m 86 2).toInt; omega) | decide) (by first | omega | assumption | (show (m4 lb 7).toInt = (m lb 7).toInt; omega) | decide) (by first | omega | assumption | (show (m 86 3).toInt + 1 + 2 * 0 ≤ (m4 86 3).toInt; omega) | decide) (TRX_ok k5 (by omega)).1 (TRX_ok k5 (by omega)).2 I6 K7 (by omega)
  · have c11 := iv_eq (X := v8.toInt) (Y := 0) c11 rfl (by decide)
    refine pv_iconst (M := mX7_readSum) (v := 0) dX7_readSum_8 9 rfl (by decide) ?_
    have z132 : (0 : Int32).toInt = 0 := by decide
    exact pv_iret (M := mX7_readSum) dX7_readSum_9 rfl rfl ⟨_, _, _, rfl, rfl, I6, K7, by decide, by decide, ⟨by omega, by omega, by omega, Or.inr ⟨by decide, TRX_fl k5 (by omega)⟩, by omega⟩⟩

set_option maxHeartbeats 2000000 in
set_option maxRecDepth 20000 in
theorem s_X7_readFactor_v3x (g : pv_G) {T : List mv_T} {m : Nat → Nat → Int32} {n : Nat → Nat → Int64} {r : Nat → Value} {la lb : Nat} (hT : TX T) (I : IV BB m) (R : RX T r la lb) (hp0 : (m 86 3).toInt ≤ (m 86 2).toInt) (hp1 : TBC m) : PM g mX7_readFactor yX7_readFactor (sqI T BB wR7 r m 0 1 (fun m' v => (m 86 3).toInt ≤ (m' 86 3).toInt ∧ (m' 86 3).toInt ≤ (m' 86 2).toInt ∧ (m' 86 2).toInt = (m 86 2).toInt ∧ (RSX (FA (tC m) 3 (m 86 3).toInt) v.toInt (m' 86 3).toInt (m' 86 4).toInt) ∧ (m' lb 7).toInt = (m lb 7).toInt)) 14 0 0 [.ref 86, .int 3] (mk T m n r) := by
  have Kp : fr wR7 m m := fr.rf
  have R0 := R
  have zR := R.2.2.2.2.1.1
  have zR2 := R.2.2.2.2.2.1
  have z108 : 0 ≤ (m 86 3).toInt ∧ (m 86 3).toInt ≤ 160 := I 86 3
  have z109 : 0 ≤ (m 86 2).toInt ∧ (m 86 2).toInt ≤ 160 := I 86 2
  refine PM.of 1 (lo := [.ref 86, .int 3, pv_U]) rfl (by decide) rfl rfl (Nat.le_of_ble_eq_true rfl) ?_
  refine pv_aload_n (M := mX7_readFactor) 0 dX7_readFactor_0 1 rfl rfl rfl ?_
  refine pv_callv (M := mX7_readFactor) (as := []) (st := []) (kc2 := 0) (ks2 := 0) dX7_readFactor_1 wd527 YX7_peek ⟨wd529, wd2⟩ (mk_get (tl86 hT)) rfl rfl (s_X7_peek_vx g hT I R) rfl rfl (Nat.le_of_ble_eq_true rfl) (by decide) rfl rfl 4 rfl (fun rv h1 q1 => ?_)
  obtain ⟨v2, rfl, rfl, pv2, qv2, rv2⟩ := q1
  replace rv2 : v2.toInt = tC m (m 86 3).toInt ∧ (v2.toInt = -1 ∨ (m 86 3).toInt < (m 86 2).toInt) := rv2
  show PV _ _ _ _ _ _ _ 4 [.ref 86, .int 3, pv_U] [.int v2] _
  have k4 := rv2.1
  have k4b := rv2.2
  refine pv_bipush (M := mX7_readFactor) (v := 91) dX7_readFactor_4 6 rfl (by decide) ?_
  refine pv_icmp_ne (M := mX7_readFactor) (tgt := 42) dX7_readFactor_6 9 rfl (by decide) (fun c5 => ?_) (fun c5 => ?_)
  · have c5 := iv_ne (X := v2.toInt) (Y := 91) c5 rfl (by decide)
    have kn91 : tC m (m 86 3).toInt ≠ 91 := by omega
    refine pv_aload_n (M := mX7_readFactor) 0 dX7_readFactor_42 43 rfl rfl rfl ?_
    refine pv_callv (M := mX7_readFactor) (as := []) (st := []) (kc2 := 0) (ks2 := 0) dX7_readFactor_43 wd559 YX7_digitAhead ⟨wd561, wd9⟩ (mk_get (tl86 hT)) rfl rfl (s_X7_digitAhead_vx g hT I R) rfl rfl (Nat.le_of_ble_eq_true rfl) (by decide) rfl rfl 46 rfl (fun rv h1 q7 => ?_)
    obtain ⟨v8, rfl, rfl, pv8, qv8, rv8⟩ := q7
    replace rv8 : (v8 = 0 ∨ ((m 86 3).toInt < (m 86 2).toInt ∧ 48 ≤ (m 87 (m 86 3).toInt.toNat).toInt ∧ (m 87 (m 86 3).toInt.toNat).toInt ≤ 57)) ∧ ((v8.toInt = 1 ∧ dig (tC m (m 86 3).toInt) = true) ∨ (v8.toInt = 0 ∧ dig (tC m (m 86 3).toInt) = false)) := rv8
    show PV _ _ _ _ _ _ _ 46 [.ref 86, .int 3, pv_U] [.int v8] _
    have k46 := rv8.2
    refine pv_if_eq (M := mX7_readFactor) (tgt := 54) dX7_readFactor_46 49 rfl (by decide) (fun c10 => ?_) (fun c10 => ?_)
    · have c10 := iv_eq (X := v8.toInt) (Y := 0) c10 rfl (by decide)
      have kdn := (k46.resolve_left (fun q => by have q1 := q.1; omega)).2
      refine pv_aload_n (M := mX7_readFactor) 0 dX7_readFactor_54 55 rfl rfl rfl ?_
      refine pv_callv (M := mX7_readFactor) (as := []) (st := []) (kc2 := 0) (ks2 := 0) dX7_readFactor_55 wd527 YX7_peek ⟨wd529, wd2⟩ (mk_get (tl86 hT)) rfl rfl (s_X7_peek_vx g hT I R) rfl rfl (Nat.le_of_ble_eq_true rfl) (by decide) rfl rfl 58 rfl (fun rv h1 q12 => ?_)
      obtain ⟨v13, rfl, rfl, pv13, qv13, rv13⟩ := q12
      replace rv13 : v13.toInt = tC m (m 86 3).toInt ∧ (v13.toInt = -1 ∨ (m 86 3).toInt < (m 86 2).toInt) := rv13
      show PV _ _ _ _ _ _ _ 58 [.ref 86, .int 3, pv_U] [.int v13] _
      have k58 := rv13.1
      refine pv_iconst (M := mX7_readFactor) (v := (-1)) dX7_readFactor_58 59 rfl (by decide) ?_
      refine pv_icmp_ne (M := mX7_readFactor) (tgt := 66) dX7_readFactor_59 62 rfl (by decide) (fun c15 => ?_) (fun c15 => ?_)
      · have c15 := iv_ne (X := v13.toInt) (Y := (-1)) c15 rfl (by decide)
        refine pv_ldcS (M := mX7_readFactor) dX7_readFactor_66 rfl 68 rfl ?_
        refine pv_aload_n (M := mX7_readFactor) 0 dX7_readFactor_68 69 rfl rfl rfl ?_
        refine pv_callv (M := mX7_readFactor) (as := []) (st := [.retAddr (g.2.2.1 6 + 1)]) (kc2 := 0) (ks2 := 0) dX7_readFactor_69 wd527 YX7_peek ⟨wd529, wd2⟩ (mk_get (tl86 hT)) rfl rfl (s_X7_peek_vx g hT I R) rfl rfl (Nat.le_of_ble_eq_true rfl) (by decide) rfl rfl 72 rfl (fun rv h1 q16 => ?_)
        obtain ⟨v17, rfl, rfl, pv17, qv17, rv17⟩ := q16
        replace rv17 : v17.toInt = tC m (m 86 3).toInt ∧ (v17.toInt = -1 ∨ (m 86 3).toInt < (m 86 2).toInt) := rv17
        show PV _ _ _ _ _ _ _ 72 [.ref 86, .int 3, pv_U] [.int v17, .retAddr (g.2.2.1 6 + 1)] _
        have k72 := rv17.1
        have kb72 := hp1 (m 86 3).toInt
        refine iv_i2cU (M := mX7_readFactor) dX7_readFactor_72 73 rfl (fun v20 ev20 => ?_)
        have k73 := i2c_eq ev20 (by omega) (by omega)
        refine pv_callvS (M := mX7_readFactor) (as := [.int v20]) (st := []) (kc2 := 0) (ks2 := 0) dX7_readFactor_73 wd572 YJ0_indexOf_0f7a4 ⟨wd573, wd574⟩ rfl (s_J0_indexOf_0f7a4_vx g hT I v20 (by omega) (by omega)) rfl rfl (Nat.le_of_ble_eq_true rfl) (by decide) rfl rfl 76 rfl (fun rv h1 q22 => ?_)
        obtain ⟨v23, rfl, rfl, pv23, qv23, rv23⟩ := q22
        replace rv23 : v23.toInt = nix v20.toInt := rv23
        show PV _ _ _ _ _ _ _ 76 [.ref 86, .int 3, pv_U] [.int v23] _
        have k76 : v23.toInt = nix (tC m (m 86 3).toInt) := by first | (rw [show tC m (m 86 3).toInt = -1 by omega]; decide) | (rw [rv23, k73, k72])
        refine pv_istore_n (M := mX7_readFactor) 2 (lo2 := [.ref 86, .int 3, .int v23]) dX7_readFactor_76 77 rfl rfl (by decide) rfl rfl ?_
        refine pv_iload_n (M := mX7_readFactor) 2 dX7_readFactor_77 78 rfl rfl rfl ?_
        refine pv_if_ge (M := mX7_readFactor) (tgt := 87) dX7_readFactor_78 81 rfl (by decide) (fun c25 => ?_) (fun c25 => ?_)
        · have c25 := iv_le (X := 0) (Y := v23.toInt) c25 (by decide) rfl
          refine pv_aload_n (M := mX7_readFactor) 0 dX7_readFactor_87 88 rfl rfl rfl ?_
          refine mv_get (M := mX7_readFactor) (v := .ref lb) dX7_readFactor_88 FX7 1 wd281 (by decide) (tl86 hT) rfl R.2.2.2.1 91 rfl ?_
          refine pv_bipush (M := mX7_readFactor) (v := 36) dX7_readFactor_91 93 rfl (by decide) ?_
          refine pv_iload_n (M := mX7_readFactor) 2 dX7_readFactor_93 94 rfl rfl rfl ?_
          have z26 : (36 : Int32).toInt = 36 := by decide
          refine pv_callv (M := mX7_readFactor) (as := [.int 36, .int v23]) (st := []) (kc2 := 0) (ks2 := 0) dX7_readFactor_94 wd567 YX6_emit ⟨wd568, wd569⟩ (mk_get R.2.2.2.2.2.2.1) rfl rfl (s_X6_emit_vx g hT I lb R.2.2.2.2.2 36 v23 (by omega) (by omega)) rfl rfl (Nat.le_of_ble_eq_true rfl) (by decide) rfl rfl 97 rfl (fun rv h1 q27 => ?_)
          obtain ⟨m28, n29, rfl, rfl, I30, K31, rm28⟩ := q27
          replace rm28 : (m28 lb 7).toInt = (m lb 7).toInt := rm28
          have K31c := K31
          have w32 : (m28 86 3).toInt = (m 86 3).toInt := congrArg Int32.toInt (K31 86 3 (wr_out (by omega)))
          have w33 : (m28 86 2).toInt = (m 86 2).toInt := congrArg Int32.toInt (K31 86 2 (wr_out (by omega)))
          have w34 : (m28 86 4).toInt = (m 86 4).toInt := congrArg Int32.toInt (K31 86 4 (wr_out (by omega)))
          have K31 := Kp.trans (K31.sub (by first | exact wR7_r (by omega) | exact wR7_wr))
          show PV _ _ _ _ _ _ _ 97 [.ref 86, .int 3, .int v23] [] _
          refine pv_aload_n (M := mX7_readFactor) 0 dX7_readFactor_97 98 rfl rfl rfl ?_
          refine pv_dup (M := mX7_readFactor) dX7_readFactor_98 99 rfl rfl ?_
          refine iv_get (M := mX7_readFactor) (l1 := 0) (l2 := 160) dX7_readFactor_99 FX7 3 wd283 (by decide) (tl86 hT) rfl I30 rfl 102 rfl (fun v35 ev35 pv35 qv35 => ?_)
          have wv35 : v35.toInt = (m28 86 3).toInt := congrArg Int32.toInt ev35
          refine pv_iconst (M := mX7_readFactor) (v := 1) dX7_readFactor_102 103 rfl (by decide) ?_
          refine iv_iadd (M := mX7_readFactor) (X := v35.toInt) (Y := 1) dX7_readFactor_103 104 rfl rfl (by decide) (by omega) (by omega) (fun v36 ev36 => ?_)
          refine iv_put (M := mX7_readFactor) (l1 := 0) (l2 := 160) dX7_readFactor_104 FX7 3 wd283 (by decide) rfl (tl86 hT) rfl rfl rfl I30 rfl (by omega) (by omega) 107 rfl (fun m37 e40 I38 => ?_)
          have K39 := K31.set e40 (by decide)
          have w41 : (m37 86 3).toInt = v36.toInt := by rw [e40, up2_eq]
          have w42 : (m37 86 2).toInt = (m28 86 2).toInt := by rw [e40, up2_ne (by omega)]
          have w43 : (m37 86 4).toInt = (m28 86 4).toInt := by rw [e40, up2_ne (by omega)]
          have w44 : (m37 lb 7).toInt = (m28 lb 7).toInt := by rw [e40, up2_ne (by omega)]
          refine pv_iconst (M := mX7_readFactor) (v := 1) dX7_readFactor_107 108 rfl (by decide) ?_
          have z45 : (1 : Int32).toInt = 1 := by decide
          exact pv_iret (M := mX7_readFactor) dX7_readFactor_108 rfl rfl ⟨_, _, _, rfl, rfl, I38, K39, by decide, by decide, ⟨by omega, by omega, by omega, Or.inl ⟨by decide, by rw [FA_atom kn91, AT_nam kdn (nix_y (by omega)), show (m 86 3).toInt + 1 = (m37 86 3).toInt by omega]⟩, by omega⟩⟩
        · have c25 := iv_nle (X := 0) (Y := v23.toInt) c25 (by decide) rfl
          refine pv_aload_n (M := mX7_readFactor) 0 dX7_readFactor_81 82 rfl rfl rfl ?_
          refine pv_iconst (M := mX7_readFactor) (v := 1) dX7_readFactor_82 83 rfl (by decide) ?_
          have z46 : (1 : Int32).toInt = 1 := by decide
          refine pv_callv (M := mX7_readFactor) (as := [.int 1]) (st := []) (kc2 := 0) (ks2 := 0) dX7_readFactor_83 wd531 YX7_fail ⟨wd533, wd3⟩ (mk_get (tl86 hT)) rfl rfl (s_X7_fail_vx g hT I R 1 (by decide) (by decide) (by first | omega | assumption | exact (iv_rng _).2 | exact (iv_rng _).1 | decide)) rfl rfl (Nat.le_of_ble_eq_true rfl) (by decide) rfl rfl 86 rfl (fun rv h1 q47 => ?_)
          obtain ⟨m48, n49, v52, rfl, rfl, I50, K51, pv52, qv52, rv52⟩ := q47
          replace rv52 : (m 86 3).toInt ≤ (m48 86 3).toInt ∧ (m48 86 3).toInt ≤ (m48 86 2).toInt ∧ (m48 86 2).toInt = (m 86 2).toInt ∧ (v52.toInt = 0 ∧ (m48 86 3).toInt = (m 86 3).toInt ∧ (m48 86 4).toInt = -1000 * (1 : Int) - (m 86 3).toInt) ∧ (m48 lb 7).toInt = (m lb 7).toInt := by have q_ := rv52; (try rw [z46] at q_); exact q_
          have K51c := K51
          have K51 := Kp.trans (K51.sub (fun _ _ q => q))
          show PV _ _ _ _ _ _ _ 86 [.ref 86, .int 3, .int v23] [.int v52] _
          exact pv_iret (M := mX7_readFactor) dX7_readFactor_86 rfl (iv_nz (by omega) (by omega)) ⟨_, _, _, rfl, rfl, I50, K51, by omega, by omega, ⟨by omega, by omega, by omega, Or.inr ⟨by omega, FLT_of (a := 1) (p := (m 86 3).toInt) (by rw [FA_atom kn91]; exact AT_no kdn (nix_no (by omega))) (by decide) (by omega)⟩, by omega⟩⟩
      · have c15 := iv_eq (X := v13.toInt) (Y := (-1)) c15 rfl (by decide)
        refine pv_iconst (M := mX7_readFactor) (v := (-1)) dX7_readFactor_62 63 rfl (by decide) ?_
        refine pv_goto (M := mX7_readFactor) (tgt := 76) dX7_readFactor_63 (by decide) ?_
        have k76 : (-1) = nix (tC m (m 86 3).toInt) := by first | (rw [show tC m (m 86 3).toInt = -1 by omega]; decide) | (rw [rlit, k73, k72])
        refine pv_istore_n (M := mX7_readFactor) 2 (lo2 := [.ref 86, .int 3, .int (-1)]) dX7_readFactor_76 77 rfl rfl (by decide) rfl rfl ?_
        refine pv_iload_n (M := mX7_readFactor) 2 dX7_readFactor_77 78 rfl rfl rfl ?_
        refine pv_if_ge (M := mX7_readFactor) (tgt := 87) dX7_readFactor_78 81 rfl (by decide) (fun q => absurd q (by decide)) (fun _ => ?_)
        refine pv_aload_n (M := mX7_readFactor) 0 dX7_readFactor_81 82 rfl rfl rfl ?_
        refine pv_iconst (M := mX7_readFactor) (v := 1) dX7_readFactor_82 83 rfl (by decide) ?_
        have z55 : (1 : Int32).toInt = 1 := by decide
        refine pv_callv (M := mX7_readFactor) (as := [.int 1]) (st := []) (kc2 := 0) (ks2 := 0) dX7_readFactor_83 wd531 YX7_fail ⟨wd533, wd3⟩ (mk_get (tl86 hT)) rfl rfl (s_X7_fail_vx g hT I R 1 (by decide) (by decide) (by first | omega | assumption | exact (iv_rng _).2 | exact (iv_rng _).1 | decide)) rfl rfl (Nat.le_of_ble_eq_true rfl) (by decide) rfl rfl 86 rfl (fun rv h1 q56 => ?_)
        obtain ⟨m57, n58, v61, rfl, rfl, I59, K60, pv61, qv61, rv61⟩ := q56
        replace rv61 : (m 86 3).toInt ≤ (m57 86 3).toInt ∧ (m57 86 3).toInt ≤ (m57 86 2).toInt ∧ (m57 86 2).toInt = (m 86 2).toInt ∧ (v61.toInt = 0 ∧ (m57 86 3).toInt = (m 86 3).toInt ∧ (m57 86 4).toInt = -1000 * (1 : Int) - (m 86 3).toInt) ∧ (m57 lb 7).toInt = (m lb 7).toInt := by have q_ := rv61; (try rw [z55] at q_); exact q_
        have K60c := K60
        have K60 := Kp.trans (K60.sub (fun _ _ q => q))
        show PV _ _ _ _ _ _ _ 86 [.ref 86, .int 3, .int (-1)] [.int v61] _
        exact pv_iret (M := mX7_readFactor) dX7_readFactor_86 rfl (iv_nz (by omega) (by omega)) ⟨_, _, _, rfl, rfl, I59, K60, by omega, by omega, ⟨by omega, by omega, by omega, Or.inr ⟨by omega, FLT_of (a := 1) (p := (m 86 3).toInt) (by rw [FA_atom kn91]; exact AT_no kdn (nix_no (by omega))) (by decide) (by omega)⟩, by omega⟩⟩
    · have pc10 := rv8.1.resolve_left c10
      have c10 := iv_ne (X := v8.toInt) (Y := 0) c10 rfl (by decide)
      have kd := (k46.resolve_right (fun q => by have q1 := q.1; omega)).2
      refine pv_aload_n (M := mX7_readFactor) 0 dX7_readFactor_49 50 rfl rfl rfl ?_
      refine pv_callv (M := mX7_readFactor) (as := []) (st := []) (kc2 := 0) (ks2 := 0) dX7_readFactor_50 wd563 YX7_readNumber ⟨wd565, wd10⟩ (mk_get (tl86 hT)) rfl rfl (s_X7_readNumber_vx g hT I R (by first | omega | assumption | exact (iv_rng _).2 | exact (iv_rng _).1 | decide)) rfl rfl (Nat.le_of_ble_eq_true rfl) (by decide) rfl rfl 53 rfl (fun rv h1 q63 => ?_)
      obtain ⟨m64, n65, v68, rfl, rfl, I66, K67, pv68, qv68, rv68⟩ := q63
      replace rv68 : (m 86 3).toInt ≤ (m64 86 3).toInt ∧ (m64 86 3).toInt ≤ (m64 86 2).toInt ∧ (m64 86 2).toInt = (m 86 2).toInt ∧ (RSX (nd (tC m) 5 (m 86 3).toInt) v68.toInt (m64 86 3).toInt (m64 86 4).toInt) ∧ (m64 lb 7).toInt = (m lb 7).toInt := rv68
      have K67c := K67
      have K67 := Kp.trans (K67.sub (fun _ _ q => q))
      show PV _ _ _ _ _ _ _ 53 [.ref 86, .int 3, pv_U] [.int v68] _
      have k53 := rv68.2.2.2.1
      exact pv_iret (M := mX7_readFactor) dX7_readFactor_53 rfl (iv_nz (by omega) (by omega)) ⟨_, _, _, rfl, rfl, I66, K67, by omega, by omega, ⟨by omega, by omega, by omega, (by rw [FA_atom kn91, AT_num kd]; exact k53), by omega⟩⟩
  · have c5 := iv_eq (X := v2.toInt) (Y := 91) c5 rfl (by decide)
    have k91 : tC m (m 86 3).toInt = 91 := by omega
    refine pv_aload_n (M := mX7_readFactor) 0 dX7_readFactor_9 10 rfl rfl rfl ?_
    refine pv_iload_n (M := mX7_readFactor) 1 dX7_readFactor_10 11 rfl rfl rfl ?_
    have z71 : (3 : Int32).toInt = 3 := by decide
    refine pv_callv (M := mX7_readFactor) (as := [.int 3]) (st := []) (kc2 := 0) (ks2 := 0) dX7_readFactor_11 wd551 YX7_open ⟨wd553, wd7⟩ (mk_get (tl86 hT)) rfl rfl (s_X7_open_vx g hT I R 3 (by decide) (by decide) (by first | omega | assumption | exact (iv_rng _).2 | exact (iv_rng _).1 | decide)) rfl rfl (Nat.le_of_ble_eq_true rfl) (by decide) rfl rfl 14 rfl (fun rv h1 q72 => ?_)
    obtain ⟨m73, n74, v77, rfl, rfl, I75, K76, pv77, qv77, rv77⟩ := q72
    replace rv77 : (v77 = 0 ∨ (3 : Int) ≤ 5) ∧ (m 86 3).toInt ≤ (m73 86 3).toInt ∧ (m73 86 3).toInt ≤ (m73 86 2).toInt ∧ (m73 86 2).toInt = (m 86 2).toInt ∧ ((v77.toInt = 1 ∧ (3 : Int) ≤ 5 ∧ (m73 86 3).toInt = (m 86 3).toInt + 1) ∨ (v77.toInt = 0 ∧ 6 ≤ (3 : Int) ∧ (m73 86 4).toInt = -5000 - (m 86 3).toInt ∧ (m73 86 3).toInt = (m 86 3).toInt)) ∧ (m73 lb 7).toInt = (m lb 7).toInt := by have q_ := rv77; (try rw [z71] at q_); exact q_
    have K76c := K76
    have K76 := Kp.trans (K76.sub (fun _ _ q => q))
    show PV _ _ _ _ _ _ _ 14 [.ref 86, .int 3, pv_U] [.int v77] _
    refine pv_if_eq (M := mX7_readFactor) (tgt := 40) dX7_readFactor_14 17 rfl (by decide) (fun c78 => ?_) (fun c78 => ?_)
    · have c78 := iv_eq (X := v77.toInt) (Y := 0) c78 rfl (by decide)
      refine pv_iconst (M := mX7_readFactor) (v := 0) dX7_readFactor_40 41 rfl (by decide) ?_
      have z79 : (0 : Int32).toInt = 0 := by decide
      exact pv_iret (M := mX7_readFactor) dX7_readFactor_41 rfl rfl ⟨_, _, _, rfl, rfl, I75, K76, by decide, by decide, ⟨by omega, by omega, by omega, (by first | exact Or.inr ⟨by decide, FX_deep k91 (by omega)⟩ | exact Or.inr ⟨by decide, FX_cn k91 k27 (fun z => by omega) (by omega)⟩ | exact Or.inl ⟨by decide, FX_co k91 k27 (by omega) (by omega)⟩ | exact Or.inr ⟨by decide, FX_sum k91 (RSX_fl k24 (by omega))⟩ | (exfalso; omega)), by omega⟩⟩
    · have pc78 := rv77.1.resolve_left c78
      have c78 := iv_ne (X := v77.toInt) (Y := 0) c78 rfl (by decide)
      have kt17 : tC m73 = tC m := tC_eq (K76 86 2 rfl) (fun j => K76 87 j rfl)
      have kp17 : (m73 86 3).toInt = (m 86 3).toInt + 1 := by omega
      refine pv_aload_n (M := mX7_readFactor) 0 dX7_readFactor_17 18 rfl rfl rfl ?_
      refine pv_iload_n (M := mX7_readFactor) 1 dX7_readFactor_18 19 rfl rfl rfl ?_
      refine pv_iconst (M := mX7_readFactor) (v := 1) dX7_readFactor_19 20 rfl (by decide) ?_
      refine pv_iadd (M := mX7_readFactor) (v := 4) dX7_readFactor_20 21 rfl (by decide) ?_
      have z83 : (4 : Int32).toInt = 4 := by decide
      refine pv_callv (M := mX7_readFactor) (as := [.int 4]) (st := []) (kc2 := 0) (ks2 := 0) dX7_readFactor_21 wd539 YX7_readSum ⟨wd541, wd4⟩ (mk_get (tl86 hT)) rfl rfl (s_X7_readSum_v4x g hT I75 R (by first | omega | assumption | exact (iv_rng _).2 | exact (iv_rng _).1 | decide) (TBC_eq hp1 kt17)) rfl rfl (Nat.le_of_ble_eq_true rfl) (by decide) rfl rfl 24 rfl (fun rv h1 q84 => ?_)
      obtain ⟨m85, n86, v89, rfl, rfl, I87, K88, pv89, qv89, rv89⟩ := q84
      replace rv89 : (m73 86 3).toInt ≤ (m85 86 3).toInt ∧ (m85 86 3).toInt ≤ (m85 86 2).toInt ∧ (m85 86 2).toInt = (m73 86 2).toInt ∧ (RSX (SU (tC m73) 2 (m73 86 3).toInt) v89.toInt (m85 86 3).toInt (m85 86 4).toInt) ∧ (m85 lb 7).toInt = (m73 lb 7).toInt := by have q_ := rv89; (try rw [z83] at q_); exact q_
      have K88c := K88
      have K88 := K76.trans (K88.sub (fun _ _ q => q))
      show PV _ _ _ _ _ _ _ 24 [.ref 86, .int 3, pv_U] [.int v89] _
      have k24 := rv89.2.2.2.1
      rw [kt17, kp17] at k24
      refine pv_if_eq (M := mX7_readFactor) (tgt := 40) dX7_readFactor_24 27 rfl (by decide) (fun c92 => ?_) (fun c92 => ?_)
      · have c92 := iv_eq (X := v89.toInt) (Y := 0) c92 rfl (by decide)
        refine pv_iconst (M := mX7_readFactor) (v := 0) dX7_readFactor_40 41 rfl (by decide) ?_
        have z93 : (0 : Int32).toInt = 0 := by decide
        exact pv_iret (M := mX7_readFactor) dX7_readFactor_41 rfl rfl ⟨_, _, _, rfl, rfl, I87, K88, by decide, by decide, ⟨by omega, by omega, by omega, (by first | exact Or.inr ⟨by decide, FX_deep k91 (by omega)⟩ | exact Or.inr ⟨by decide, FX_cn k91 k27 (fun z => by omega) (by omega)⟩ | exact Or.inl ⟨by decide, FX_co k91 k27 (by omega) (by omega)⟩ | exact Or.inr ⟨by decide, FX_sum k91 (RSX_fl k24 (by omega))⟩ | (exfalso; omega)), by omega⟩⟩
      · have c92 := iv_ne (X := v89.toInt) (Y := 0) c92 rfl (by decide)
        have k27 := RSX_ok k24 (by omega)
        have kt27 : tC m85 = tC m := tC_eq (K88 86 2 rfl) (fun j => K88 87 j rfl)
        refine pv_aload_n (M := mX7_readFactor) 0 dX7_readFactor_27 28 rfl rfl rfl ?_
        refine pv_bipush (M := mX7_readFactor) (v := 93) dX7_readFactor_28 30 rfl (by decide) ?_
        have z96 : (93 : Int32).toInt = 93 := by decide
        refine pv_callv (M := mX7_readFactor) (as := [.int 93]) (st := []) (kc2 := 0) (ks2 := 0) dX7_readFactor_30 wd555 YX7_pass ⟨wd557, wd8⟩ (mk_get (tl86 hT)) rfl rfl (s_X7_pass_vx g hT I87 R 93 (by decide) (by decide) (by first | omega | assumption | exact (iv_rng _).2 | exact (iv_rng _).1 | decide)) rfl rfl (Nat.le_of_ble_eq_true rfl) (by decide) rfl rfl 33 rfl (fun rv h1 q97 => ?_)
        obtain ⟨m98, n99, v102, rfl, rfl, I100, K101, pv102, qv102, rv102⟩ := q97
        replace rv102 : (m85 86 3).toInt ≤ (m98 86 3).toInt ∧ (m98 86 3).toInt ≤ (m98 86 2).toInt ∧ (m98 86 2).toInt = (m85 86 2).toInt ∧ ((v102.toInt = 1 ∧ tC m85 (m85 86 3).toInt = (93 : Int) ∧ (m98 86 3).toInt = (m85 86 3).toInt + 1) ∨ (v102.toInt = 0 ∧ tC m85 (m85 86 3).toInt ≠ (93 : Int) ∧ (m98 86 4).toInt = -1000 - (m85 86 3).toInt ∧ (m98 86 3).toInt = (m85 86 3).toInt)) ∧ (m98 lb 7).toInt = (m85 lb 7).toInt := by have q_ := rv102; (try rw [z96] at q_); exact q_
        have K101c := K101
        have K101 := K88.trans (K101.sub (fun _ _ q => q))
        show PV _ _ _ _ _ _ _ 33 [.ref 86, .int 3, pv_U] [.int v102] _
        have k33 := rv102.2.2.2.1
        rw [kt27] at k33
        refine pv_if_eq (M := mX7_readFactor) (tgt := 40) dX7_readFactor_33 36 rfl (by decide) (fun c105 => ?_) (fun c105 => ?_)
        · have c105 := iv_eq (X := v102.toInt) (Y := 0) c105 rfl (by decide)
          refine pv_iconst (M := mX7_readFactor) (v := 0) dX7_readFactor_40 41 rfl (by decide) ?_
          have z106 : (0 : Int32).toInt = 0 := by decide
          exact pv_iret (M := mX7_readFactor) dX7_readFactor_41 rfl rfl ⟨_, _, _, rfl, rfl, I100, K101, by decide, by decide, ⟨by omega, by omega, by omega, (by first | exact Or.inr ⟨by decide, FX_deep k91 (by omega)⟩ | exact Or.inr ⟨by decide, FX_cn k91 k27 (fun z => by omega) (by omega)⟩ | exact Or.inl ⟨by decide, FX_co k91 k27 (by omega) (by omega)⟩ | exact Or.inr ⟨by decide, FX_sum k91 (RSX_fl k24 (by omega))⟩ | (exfalso; omega)), by omega⟩⟩
        · have c105 := iv_ne (X := v102.toInt) (Y := 0) c105 rfl (by decide)
          refine pv_iconst (M := mX7_readFactor) (v := 1) dX7_readFactor_36 37 rfl (by decide) ?_
          refine pv_goto (M := mX7_readFactor) (tgt := 41) dX7_readFactor_37 (by decide) ?_
          have z107 : (1 : Int32).toInt = 1 := by decide
          exact pv_iret (M := mX7_readFactor) dX7_readFactor_41 rfl rfl ⟨_, _, _, rfl, rfl, I100, K101, by decide, by decide, ⟨by omega, by omega, by omega, (by first | exact Or.inr ⟨by decide, FX_deep k91 (by omega)⟩ | exact Or.inr ⟨by decide, FX_cn k91 k27 (fun z => by omega) (by omega)⟩ | exact Or.inl ⟨by decide, FX_co k91 k27 (by omega) (by omega)⟩ | exact Or.inr ⟨by decide, FX_sum k91 (RSX_fl k24 (by omega))⟩ | (exfalso; omega)), by omega⟩⟩

set_option maxHeartbeats 2000000 in
set_option maxRecDepth 20000 in
theorem s_X7_readTerm_v3x (g : pv_G) {T : List mv_T} {m : Nat → Nat → Int32} {n : Nat → Nat → Int64} {r : Nat → Value} {la lb : Nat} (hT : TX T) (I : IV BB m) (R : RX T r la lb) (hp0 : (m 86 3).toInt ≤ (m 86 2).toInt) (hp1 : TBC m) : PM g mX7_readTerm yX7_readTerm (sqI T BB wR7 r m 0 1 (fun m' v => (m 86 3).toInt ≤ (m' 86 3).toInt ∧ (m' 86 3).toInt ≤ (m' 86 2).toInt ∧ (m' 86 2).toInt = (m 86 2).toInt ∧ ((v.toInt = 0 ∨ (m 86 3).toInt + 1 ≤ (m' 86 3).toInt) ∧ TRX (SU (tC m) 3 (m 86 3).toInt) (LSu (tC m) 3) (fun a => isT (tC m a) = false) v.toInt (m' 86 3).toInt (m' 86 4).toInt) ∧ (m' lb 7).toInt = (m lb 7).toInt)) 15 0 0 [.ref 86, .int 3] (mk T m n r) := by
  have Kp : fr wR7 m m := fr.rf
  have R0 := R
  have zR := R.2.2.2.2.1.1
  have zR2 := R.2.2.2.2.2.1
  have z84 : 0 ≤ (m 86 3).toInt ∧ (m 86 3).toInt ≤ 160 := I 86 3
  have z85 : 0 ≤ (m 86 2).toInt ∧ (m 86 2).toInt ≤ 160 := I 86 2
  refine PM.of 2 (lo := [.ref 86, .int 3, pv_U, pv_U]) rfl (by decide) rfl rfl (Nat.le_of_ble_eq_true rfl) ?_
  have kTX := TXT_C I
  refine pv_aload_n (M := mX7_readTerm) 0 dX7_readTerm_0 1 rfl rfl rfl ?_
  refine pv_iload_n (M := mX7_readTerm) 1 dX7_readTerm_1 2 rfl rfl rfl ?_
  have z2 : (3 : Int32).toInt = 3 := by decide
  refine pv_callv (M := mX7_readTerm) (as := [.int 3]) (st := []) (kc2 := 0) (ks2 := 0) dX7_readTerm_2 wd547 YX7_readFactor ⟨wd549, wd6⟩ (mk_get (tl86 hT)) rfl rfl (s_X7_readFactor_v3x g hT I R (by first | omega | assumption | exact (iv_rng _).2 | exact (iv_rng _).1 | decide) hp1) rfl rfl (Nat.le_of_ble_eq_true rfl) (by decide) rfl rfl 5 rfl (fun rv h1 q3 => ?_)
  obtain ⟨m4, n5, v8, rfl, rfl, I6, K7, pv8, qv8, rv8⟩ := q3
  replace rv8 : (m 86 3).toInt ≤ (m4 86 3).toInt ∧ (m4 86 3).toInt ≤ (m4 86 2).toInt ∧ (m4 86 2).toInt = (m 86 2).toInt ∧ (RSX (FA (tC m) 3 (m 86 3).toInt) v8.toInt (m4 86 3).toInt (m4 86 4).toInt) ∧ (m4 lb 7).toInt = (m lb 7).toInt := by have q_ := rv8; (try rw [z2] at q_); exact q_
  have K7c := K7
  have K7 := Kp.trans (K7.sub (fun _ _ q => q))
  show PV _ _ _ _ _ _ _ 5 [.ref 86, .int 3, pv_U, pv_U] [.int v8] _
  have k5 := rv8.2.2.2.1
  refine pv_if_ne (M := mX7_readTerm) (tgt := 10) dX7_readTerm_5 8 rfl (by decide) (fun c10 => ?_) (fun c10 => ?_)
  · have c10 := iv_ne (X := v8.toInt) (Y := 0) c10 rfl (by decide)
    have kF0 := RSX_ok k5 (by omega)
    have kF1 := FA_le 3 (m 86 3).toInt (by rw [kF0])
    rw [kF0] at kF1
    refine pv_iconst (M := mX7_readTerm) (v := 0) dX7_readTerm_10 11 rfl (by decide) ?_
    refine pv_istore_n (M := mX7_readTerm) 2 (lo2 := [.ref 86, .int 3, .int 0, pv_U]) dX7_readTerm_11 12 rfl rfl (by decide) rfl rfl ?_
    have lp20 : ∀ (fuel19 : Nat) (y14 : Int32) (m15 : Nat → Nat → Int32) (n16 : Nat → Nat → Int64), (0 ≤ y14.toInt) → (y14.toInt ≤ 160) → ((m15 86 3).toInt ≤ (m15 86 2).toInt) → ((m15 86 2).toInt = (m 86 2).toInt) → ((m15 lb 7).toInt = (m lb 7).toInt) → ((m 86 3).toInt + 1 + 2 * y14.toInt ≤ (m15 86 3).toInt) → (SU (tC m) 3 (m 86 3).toInt = LSu (tC m) 3 (m15 86 3).toInt) → IV BB m15 → fr wR7 m m15 → ((160 - y14.toInt) : Int).toNat < fuel19 → PV none g mX7_readTerm (sqI T BB wR7 r m 0 1 (fun m' v => (m 86 3).toInt ≤ (m' 86 3).toInt ∧ (m' 86 3).toInt ≤ (m' 86 2).toInt ∧ (m' 86 2).toInt = (m 86 2).toInt ∧ ((v.toInt = 0 ∨ (m 86 3).toInt + 1 ≤ (m' 86 3).toInt) ∧ TRX (SU (tC m) 3 (m 86 3).toInt) (LSu (tC m) 3) (fun a => isT (tC m a) = false) v.toInt (m' 86 3).toInt (m' 86 4).toInt) ∧ (m' lb 7).toInt = (m lb 7).toInt)) 15 0 0 12 [.ref 86, .int 3, .int y14, pv_U] [] (mk T m15 n16 r) := by
      intro fuel19
      induction fuel19 with
      | zero => intro y14 m15 n16 b22 b23 b24 b25 b26 b27 b28 I17 K18 z29; omega
      | succ fuel19 ih21 =>
        intro y14 m15 n16 b22 b23 b24 b25 b26 b27 b28 I17 K18 z29
        have z30 : 0 ≤ (m15 86 3).toInt ∧ (m15 86 3).toInt ≤ 160 := I17 86 3
        have z31 : 0 ≤ (m15 86 2).toInt ∧ (m15 86 2).toInt ≤ 160 := I17 86 2
        have kgs := (show SU (tC m) 3 (m 86 3).toInt = LSu (tC m) 3 (m15 86 3).toInt by assumption)
        have kt12 : tC m15 = tC m := tC_eq (K18 86 2 rfl) (fun j => K18 87 j rfl)
        refine pv_iload_n (M := mX7_readTerm) 2 dX7_readTerm_12 13 rfl rfl rfl ?_
        refine pv_sipush (M := mX7_readTerm) (v := 160) dX7_readTerm_13 16 rfl (by decide) ?_
        refine pv_icmp_ge (M := mX7_readTerm) (tgt := 66) dX7_readTerm_16 19 rfl (by decide) (fun c34 => ?_) (fun c34 => ?_)
        · have c34 := iv_le (X := 160) (Y := y14.toInt) c34 (by decide) rfl
          refine pv_iconst (M := mX7_readTerm) (v := 1) dX7_readTerm_66 67 rfl (by decide) ?_
          have z35 : (1 : Int32).toInt = 1 := by decide
          exact pv_iret (M := mX7_readTerm) dX7_readTerm_67 rfl rfl ⟨_, _, _, rfl, rfl, I17, K18, by decide, by decide, ⟨by omega, by omega, by omega, ⟨Or.inr (by omega), Or.inl ⟨by decide, kgs, by first | (exact (k23.resolve_left (fun q => by have q1 := q.1; omega)).2) | (exfalso; omega)⟩⟩, by omega⟩⟩
        · have c34 := iv_nle (X := 160) (Y := y14.toInt) c34 (by decide) rfl
          refine pv_aload_n (M := mX7_readTerm) 0 dX7_readTerm_19 20 rfl rfl rfl ?_
          refine pv_callv (M := mX7_readTerm) (as := []) (st := []) (kc2 := 0) (ks2 := 0) dX7_readTerm_20 wd654 YX7_timesAhead ⟨wd656, wd11⟩ (mk_get (tl86 hT)) rfl rfl (s_X7_timesAhead_vx g hT I17 R) rfl rfl (Nat.le_of_ble_eq_true rfl) (by decide) rfl rfl 23 rfl (fun rv h1 q36 => ?_)
          obtain ⟨v37, rfl, rfl, pv37, qv37, rv37⟩ := q36
          replace rv37 : (v37 = 0 ∨ (m15 86 3).toInt < (m15 86 2).toInt) ∧ ((v37.toInt = 1 ∧ isT (tC m15 (m15 86 3).toInt) = true) ∨ (v37.toInt = 0 ∧ isT (tC m15 (m15 86 3).toInt) = false)) := rv37
          show PV _ _ _ _ _ _ _ 23 [.ref 86, .int 3, .int y14, pv_U] [.int v37] _
          have k23 := rv37.2
          rw [kt12] at k23
          refine pv_if_eq (M := mX7_readTerm) (tgt := 66) dX7_readTerm_23 26 rfl (by decide) (fun c40 => ?_) (fun c40 => ?_)
          · have c40 := iv_eq (X := v37.toInt) (Y := 0) c40 rfl (by decide)
            refine pv_iconst (M := mX7_readTerm) (v := 1) dX7_readTerm_66 67 rfl (by decide) ?_
            have z41 : (1 : Int32).toInt = 1 := by decide
            exact pv_iret (M := mX7_readTerm) dX7_readTerm_67 rfl rfl ⟨_, _, _, rfl, rfl, I17, K18, by decide, by decide, ⟨by omega, by omega, by omega, ⟨Or.inr (by omega), Or.inl ⟨by decide, kgs, by first | (exact (k23.resolve_left (fun q => by have q1 := q.1; omega)).2) | (exfalso; omega)⟩⟩, by omega⟩⟩
          · have pc40 := rv37.1.resolve_left c40
            have c40 := iv_ne (X := v37.toInt) (Y := 0) c40 rfl (by decide)
            have kT := (k23.resolve_right (fun q => by have q1 := q.1; omega)).2
            refine pv_aload_n (M := mX7_readTerm) 0 dX7_readTerm_26 27 rfl rfl rfl ?_
            refine pv_callv (M := mX7_readTerm) (as := []) (st := []) (kc2 := 0) (ks2 := 0) dX7_readTerm_27 wd527 YX7_peek ⟨wd529, wd2⟩ (mk_get (tl86 hT)) rfl rfl (s_X7_peek_vx g hT I17 R) rfl rfl (Nat.le_of_ble_eq_true rfl) (by decide) rfl rfl 30 rfl (fun rv h1 q43 => ?_)
            obtain ⟨v44, rfl, rfl, pv44, qv44, rv44⟩ := q43
            replace rv44 : v44.toInt = tC m15 (m15 86 3).toInt ∧ (v44.toInt = -1 ∨ (m15 86 3).toInt < (m15 86 2).toInt) := rv44
            show PV _ _ _ _ _ _ _ 30 [.ref 86, .int 3, .int y14, pv_U] [.int v44] _
            refine pv_istore_n (M := mX7_readTerm) 3 (lo2 := [.ref 86, .int 3, .int y14, .int v44]) dX7_readTerm_30 31 rfl rfl (by decide) rfl rfl ?_
            refine pv_aload_n (M := mX7_readTerm) 0 dX7_readTerm_31 32 rfl rfl rfl ?_
            refine pv_dup (M := mX7_readTerm) dX7_readTerm_32 33 rfl rfl ?_
            refine iv_get (M := mX7_readTerm) (l1 := 0) (l2 := 160) dX7_readTerm_33 FX7 3 wd283 (by decide) (tl86 hT) rfl I17 rfl 36 rfl (fun v45 ev45 pv45 qv45 => ?_)
            have wv45 : v45.toInt = (m15 86 3).toInt := congrArg Int32.toInt ev45
            refine pv_iconst (M := mX7_readTerm) (v := 1) dX7_readTerm_36 37 rfl (by decide) ?_
            refine iv_iadd (M := mX7_readTerm) (X := v45.toInt) (Y := 1) dX7_readTerm_37 38 rfl rfl (by decide) (by omega) (by omega) (fun v46 ev46 => ?_)
            refine iv_put (M := mX7_readTerm) (l1 := 0) (l2 := 160) dX7_readTerm_38 FX7 3 wd283 (by decide) rfl (tl86 hT) rfl rfl rfl I17 rfl (by omega) (by omega) 41 rfl (fun m47 e50 I48 => ?_)
            have K49 := K18.set e50 (by decide)
            have w51 : (m47 86 3).toInt = v46.toInt := by rw [e50, up2_eq]
            have w52 : (m47 86 2).toInt = (m15 86 2).toInt := by rw [e50, up2_ne (by omega)]
            have w53 : (m47 86 4).toInt = (m15 86 4).toInt := by rw [e50, up2_ne (by omega)]
            have w54 : (m47 lb 7).toInt = (m15 lb 7).toInt := by rw [e50, up2_ne (by omega)]
            have kt41 : tC m47 = tC m := tC_eq (K49 86 2 rfl) (fun j => K49 87 j rfl)
            have kp41 : (m47 86 3).toInt = (m15 86 3).toInt + 1 := by omega
            refine pv_aload_n (M := mX7_readTerm) 0 dX7_readTerm_41 42 rfl rfl rfl ?_
            refine pv_iload_n (M := mX7_readTerm) 1 dX7_readTerm_42 43 rfl rfl rfl ?_
            have z57 : (3 : Int32).toInt = 3 := by decide
            refine pv_callv (M := mX7_readTerm) (as := [.int 3]) (st := []) (kc2 := 0) (ks2 := 0) dX7_readTerm_43 wd547 YX7_readFactor ⟨wd549, wd6⟩ (mk_get (tl86 hT)) rfl rfl (s_X7_readFactor_v3x g hT I48 R (by first | omega | assumption | exact (iv_rng _).2 | exact (iv_rng _).1 | decide) (TBC_eq hp1 kt41)) rfl rfl (Nat.le_of_ble_eq_true rfl) (by decide) rfl rfl 46 rfl (fun rv h1 q58 => ?_)
            obtain ⟨m59, n60, v63, rfl, rfl, I61, K62, pv63, qv63, rv63⟩ := q58
            replace rv63 : (m47 86 3).toInt ≤ (m59 86 3).toInt ∧ (m59 86 3).toInt ≤ (m59 86 2).toInt ∧ (m59 86 2).toInt = (m47 86 2).toInt ∧ (RSX (FA (tC m47) 3 (m47 86 3).toInt) v63.toInt (m59 86 3).toInt (m59 86 4).toInt) ∧ (m59 lb 7).toInt = (m47 lb 7).toInt := by have q_ := rv63; (try rw [z57] at q_); exact q_
            have K62c := K62
            have K62 := K49.trans (K62.sub (fun _ _ q => q))
            show PV _ _ _ _ _ _ _ 46 [.ref 86, .int 3, .int y14, .int v44] [.int v63] _
            have k46 := rv63.2.2.2.1
            rw [kt41, kp41] at k46
            refine pv_if_ne (M := mX7_readTerm) (tgt := 51) dX7_readTerm_46 49 rfl (by decide) (fun c66 => ?_) (fun c66 => ?_)
            · have c66 := iv_ne (X := v63.toInt) (Y := 0) c66 rfl (by decide)
              have kF4 := RSX_ok k46 (by omega)
              have kF5 := FA_le 3 ((m15 86 3).toInt + 1) (by rw [kF4])
              rw [kF4] at kF5
              refine pv_aload_n (M := mX7_readTerm) 0 dX7_readTerm_51 52 rfl rfl rfl ?_
              refine mv_get (M := mX7_readTerm) (v := .ref lb) dX7_readTerm_52 FX7 1 wd281 (by decide) (tl86 hT) rfl R.2.2.2.1 55 rfl ?_
              refine pv_iload_n (M := mX7_readTerm) 3 dX7_readTerm_55 56 rfl rfl rfl ?_
              refine pv_iconst (M := mX7_readTerm) (v := 0) dX7_readTerm_56 57 rfl (by decide) ?_
              have z70 : (0 : Int32).toInt = 0 := by decide
              refine pv_callv (M := mX7_readTerm) (as := [.int v44, .int 0]) (st := []) (kc2 := 0) (ks2 := 0) dX7_readTerm_57 wd567 YX6_emit ⟨wd568, wd569⟩ (mk_get R.2.2.2.2.2.2.1) rfl rfl (s_X6_emit_vx g hT I61 lb R.2.2.2.2.2 v44 0 (by decide) (by decide)) rfl rfl (Nat.le_of_ble_eq_true rfl) (by decide) rfl rfl 60 rfl (fun rv h1 q71 => ?_)
              obtain ⟨m72, n73, rfl, rfl, I74, K75, rm72⟩ := q71
              replace rm72 : (m72 lb 7).toInt = (m59 lb 7).toInt := rm72
              have K75c := K75
              have w76 : (m72 86 3).toInt = (m59 86 3).toInt := congrArg Int32.toInt (K75 86 3 (wr_out (by omega)))
              have w77 : (m72 86 2).toInt = (m59 86 2).toInt := congrArg Int32.toInt (K75 86 2 (wr_out (by omega)))
              have w78 : (m72 86 4).toInt = (m59 86 4).toInt := congrArg Int32.toInt (K75 86 4 (wr_out (by omega)))
              have K75 := K62.trans (K75.sub (by first | exact wR7_r (by omega) | exact wR7_wr))
              show PV _ _ _ _ _ _ _ 60 [.ref 86, .int 3, .int y14, .int v44] [] _
              refine iv_inc (M := mX7_readTerm) (C := 1) dX7_readTerm_60 63 rfl rfl (by decide) rfl rfl (by decide) (by omega) (by omega) (fun v79 ev79 => ?_)
              show PV _ _ _ _ _ _ _ 63 [.ref 86, .int 3, .int v79, .int v44] [] _
              refine pv_goto (M := mX7_readTerm) (tgt := 12) dX7_readTerm_63 (by decide) ?_
              refine pv_fg (lo2 := [.ref 86, .int 3, .int v79, pv_U]) ⟨Or.inr rfl, ⟨Or.inr rfl, ⟨Or.inr rfl, ⟨Or.inl rfl, trivial⟩⟩⟩⟩ ?_
              have kbs : SU (tC m) 3 (m 86 3).toInt = LSu (tC m) 3 (m72 86 3).toInt := by rw [kgs, LSu_ok kTX (by omega) (isT_S kT) kF4]; congr 1; omega
              exact ih21 v79 m72 n73 (by first | omega | assumption | exact (iv_rng _).2 | exact (iv_rng _).1 | decide) (by first | omega | assumption | exact (iv_rng _).2 | exact (iv_rng _).1 | decide) (by first | omega | assumption | (show (m72 86 3).toInt ≤ (m72 86 2).toInt; omega) | decide) (by first | omega | assumption | (show (m72 86 2).toInt = (m 86 2).toInt; omega) | decide) (by first | omega | assumption | (show (m72 lb 7).toInt = (m lb 7).toInt; omega) | decide) (by first | omega | assumption | (show (m 86 3).toInt + 1 + 2 * v79.toInt ≤ (m72 86 3).toInt; omega) | decide) kbs I74 K75 (by omega)
            · have c66 := iv_eq (X := v63.toInt) (Y := 0) c66 rfl (by decide)
              refine pv_iconst (M := mX7_readTerm) (v := 0) dX7_readTerm_49 50 rfl (by decide) ?_
              have z81 : (0 : Int32).toInt = 0 := by decide
              exact pv_iret (M := mX7_readTerm) dX7_readTerm_50 rfl rfl ⟨_, _, _, rfl, rfl, I61, K62, by decide, by decide, ⟨by omega, by omega, by omega, ⟨Or.inl (by decide), Or.inr ⟨by decide, by rw [kgs]; exact LSu_fl kTX (by omega) (isT_S kT) (RSX_fl k46 (by omega))⟩⟩, by omega⟩⟩
    have z82 : (0 : Int32).toInt = 0 := by decide
    exact lp20 (((160 - 0) : Int).toNat + 1) 0 m4 n5 (by first | omega | assumption | exact (iv_rng _).2 | exact (iv_rng _).1 | decide) (by first | omega | assumption | exact (iv_rng _).2 | exact (iv_rng _).1 | decide) (by first | omega | assumption | (show (m4 86 3).toInt ≤ (m4 86 2).toInt; omega) | decide) (by first | omega | assumption | (show (m4 86 2).toInt = (m 86 2).toInt; omega) | decide) (by first | omega | assumption | (show (m4 lb 7).toInt = (m lb 7).toInt; omega) | decide) (by first | omega | assumption | (show (m 86 3).toInt + 1 + 2 * 0 ≤ (m4 86 3).toInt; omega) | decide) (SU_ok kF0) I6 K7 (by omega)
  · have c10 := iv_eq (X := v8.toInt) (Y := 0) c10 rfl (by decide)
    refine pv_iconst (M := mX7_readTerm) (v := 0) dX7_readTerm_8 9 rfl (by decide) ?_
    have z83 : (0 : Int32).toInt = 0 := by decide
    exact pv_iret (M := mX7_readTerm) dX7_readTerm_9 rfl rfl ⟨_, _, _, rfl, rfl, I6, K7, by decide, by decide, ⟨by omega, by omega, by omega, ⟨Or.inl (by decide), Or.inr ⟨by decide, SU_fl (RSX_fl k5 (by omega))⟩⟩, by omega⟩⟩

set_option maxHeartbeats 2000000 in
set_option maxRecDepth 20000 in
theorem s_X7_readSum_v3x (g : pv_G) {T : List mv_T} {m : Nat → Nat → Int32} {n : Nat → Nat → Int64} {r : Nat → Value} {la lb : Nat} (hT : TX T) (I : IV BB m) (R : RX T r la lb) (hp0 : (m 86 3).toInt ≤ (m 86 2).toInt) (hp1 : TBC m) : PM g mX7_readSum yX7_readSum (sqI T BB wR7 r m 0 1 (fun m' v => (m 86 3).toInt ≤ (m' 86 3).toInt ∧ (m' 86 3).toInt ≤ (m' 86 2).toInt ∧ (m' 86 2).toInt = (m 86 2).toInt ∧ (RSX (SU (tC m) 3 (m 86 3).toInt) v.toInt (m' 86 3).toInt (m' 86 4).toInt) ∧ (m' lb 7).toInt = (m lb 7).toInt)) 16 0 0 [.ref 86, .int 3] (mk T m n r) := by
  have Kp : fr wR7 m m := fr.rf
  have R0 := R
  have zR := R.2.2.2.2.1.1
  have zR2 := R.2.2.2.2.2.1
  have z133 : 0 ≤ (m 86 3).toInt ∧ (m 86 3).toInt ≤ 160 := I 86 3
  have z134 : 0 ≤ (m 86 2).toInt ∧ (m 86 2).toInt ≤ 160 := I 86 2
  refine PM.of 2 (lo := [.ref 86, .int 3, pv_U, pv_U]) rfl (by decide) rfl rfl (Nat.le_of_ble_eq_true rfl) ?_
  have kTX := TXT_C I
  refine pv_aload_n (M := mX7_readSum) 0 dX7_readSum_0 1 rfl rfl rfl ?_
  refine pv_iload_n (M := mX7_readSum) 1 dX7_readSum_1 2 rfl rfl rfl ?_
  have z2 : (3 : Int32).toInt = 3 := by decide
  refine pv_callv (M := mX7_readSum) (as := [.int 3]) (st := []) (kc2 := 0) (ks2 := 0) dX7_readSum_2 wd543 YX7_readTerm ⟨wd545, wd5⟩ (mk_get (tl86 hT)) rfl rfl (s_X7_readTerm_v3x g hT I R (by first | omega | assumption | exact (iv_rng _).2 | exact (iv_rng _).1 | decide) hp1) rfl rfl (Nat.le_of_ble_eq_true rfl) (by decide) rfl rfl 5 rfl (fun rv h1 q3 => ?_)
  obtain ⟨m4, n5, v8, rfl, rfl, I6, K7, pv8, qv8, rv8⟩ := q3
  replace rv8 : (m 86 3).toInt ≤ (m4 86 3).toInt ∧ (m4 86 3).toInt ≤ (m4 86 2).toInt ∧ (m4 86 2).toInt = (m 86 2).toInt ∧ ((v8.toInt = 0 ∨ (m 86 3).toInt + 1 ≤ (m4 86 3).toInt) ∧ TRX (SU (tC m) 3 (m 86 3).toInt) (LSu (tC m) 3) (fun a => isT (tC m a) = false) v8.toInt (m4 86 3).toInt (m4 86 4).toInt) ∧ (m4 lb 7).toInt = (m lb 7).toInt := by have q_ := rv8; (try rw [z2] at q_); exact q_
  have K7c := K7
  have K7 := Kp.trans (K7.sub (fun _ _ q => q))
  show PV _ _ _ _ _ _ _ 5 [.ref 86, .int 3, pv_U, pv_U] [.int v8] _
  have k5 := rv8.2.2.2.1.2
  have k5p := rv8.2.2.2.1.1
  refine pv_if_ne (M := mX7_readSum) (tgt := 10) dX7_readSum_5 8 rfl (by decide) (fun c11 => ?_) (fun c11 => ?_)
  · have c11 := iv_ne (X := v8.toInt) (Y := 0) c11 rfl (by decide)
    refine pv_iconst (M := mX7_readSum) (v := 0) dX7_readSum_10 11 rfl (by decide) ?_
    refine pv_istore_n (M := mX7_readSum) 2 (lo2 := [.ref 86, .int 3, .int 0, pv_U]) dX7_readSum_11 12 rfl rfl (by decide) rfl rfl ?_
    have lp18 : ∀ (fuel17 : Nat) (y12 : Int32) (m13 : Nat → Nat → Int32) (n14 : Nat → Nat → Int64), (0 ≤ y12.toInt) → (y12.toInt ≤ 160) → ((m13 86 3).toInt ≤ (m13 86 2).toInt) → ((m13 86 2).toInt = (m 86 2).toInt) → ((m13 lb 7).toInt = (m lb 7).toInt) → ((m 86 3).toInt + 1 + 2 * y12.toInt ≤ (m13 86 3).toInt) → (SU (tC m) 3 (m 86 3).toInt = LSu (tC m) 3 (m13 86 3).toInt) → (isT (tC m (m13 86 3).toInt) = false) → IV BB m13 → fr wR7 m m13 → ((160 - y12.toInt) : Int).toNat < fuel17 → PV none g mX7_readSum (sqI T BB wR7 r m 0 1 (fun m' v => (m 86 3).toInt ≤ (m' 86 3).toInt ∧ (m' 86 3).toInt ≤ (m' 86 2).toInt ∧ (m' 86 2).toInt = (m 86 2).toInt ∧ (RSX (SU (tC m) 3 (m 86 3).toInt) v.toInt (m' 86 3).toInt (m' 86 4).toInt) ∧ (m' lb 7).toInt = (m lb 7).toInt)) 16 0 0 12 [.ref 86, .int 3, .int y12, pv_U] [] (mk T m13 n14 r) := by
      intro fuel17
      induction fuel17 with
      | zero => intro y12 m13 n14 b20 b21 b22 b23 b24 b25 b26 b27 I15 K16 z28; omega
      | succ fuel17 ih19 =>
        intro y12 m13 n14 b20 b21 b22 b23 b24 b25 b26 b27 I15 K16 z28
        have z29 : 0 ≤ (m13 86 3).toInt ∧ (m13 86 3).toInt ≤ 160 := I15 86 3
        have z30 : 0 ≤ (m13 86 2).toInt ∧ (m13 86 2).toInt ≤ 160 := I15 86 2
        have kgs := (show SU (tC m) 3 (m 86 3).toInt = LSu (tC m) 3 (m13 86 3).toInt by assumption)
        have kgt := (show isT (tC m (m13 86 3).toInt) = false by assumption)
        have kt12 : tC m13 = tC m := tC_eq (K16 86 2 rfl) (fun j => K16 87 j rfl)
        refine pv_iload_n (M := mX7_readSum) 2 dX7_readSum_12 13 rfl rfl rfl ?_
        refine pv_sipush (M := mX7_readSum) (v := 160) dX7_readSum_13 16 rfl (by decide) ?_
        refine pv_icmp_ge (M := mX7_readSum) (tgt := 77) dX7_readSum_16 19 rfl (by decide) (fun c34 => ?_) (fun c34 => ?_)
        · have c34 := iv_le (X := 160) (Y := y12.toInt) c34 (by decide) rfl
          refine pv_iconst (M := mX7_readSum) (v := 1) dX7_readSum_77 78 rfl (by decide) ?_
          have z35 : (1 : Int32).toInt = 1 := by decide
          exact pv_iret (M := mX7_readSum) dX7_readSum_78 rfl rfl ⟨_, _, _, rfl, rfl, I15, K16, by decide, by decide, ⟨by omega, by omega, by omega, (by first | exact Or.inl ⟨by decide, by rw [kgs]; exact LSu_no (isS_n kgt (by omega) (by omega))⟩ | (exfalso; omega)), by omega⟩⟩
        · have c34 := iv_nle (X := 160) (Y := y12.toInt) c34 (by decide) rfl
          refine pv_aload_n (M := mX7_readSum) 0 dX7_readSum_19 20 rfl rfl rfl ?_
          refine pv_callv (M := mX7_readSum) (as := []) (st := []) (kc2 := 0) (ks2 := 0) dX7_readSum_20 wd527 YX7_peek ⟨wd529, wd2⟩ (mk_get (tl86 hT)) rfl rfl (s_X7_peek_vx g hT I15 R) rfl rfl (Nat.le_of_ble_eq_true rfl) (by decide) rfl rfl 23 rfl (fun rv h1 q36 => ?_)
          obtain ⟨v37, rfl, rfl, pv37, qv37, rv37⟩ := q36
          replace rv37 : v37.toInt = tC m13 (m13 86 3).toInt ∧ (v37.toInt = -1 ∨ (m13 86 3).toInt < (m13 86 2).toInt) := rv37
          show PV _ _ _ _ _ _ _ 23 [.ref 86, .int 3, .int y12, pv_U] [.int v37] _
          have k23 := rv37.1
          have k23b := rv37.2
          rw [kt12] at k23
          refine pv_bipush (M := mX7_readSum) (v := 43) dX7_readSum_23 25 rfl (by decide) ?_
          refine pv_icmp_eq (M := mX7_readSum) (tgt := 37) dX7_readSum_25 28 rfl (by decide) (fun c41 => ?_) (fun c41 => ?_)
          · have c41 := iv_eq (X := v37.toInt) (Y := 43) c41 rfl (by decide)
            have kS : isS (tC m (m13 86 3).toInt) = true := isS_y (by omega)
            refine pv_aload_n (M := mX7_readSum) 0 dX7_readSum_37 38 rfl rfl rfl ?_
            refine pv_callv (M := mX7_readSum) (as := []) (st := []) (kc2 := 0) (ks2 := 0) dX7_readSum_38 wd527 YX7_peek ⟨wd529, wd2⟩ (mk_get (tl86 hT)) rfl rfl (s_X7_peek_vx g hT I15 R) rfl rfl (Nat.le_of_ble_eq_true rfl) (by decide) rfl rfl 41 rfl (fun rv h1 q43 => ?_)
            obtain ⟨v44, rfl, rfl, pv44, qv44, rv44⟩ := q43
            replace rv44 : v44.toInt = tC m13 (m13 86 3).toInt ∧ (v44.toInt = -1 ∨ (m13 86 3).toInt < (m13 86 2).toInt) := rv44
            show PV _ _ _ _ _ _ _ 41 [.ref 86, .int 3, .int y12, pv_U] [.int v44] _
            refine pv_istore_n (M := mX7_readSum) 3 (lo2 := [.ref 86, .int 3, .int y12, .int v44]) dX7_readSum_41 42 rfl rfl (by decide) rfl rfl ?_
            refine pv_aload_n (M := mX7_readSum) 0 dX7_readSum_42 43 rfl rfl rfl ?_
            refine pv_dup (M := mX7_readSum) dX7_readSum_43 44 rfl rfl ?_
            refine iv_get (M := mX7_readSum) (l1 := 0) (l2 := 160) dX7_readSum_44 FX7 3 wd283 (by decide) (tl86 hT) rfl I15 rfl 47 rfl (fun v45 ev45 pv45 qv45 => ?_)
            have wv45 : v45.toInt = (m13 86 3).toInt := congrArg Int32.toInt ev45
            refine pv_iconst (M := mX7_readSum) (v := 1) dX7_readSum_47 48 rfl (by decide) ?_
            refine iv_iadd (M := mX7_readSum) (X := v45.toInt) (Y := 1) dX7_readSum_48 49 rfl rfl (by decide) (by omega) (by omega) (fun v46 ev46 => ?_)
            refine iv_put (M := mX7_readSum) (l1 := 0) (l2 := 160) dX7_readSum_49 FX7 3 wd283 (by decide) rfl (tl86 hT) rfl rfl rfl I15 rfl (by omega) (by omega) 52 rfl (fun m47 e50 I48 => ?_)
            have K49 := K16.set e50 (by decide)
            have w51 : (m47 86 3).toInt = v46.toInt := by rw [e50, up2_eq]
            have w52 : (m47 86 2).toInt = (m13 86 2).toInt := by rw [e50, up2_ne (by omega)]
            have w53 : (m47 86 4).toInt = (m13 86 4).toInt := by rw [e50, up2_ne (by omega)]
            have w54 : (m47 lb 7).toInt = (m13 lb 7).toInt := by rw [e50, up2_ne (by omega)]
            have kt52 : tC m47 = tC m := tC_eq (K49 86 2 rfl) (fun j => K49 87 j rfl)
            have kp52 : (m47 86 3).toInt = (m13 86 3).toInt + 1 := by omega
            refine pv_aload_n (M := mX7_readSum) 0 dX7_readSum_52 53 rfl rfl rfl ?_
            refine pv_iload_n (M := mX7_readSum) 1 dX7_readSum_53 54 rfl rfl rfl ?_
            have z57 : (3 : Int32).toInt = 3 := by decide
            refine pv_callv (M := mX7_readSum) (as := [.int 3]) (st := []) (kc2 := 0) (ks2 := 0) dX7_readSum_54 wd543 YX7_readTerm ⟨wd545, wd5⟩ (mk_get (tl86 hT)) rfl rfl (s_X7_readTerm_v3x g hT I48 R (by first | omega | assumption | exact (iv_rng _).2 | exact (iv_rng _).1 | decide) (TBC_eq hp1 kt52)) rfl rfl (Nat.le_of_ble_eq_true rfl) (by decide) rfl rfl 57 rfl (fun rv h1 q58 => ?_)
            obtain ⟨m59, n60, v63, rfl, rfl, I61, K62, pv63, qv63, rv63⟩ := q58
            replace rv63 : (m47 86 3).toInt ≤ (m59 86 3).toInt ∧ (m59 86 3).toInt ≤ (m59 86 2).toInt ∧ (m59 86 2).toInt = (m47 86 2).toInt ∧ ((v63.toInt = 0 ∨ (m47 86 3).toInt + 1 ≤ (m59 86 3).toInt) ∧ TRX (SU (tC m47) 3 (m47 86 3).toInt) (LSu (tC m47) 3) (fun a => isT (tC m47 a) = false) v63.toInt (m59 86 3).toInt (m59 86 4).toInt) ∧ (m59 lb 7).toInt = (m47 lb 7).toInt := by have q_ := rv63; (try rw [z57] at q_); exact q_
            have K62c := K62
            have K62 := K49.trans (K62.sub (fun _ _ q => q))
            show PV _ _ _ _ _ _ _ 57 [.ref 86, .int 3, .int y12, .int v44] [.int v63] _
            have k57 := rv63.2.2.2.1.2
            have k57p := rv63.2.2.2.1.1
            rw [kt52, kp52] at k57
            refine pv_if_ne (M := mX7_readSum) (tgt := 62) dX7_readSum_57 60 rfl (by decide) (fun c67 => ?_) (fun c67 => ?_)
            · have c67 := iv_ne (X := v63.toInt) (Y := 0) c67 rfl (by decide)
              have kT6 := TRX_ok k57 (by omega)
              refine pv_aload_n (M := mX7_readSum) 0 dX7_readSum_62 63 rfl rfl rfl ?_
              refine mv_get (M := mX7_readSum) (v := .ref lb) dX7_readSum_63 FX7 1 wd281 (by decide) (tl86 hT) rfl R.2.2.2.1 66 rfl ?_
              refine pv_iload_n (M := mX7_readSum) 3 dX7_readSum_66 67 rfl rfl rfl ?_
              refine pv_iconst (M := mX7_readSum) (v := 0) dX7_readSum_67 68 rfl (by decide) ?_
              have z69 : (0 : Int32).toInt = 0 := by decide
              refine pv_callv (M := mX7_readSum) (as := [.int v44, .int 0]) (st := []) (kc2 := 0) (ks2 := 0) dX7_readSum_68 wd567 YX6_emit ⟨wd568, wd569⟩ (mk_get R.2.2.2.2.2.2.1) rfl rfl (s_X6_emit_vx g hT I61 lb R.2.2.2.2.2 v44 0 (by decide) (by decide)) rfl rfl (Nat.le_of_ble_eq_true rfl) (by decide) rfl rfl 71 rfl (fun rv h1 q70 => ?_)
              obtain ⟨m71, n72, rfl, rfl, I73, K74, rm71⟩ := q70
              replace rm71 : (m71 lb 7).toInt = (m59 lb 7).toInt := rm71
              have K74c := K74
              have w75 : (m71 86 3).toInt = (m59 86 3).toInt := congrArg Int32.toInt (K74 86 3 (wr_out (by omega)))
              have w76 : (m71 86 2).toInt = (m59 86 2).toInt := congrArg Int32.toInt (K74 86 2 (wr_out (by omega)))
              have w77 : (m71 86 4).toInt = (m59 86 4).toInt := congrArg Int32.toInt (K74 86 4 (wr_out (by omega)))
              have K74 := K62.trans (K74.sub (by first | exact wR7_r (by omega) | exact wR7_wr))
              show PV _ _ _ _ _ _ _ 71 [.ref 86, .int 3, .int y12, .int v44] [] _
              refine iv_inc (M := mX7_readSum) (C := 1) dX7_readSum_71 74 rfl rfl (by decide) rfl rfl (by decide) (by omega) (by omega) (fun v78 ev78 => ?_)
              show PV _ _ _ _ _ _ _ 74 [.ref 86, .int 3, .int v78, .int v44] [] _
              refine pv_goto (M := mX7_readSum) (tgt := 12) dX7_readSum_74 (by decide) ?_
              refine pv_fg (lo2 := [.ref 86, .int 3, .int v78, pv_U]) ⟨Or.inr rfl, ⟨Or.inr rfl, ⟨Or.inr rfl, ⟨Or.inl rfl, trivial⟩⟩⟩⟩ ?_
              have kb3 : (m71 86 3).toInt = (m59 86 3).toInt := by omega
              have kbs : SU (tC m) 3 (m 86 3).toInt = LSu (tC m) 3 (m71 86 3).toInt := by rw [kgs, LSu_su kTX (by omega) kS, kT6.1]; congr 1; omega
              have kbt : isT (tC m (m71 86 3).toInt) = false := by rw [kb3]; exact kT6.2
              exact ih19 v78 m71 n72 (by first | omega | assumption | exact (iv_rng _).2 | exact (iv_rng _).1 | decide) (by first | omega | assumption | exact (iv_rng _).2 | exact (iv_rng _).1 | decide) (by first | omega | assumption | (show (m71 86 3).toInt ≤ (m71 86 2).toInt; omega) | decide) (by first | omega | assumption | (show (m71 86 2).toInt = (m 86 2).toInt; omega) | decide) (by first | omega | assumption | (show (m71 lb 7).toInt = (m lb 7).toInt; omega) | decide) (by first | omega | assumption | (show (m 86 3).toInt + 1 + 2 * v78.toInt ≤ (m71 86 3).toInt; omega) | decide) kbs kbt I73 K74 (by omega)
            · have c67 := iv_eq (X := v63.toInt) (Y := 0) c67 rfl (by decide)
              refine pv_iconst (M := mX7_readSum) (v := 0) dX7_readSum_60 61 rfl (by decide) ?_
              have z82 : (0 : Int32).toInt = 0 := by decide
              exact pv_iret (M := mX7_readSum) dX7_readSum_61 rfl rfl ⟨_, _, _, rfl, rfl, I61, K62, by decide, by decide, ⟨by omega, by omega, by omega, Or.inr ⟨by decide, by rw [kgs, LSu_su kTX (by omega) kS]; exact TRX_fl k57 (by omega)⟩, by omega⟩⟩
          · have c41 := iv_ne (X := v37.toInt) (Y := 43) c41 rfl (by decide)
            refine pv_aload_n (M := mX7_readSum) 0 dX7_readSum_28 29 rfl rfl rfl ?_
            refine pv_callv (M := mX7_readSum) (as := []) (st := []) (kc2 := 0) (ks2 := 0) dX7_readSum_29 wd527 YX7_peek ⟨wd529, wd2⟩ (mk_get (tl86 hT)) rfl rfl (s_X7_peek_vx g hT I15 R) rfl rfl (Nat.le_of_ble_eq_true rfl) (by decide) rfl rfl 32 rfl (fun rv h1 q83 => ?_)
            obtain ⟨v84, rfl, rfl, pv84, qv84, rv84⟩ := q83
            replace rv84 : v84.toInt = tC m13 (m13 86 3).toInt ∧ (v84.toInt = -1 ∨ (m13 86 3).toInt < (m13 86 2).toInt) := rv84
            show PV _ _ _ _ _ _ _ 32 [.ref 86, .int 3, .int y12, pv_U] [.int v84] _
            have k32 := rv84.1
            have k32b := rv84.2
            rw [kt12] at k32
            refine pv_bipush (M := mX7_readSum) (v := 45) dX7_readSum_32 34 rfl (by decide) ?_
            refine pv_icmp_ne (M := mX7_readSum) (tgt := 77) dX7_readSum_34 37 rfl (by decide) (fun c88 => ?_) (fun c88 => ?_)
            · have c88 := iv_ne (X := v84.toInt) (Y := 45) c88 rfl (by decide)
              refine pv_iconst (M := mX7_readSum) (v := 1) dX7_readSum_77 78 rfl (by decide) ?_
              have z89 : (1 : Int32).toInt = 1 := by decide
              exact pv_iret (M := mX7_readSum) dX7_readSum_78 rfl rfl ⟨_, _, _, rfl, rfl, I15, K16, by decide, by decide, ⟨by omega, by omega, by omega, (by first | exact Or.inl ⟨by decide, by rw [kgs]; exact LSu_no (isS_n kgt (by omega) (by omega))⟩ | (exfalso; omega)), by omega⟩⟩
            · have c88 := iv_eq (X := v84.toInt) (Y := 45) c88 rfl (by decide)
              have kS : isS (tC m (m13 86 3).toInt) = true := isS_y (by omega)
              refine pv_aload_n (M := mX7_readSum) 0 dX7_readSum_37 38 rfl rfl rfl ?_
              refine pv_callv (M := mX7_readSum) (as := []) (st := []) (kc2 := 0) (ks2 := 0) dX7_readSum_38 wd527 YX7_peek ⟨wd529, wd2⟩ (mk_get (tl86 hT)) rfl rfl (s_X7_peek_vx g hT I15 R) rfl rfl (Nat.le_of_ble_eq_true rfl) (by decide) rfl rfl 41 rfl (fun rv h1 q91 => ?_)
              obtain ⟨v92, rfl, rfl, pv92, qv92, rv92⟩ := q91
              replace rv92 : v92.toInt = tC m13 (m13 86 3).toInt ∧ (v92.toInt = -1 ∨ (m13 86 3).toInt < (m13 86 2).toInt) := rv92
              show PV _ _ _ _ _ _ _ 41 [.ref 86, .int 3, .int y12, pv_U] [.int v92] _
              refine pv_istore_n (M := mX7_readSum) 3 (lo2 := [.ref 86, .int 3, .int y12, .int v92]) dX7_readSum_41 42 rfl rfl (by decide) rfl rfl ?_
              refine pv_aload_n (M := mX7_readSum) 0 dX7_readSum_42 43 rfl rfl rfl ?_
              refine pv_dup (M := mX7_readSum) dX7_readSum_43 44 rfl rfl ?_
              refine iv_get (M := mX7_readSum) (l1 := 0) (l2 := 160) dX7_readSum_44 FX7 3 wd283 (by decide) (tl86 hT) rfl I15 rfl 47 rfl (fun v93 ev93 pv93 qv93 => ?_)
              have wv93 : v93.toInt = (m13 86 3).toInt := congrArg Int32.toInt ev93
              refine pv_iconst (M := mX7_readSum) (v := 1) dX7_readSum_47 48 rfl (by decide) ?_
              refine iv_iadd (M := mX7_readSum) (X := v93.toInt) (Y := 1) dX7_readSum_48 49 rfl rfl (by decide) (by omega) (by omega) (fun v94 ev94 => ?_)
              refine iv_put (M := mX7_readSum) (l1 := 0) (l2 := 160) dX7_readSum_49 FX7 3 wd283 (by decide) rfl (tl86 hT) rfl rfl rfl I15 rfl (by omega) (by omega) 52 rfl (fun m95 e98 I96 => ?_)
              have K97 := K16.set e98 (by decide)
              have w99 : (m95 86 3).toInt = v94.toInt := by rw [e98, up2_eq]
              have w100 : (m95 86 2).toInt = (m13 86 2).toInt := by rw [e98, up2_ne (by omega)]
              have w101 : (m95 86 4).toInt = (m13 86 4).toInt := by rw [e98, up2_ne (by omega)]
              have w102 : (m95 lb 7).toInt = (m13 lb 7).toInt := by rw [e98, up2_ne (by omega)]
              have kt52 : tC m95 = tC m := tC_eq (K97 86 2 rfl) (fun j => K97 87 j rfl)
              have kp52 : (m95 86 3).toInt = (m13 86 3).toInt + 1 := by omega
              refine pv_aload_n (M := mX7_readSum) 0 dX7_readSum_52 53 rfl rfl rfl ?_
              refine pv_iload_n (M := mX7_readSum) 1 dX7_readSum_53 54 rfl rfl rfl ?_
              have z105 : (3 : Int32).toInt = 3 := by decide
              refine pv_callv (M := mX7_readSum) (as := [.int 3]) (st := []) (kc2 := 0) (ks2 := 0) dX7_readSum_54 wd543 YX7_readTerm ⟨wd545, wd5⟩ (mk_get (tl86 hT)) rfl rfl (s_X7_readTerm_v3x g hT I96 R (by first | omega | assumption | exact (iv_rng _).2 | exact (iv_rng _).1 | decide) (TBC_eq hp1 kt52)) rfl rfl (Nat.le_of_ble_eq_true rfl) (by decide) rfl rfl 57 rfl (fun rv h1 q106 => ?_)
              obtain ⟨m107, n108, v111, rfl, rfl, I109, K110, pv111, qv111, rv111⟩ := q106
              replace rv111 : (m95 86 3).toInt ≤ (m107 86 3).toInt ∧ (m107 86 3).toInt ≤ (m107 86 2).toInt ∧ (m107 86 2).toInt = (m95 86 2).toInt ∧ ((v111.toInt = 0 ∨ (m95 86 3).toInt + 1 ≤ (m107 86 3).toInt) ∧ TRX (SU (tC m95) 3 (m95 86 3).toInt) (LSu (tC m95) 3) (fun a => isT (tC m95 a) = false) v111.toInt (m107 86 3).toInt (m107 86 4).toInt) ∧ (m107 lb 7).toInt = (m95 lb 7).toInt := by have q_ := rv111; (try rw [z105] at q_); exact q_
              have K110c := K110
              have K110 := K97.trans (K110.sub (fun _ _ q => q))
              show PV _ _ _ _ _ _ _ 57 [.ref 86, .int 3, .int y12, .int v92] [.int v111] _
              have k57 := rv111.2.2.2.1.2
              have k57p := rv111.2.2.2.1.1
              rw [kt52, kp52] at k57
              refine pv_if_ne (M := mX7_readSum) (tgt := 62) dX7_readSum_57 60 rfl (by decide) (fun c115 => ?_) (fun c115 => ?_)
              · have c115 := iv_ne (X := v111.toInt) (Y := 0) c115 rfl (by decide)
                have kT6 := TRX_ok k57 (by omega)
                refine pv_aload_n (M := mX7_readSum) 0 dX7_readSum_62 63 rfl rfl rfl ?_
                refine mv_get (M := mX7_readSum) (v := .ref lb) dX7_readSum_63 FX7 1 wd281 (by decide) (tl86 hT) rfl R.2.2.2.1 66 rfl ?_
                refine pv_iload_n (M := mX7_readSum) 3 dX7_readSum_66 67 rfl rfl rfl ?_
                refine pv_iconst (M := mX7_readSum) (v := 0) dX7_readSum_67 68 rfl (by decide) ?_
                have z117 : (0 : Int32).toInt = 0 := by decide
                refine pv_callv (M := mX7_readSum) (as := [.int v92, .int 0]) (st := []) (kc2 := 0) (ks2 := 0) dX7_readSum_68 wd567 YX6_emit ⟨wd568, wd569⟩ (mk_get R.2.2.2.2.2.2.1) rfl rfl (s_X6_emit_vx g hT I109 lb R.2.2.2.2.2 v92 0 (by decide) (by decide)) rfl rfl (Nat.le_of_ble_eq_true rfl) (by decide) rfl rfl 71 rfl (fun rv h1 q118 => ?_)
                obtain ⟨m119, n120, rfl, rfl, I121, K122, rm119⟩ := q118
                replace rm119 : (m119 lb 7).toInt = (m107 lb 7).toInt := rm119
                have K122c := K122
                have w123 : (m119 86 3).toInt = (m107 86 3).toInt := congrArg Int32.toInt (K122 86 3 (wr_out (by omega)))
                have w124 : (m119 86 2).toInt = (m107 86 2).toInt := congrArg Int32.toInt (K122 86 2 (wr_out (by omega)))
                have w125 : (m119 86 4).toInt = (m107 86 4).toInt := congrArg Int32.toInt (K122 86 4 (wr_out (by omega)))
                have K122 := K110.trans (K122.sub (by first | exact wR7_r (by omega) | exact wR7_wr))
                show PV _ _ _ _ _ _ _ 71 [.ref 86, .int 3, .int y12, .int v92] [] _
                refine iv_inc (M := mX7_readSum) (C := 1) dX7_readSum_71 74 rfl rfl (by decide) rfl rfl (by decide) (by omega) (by omega) (fun v126 ev126 => ?_)
                show PV _ _ _ _ _ _ _ 74 [.ref 86, .int 3, .int v126, .int v92] [] _
                refine pv_goto (M := mX7_readSum) (tgt := 12) dX7_readSum_74 (by decide) ?_
                refine pv_fg (lo2 := [.ref 86, .int 3, .int v126, pv_U]) ⟨Or.inr rfl, ⟨Or.inr rfl, ⟨Or.inr rfl, ⟨Or.inl rfl, trivial⟩⟩⟩⟩ ?_
                have kb3 : (m119 86 3).toInt = (m107 86 3).toInt := by omega
                have kbs : SU (tC m) 3 (m 86 3).toInt = LSu (tC m) 3 (m119 86 3).toInt := by rw [kgs, LSu_su kTX (by omega) kS, kT6.1]; congr 1; omega
                have kbt : isT (tC m (m119 86 3).toInt) = false := by rw [kb3]; exact kT6.2
                exact ih19 v126 m119 n120 (by first | omega | assumption | exact (iv_rng _).2 | exact (iv_rng _).1 | decide) (by first | omega | assumption | exact (iv_rng _).2 | exact (iv_rng _).1 | decide) (by first | omega | assumption | (show (m119 86 3).toInt ≤ (m119 86 2).toInt; omega) | decide) (by first | omega | assumption | (show (m119 86 2).toInt = (m 86 2).toInt; omega) | decide) (by first | omega | assumption | (show (m119 lb 7).toInt = (m lb 7).toInt; omega) | decide) (by first | omega | assumption | (show (m 86 3).toInt + 1 + 2 * v126.toInt ≤ (m119 86 3).toInt; omega) | decide) kbs kbt I121 K122 (by omega)
              · have c115 := iv_eq (X := v111.toInt) (Y := 0) c115 rfl (by decide)
                refine pv_iconst (M := mX7_readSum) (v := 0) dX7_readSum_60 61 rfl (by decide) ?_
                have z130 : (0 : Int32).toInt = 0 := by decide
                exact pv_iret (M := mX7_readSum) dX7_readSum_61 rfl rfl ⟨_, _, _, rfl, rfl, I109, K110, by decide, by decide, ⟨by omega, by omega, by omega, Or.inr ⟨by decide, by rw [kgs, LSu_su kTX (by omega) kS]; exact TRX_fl k57 (by omega)⟩, by omega⟩⟩
    have z131 : (0 : Int32).toInt = 0 := by decide
    exact lp18 (((160 - 0) : Int).toNat + 1) 0 m4 n5 (by first | omega | assumption | exact (iv_rng _).2 | exact (iv_rng _).1 | decide) (by first | omega | assumption | exact (iv_rng _).2 | exact (iv_rng _).1 | decide) (by first | omega | assumption | (show (m4 86 3).toInt ≤ (m4 86 2).toInt; omega) | decide) (by first | omega | assumption | (show (m4 86 2).toInt = (m 86 2).toInt; omega) | decide) (by first | omega | assumption | (show (m4 lb 7).toInt = (m lb 7).toInt; omega) | decide) (by first | omega | assumption | (show (m 86 3).toInt + 1 + 2 * 0 ≤ (m4 86 3).toInt; omega) | decide) (TRX_ok k5 (by omega)).1 (TRX_ok k5 (by omega)).2 I6 K7 (by omega)
  · have c11 := iv_eq (X := v8.toInt) (Y := 0) c11 rfl (by decide)
    refine pv_iconst (M := mX7_readSum) (v := 0) dX7_readSum_8 9 rfl (by decide) ?_
    have z132 : (0 : Int32).toInt = 0 := by decide
    exact pv_iret (M := mX7_readSum) dX7_readSum_9 rfl rfl ⟨_, _, _, rfl, rfl, I6, K7, by decide, by decide, ⟨by omega, by omega, by omega, Or.inr ⟨by decide, TRX_fl k5 (by omega)⟩, by omega⟩⟩

set_option maxHeartbeats 2000000 in
set_option maxRecDepth 20000 in
theorem s_X7_readFactor_v2x (g : pv_G) {T : List mv_T} {m : Nat → Nat → Int32} {n : Nat → Nat → Int64} {r : Nat → Value} {la lb : Nat} (hT : TX T) (I : IV BB m) (R : RX T r la lb) (hp0 : (m 86 3).toInt ≤ (m 86 2).toInt) (hp1 : TBC m) : PM g mX7_readFactor yX7_readFactor (sqI T BB wR7 r m 0 1 (fun m' v => (m 86 3).toInt ≤ (m' 86 3).toInt ∧ (m' 86 3).toInt ≤ (m' 86 2).toInt ∧ (m' 86 2).toInt = (m 86 2).toInt ∧ (RSX (FA (tC m) 4 (m 86 3).toInt) v.toInt (m' 86 3).toInt (m' 86 4).toInt) ∧ (m' lb 7).toInt = (m lb 7).toInt)) 17 0 0 [.ref 86, .int 2] (mk T m n r) := by
  have Kp : fr wR7 m m := fr.rf
  have R0 := R
  have zR := R.2.2.2.2.1.1
  have zR2 := R.2.2.2.2.2.1
  have z108 : 0 ≤ (m 86 3).toInt ∧ (m 86 3).toInt ≤ 160 := I 86 3
  have z109 : 0 ≤ (m 86 2).toInt ∧ (m 86 2).toInt ≤ 160 := I 86 2
  refine PM.of 1 (lo := [.ref 86, .int 2, pv_U]) rfl (by decide) rfl rfl (Nat.le_of_ble_eq_true rfl) ?_
  refine pv_aload_n (M := mX7_readFactor) 0 dX7_readFactor_0 1 rfl rfl rfl ?_
  refine pv_callv (M := mX7_readFactor) (as := []) (st := []) (kc2 := 0) (ks2 := 0) dX7_readFactor_1 wd527 YX7_peek ⟨wd529, wd2⟩ (mk_get (tl86 hT)) rfl rfl (s_X7_peek_vx g hT I R) rfl rfl (Nat.le_of_ble_eq_true rfl) (by decide) rfl rfl 4 rfl (fun rv h1 q1 => ?_)
  obtain ⟨v2, rfl, rfl, pv2, qv2, rv2⟩ := q1
  replace rv2 : v2.toInt = tC m (m 86 3).toInt ∧ (v2.toInt = -1 ∨ (m 86 3).toInt < (m 86 2).toInt) := rv2
  show PV _ _ _ _ _ _ _ 4 [.ref 86, .int 2, pv_U] [.int v2] _
  have k4 := rv2.1
  have k4b := rv2.2
  refine pv_bipush (M := mX7_readFactor) (v := 91) dX7_readFactor_4 6 rfl (by decide) ?_
  refine pv_icmp_ne (M := mX7_readFactor) (tgt := 42) dX7_readFactor_6 9 rfl (by decide) (fun c5 => ?_) (fun c5 => ?_)
  · have c5 := iv_ne (X := v2.toInt) (Y := 91) c5 rfl (by decide)
    have kn91 : tC m (m 86 3).toInt ≠ 91 := by omega
    refine pv_aload_n (M := mX7_readFactor) 0 dX7_readFactor_42 43 rfl rfl rfl ?_
    refine pv_callv (M := mX7_readFactor) (as := []) (st := []) (kc2 := 0) (ks2 := 0) dX7_readFactor_43 wd559 YX7_digitAhead ⟨wd561, wd9⟩ (mk_get (tl86 hT)) rfl rfl (s_X7_digitAhead_vx g hT I R) rfl rfl (Nat.le_of_ble_eq_true rfl) (by decide) rfl rfl 46 rfl (fun rv h1 q7 => ?_)
    obtain ⟨v8, rfl, rfl, pv8, qv8, rv8⟩ := q7
    replace rv8 : (v8 = 0 ∨ ((m 86 3).toInt < (m 86 2).toInt ∧ 48 ≤ (m 87 (m 86 3).toInt.toNat).toInt ∧ (m 87 (m 86 3).toInt.toNat).toInt ≤ 57)) ∧ ((v8.toInt = 1 ∧ dig (tC m (m 86 3).toInt) = true) ∨ (v8.toInt = 0 ∧ dig (tC m (m 86 3).toInt) = false)) := rv8
    show PV _ _ _ _ _ _ _ 46 [.ref 86, .int 2, pv_U] [.int v8] _
    have k46 := rv8.2
    refine pv_if_eq (M := mX7_readFactor) (tgt := 54) dX7_readFactor_46 49 rfl (by decide) (fun c10 => ?_) (fun c10 => ?_)
    · have c10 := iv_eq (X := v8.toInt) (Y := 0) c10 rfl (by decide)
      have kdn := (k46.resolve_left (fun q => by have q1 := q.1; omega)).2
      refine pv_aload_n (M := mX7_readFactor) 0 dX7_readFactor_54 55 rfl rfl rfl ?_
      refine pv_callv (M := mX7_readFactor) (as := []) (st := []) (kc2 := 0) (ks2 := 0) dX7_readFactor_55 wd527 YX7_peek ⟨wd529, wd2⟩ (mk_get (tl86 hT)) rfl rfl (s_X7_peek_vx g hT I R) rfl rfl (Nat.le_of_ble_eq_true rfl) (by decide) rfl rfl 58 rfl (fun rv h1 q12 => ?_)
      obtain ⟨v13, rfl, rfl, pv13, qv13, rv13⟩ := q12
      replace rv13 : v13.toInt = tC m (m 86 3).toInt ∧ (v13.toInt = -1 ∨ (m 86 3).toInt < (m 86 2).toInt) := rv13
      show PV _ _ _ _ _ _ _ 58 [.ref 86, .int 2, pv_U] [.int v13] _
      have k58 := rv13.1
      refine pv_iconst (M := mX7_readFactor) (v := (-1)) dX7_readFactor_58 59 rfl (by decide) ?_
      refine pv_icmp_ne (M := mX7_readFactor) (tgt := 66) dX7_readFactor_59 62 rfl (by decide) (fun c15 => ?_) (fun c15 => ?_)
      · have c15 := iv_ne (X := v13.toInt) (Y := (-1)) c15 rfl (by decide)
        refine pv_ldcS (M := mX7_readFactor) dX7_readFactor_66 rfl 68 rfl ?_
        refine pv_aload_n (M := mX7_readFactor) 0 dX7_readFactor_68 69 rfl rfl rfl ?_
        refine pv_callv (M := mX7_readFactor) (as := []) (st := [.retAddr (g.2.2.1 6 + 1)]) (kc2 := 0) (ks2 := 0) dX7_readFactor_69 wd527 YX7_peek ⟨wd529, wd2⟩ (mk_get (tl86 hT)) rfl rfl (s_X7_peek_vx g hT I R) rfl rfl (Nat.le_of_ble_eq_true rfl) (by decide) rfl rfl 72 rfl (fun rv h1 q16 => ?_)
        obtain ⟨v17, rfl, rfl, pv17, qv17, rv17⟩ := q16
        replace rv17 : v17.toInt = tC m (m 86 3).toInt ∧ (v17.toInt = -1 ∨ (m 86 3).toInt < (m 86 2).toInt) := rv17
        show PV _ _ _ _ _ _ _ 72 [.ref 86, .int 2, pv_U] [.int v17, .retAddr (g.2.2.1 6 + 1)] _
        have k72 := rv17.1
        have kb72 := hp1 (m 86 3).toInt
        refine iv_i2cU (M := mX7_readFactor) dX7_readFactor_72 73 rfl (fun v20 ev20 => ?_)
        have k73 := i2c_eq ev20 (by omega) (by omega)
        refine pv_callvS (M := mX7_readFactor) (as := [.int v20]) (st := []) (kc2 := 0) (ks2 := 0) dX7_readFactor_73 wd572 YJ0_indexOf_0f7a4 ⟨wd573, wd574⟩ rfl (s_J0_indexOf_0f7a4_vx g hT I v20 (by omega) (by omega)) rfl rfl (Nat.le_of_ble_eq_true rfl) (by decide) rfl rfl 76 rfl (fun rv h1 q22 => ?_)
        obtain ⟨v23, rfl, rfl, pv23, qv23, rv23⟩ := q22
        replace rv23 : v23.toInt = nix v20.toInt := rv23
        show PV _ _ _ _ _ _ _ 76 [.ref 86, .int 2, pv_U] [.int v23] _
        have k76 : v23.toInt = nix (tC m (m 86 3).toInt) := by first | (rw [show tC m (m 86 3).toInt = -1 by omega]; decide) | (rw [rv23, k73, k72])
        refine pv_istore_n (M := mX7_readFactor) 2 (lo2 := [.ref 86, .int 2, .int v23]) dX7_readFactor_76 77 rfl rfl (by decide) rfl rfl ?_
        refine pv_iload_n (M := mX7_readFactor) 2 dX7_readFactor_77 78 rfl rfl rfl ?_
        refine pv_if_ge (M := mX7_readFactor) (tgt := 87) dX7_readFactor_78 81 rfl (by decide) (fun c25 => ?_) (fun c25 => ?_)
        · have c25 := iv_le (X := 0) (Y := v23.toInt) c25 (by decide) rfl
          refine pv_aload_n (M := mX7_readFactor) 0 dX7_readFactor_87 88 rfl rfl rfl ?_
          refine mv_get (M := mX7_readFactor) (v := .ref lb) dX7_readFactor_88 FX7 1 wd281 (by decide) (tl86 hT) rfl R.2.2.2.1 91 rfl ?_
          refine pv_bipush (M := mX7_readFactor) (v := 36) dX7_readFactor_91 93 rfl (by decide) ?_
          refine pv_iload_n (M := mX7_readFactor) 2 dX7_readFactor_93 94 rfl rfl rfl ?_
          have z26 : (36 : Int32).toInt = 36 := by decide
          refine pv_callv (M := mX7_readFactor) (as := [.int 36, .int v23]) (st := []) (kc2 := 0) (ks2 := 0) dX7_readFactor_94 wd567 YX6_emit ⟨wd568, wd569⟩ (mk_get R.2.2.2.2.2.2.1) rfl rfl (s_X6_emit_vx g hT I lb R.2.2.2.2.2 36 v23 (by omega) (by omega)) rfl rfl (Nat.le_of_ble_eq_true rfl) (by decide) rfl rfl 97 rfl (fun rv h1 q27 => ?_)
          obtain ⟨m28, n29, rfl, rfl, I30, K31, rm28⟩ := q27
          replace rm28 : (m28 lb 7).toInt = (m lb 7).toInt := rm28
          have K31c := K31
          have w32 : (m28 86 3).toInt = (m 86 3).toInt := congrArg Int32.toInt (K31 86 3 (wr_out (by omega)))
          have w33 : (m28 86 2).toInt = (m 86 2).toInt := congrArg Int32.toInt (K31 86 2 (wr_out (by omega)))
          have w34 : (m28 86 4).toInt = (m 86 4).toInt := congrArg Int32.toInt (K31 86 4 (wr_out (by omega)))
          have K31 := Kp.trans (K31.sub (by first | exact wR7_r (by omega) | exact wR7_wr))
          show PV _ _ _ _ _ _ _ 97 [.ref 86, .int 2, .int v23] [] _
          refine pv_aload_n (M := mX7_readFactor) 0 dX7_readFactor_97 98 rfl rfl rfl ?_
          refine pv_dup (M := mX7_readFactor) dX7_readFactor_98 99 rfl rfl ?_
          refine iv_get (M := mX7_readFactor) (l1 := 0) (l2 := 160) dX7_readFactor_99 FX7 3 wd283 (by decide) (tl86 hT) rfl I30 rfl 102 rfl (fun v35 ev35 pv35 qv35 => ?_)
          have wv35 : v35.toInt = (m28 86 3).toInt := congrArg Int32.toInt ev35
          refine pv_iconst (M := mX7_readFactor) (v := 1) dX7_readFactor_102 103 rfl (by decide) ?_
          refine iv_iadd (M := mX7_readFactor) (X := v35.toInt) (Y := 1) dX7_readFactor_103 104 rfl rfl (by decide) (by omega) (by omega) (fun v36 ev36 => ?_)
          refine iv_put (M := mX7_readFactor) (l1 := 0) (l2 := 160) dX7_readFactor_104 FX7 3 wd283 (by decide) rfl (tl86 hT) rfl rfl rfl I30 rfl (by omega) (by omega) 107 rfl (fun m37 e40 I38 => ?_)
          have K39 := K31.set e40 (by decide)
          have w41 : (m37 86 3).toInt = v36.toInt := by rw [e40, up2_eq]
          have w42 : (m37 86 2).toInt = (m28 86 2).toInt := by rw [e40, up2_ne (by omega)]
          have w43 : (m37 86 4).toInt = (m28 86 4).toInt := by rw [e40, up2_ne (by omega)]
          have w44 : (m37 lb 7).toInt = (m28 lb 7).toInt := by rw [e40, up2_ne (by omega)]
          refine pv_iconst (M := mX7_readFactor) (v := 1) dX7_readFactor_107 108 rfl (by decide) ?_
          have z45 : (1 : Int32).toInt = 1 := by decide
          exact pv_iret (M := mX7_readFactor) dX7_readFactor_108 rfl rfl ⟨_, _, _, rfl, rfl, I38, K39, by decide, by decide, ⟨by omega, by omega, by omega, Or.inl ⟨by decide, by rw [FA_atom kn91, AT_nam kdn (nix_y (by omega)), show (m 86 3).toInt + 1 = (m37 86 3).toInt by omega]⟩, by omega⟩⟩
        · have c25 := iv_nle (X := 0) (Y := v23.toInt) c25 (by decide) rfl
          refine pv_aload_n (M := mX7_readFactor) 0 dX7_readFactor_81 82 rfl rfl rfl ?_
          refine pv_iconst (M := mX7_readFactor) (v := 1) dX7_readFactor_82 83 rfl (by decide) ?_
          have z46 : (1 : Int32).toInt = 1 := by decide
          refine pv_callv (M := mX7_readFactor) (as := [.int 1]) (st := []) (kc2 := 0) (ks2 := 0) dX7_readFactor_83 wd531 YX7_fail ⟨wd533, wd3⟩ (mk_get (tl86 hT)) rfl rfl (s_X7_fail_vx g hT I R 1 (by decide) (by decide) (by first | omega | assumption | exact (iv_rng _).2 | exact (iv_rng _).1 | decide)) rfl rfl (Nat.le_of_ble_eq_true rfl) (by decide) rfl rfl 86 rfl (fun rv h1 q47 => ?_)
          obtain ⟨m48, n49, v52, rfl, rfl, I50, K51, pv52, qv52, rv52⟩ := q47
          replace rv52 : (m 86 3).toInt ≤ (m48 86 3).toInt ∧ (m48 86 3).toInt ≤ (m48 86 2).toInt ∧ (m48 86 2).toInt = (m 86 2).toInt ∧ (v52.toInt = 0 ∧ (m48 86 3).toInt = (m 86 3).toInt ∧ (m48 86 4).toInt = -1000 * (1 : Int) - (m 86 3).toInt) ∧ (m48 lb 7).toInt = (m lb 7).toInt := by have q_ := rv52; (try rw [z46] at q_); exact q_
          have K51c := K51
          have K51 := Kp.trans (K51.sub (fun _ _ q => q))
          show PV _ _ _ _ _ _ _ 86 [.ref 86, .int 2, .int v23] [.int v52] _
          exact pv_iret (M := mX7_readFactor) dX7_readFactor_86 rfl (iv_nz (by omega) (by omega)) ⟨_, _, _, rfl, rfl, I50, K51, by omega, by omega, ⟨by omega, by omega, by omega, Or.inr ⟨by omega, FLT_of (a := 1) (p := (m 86 3).toInt) (by rw [FA_atom kn91]; exact AT_no kdn (nix_no (by omega))) (by decide) (by omega)⟩, by omega⟩⟩
      · have c15 := iv_eq (X := v13.toInt) (Y := (-1)) c15 rfl (by decide)
        refine pv_iconst (M := mX7_readFactor) (v := (-1)) dX7_readFactor_62 63 rfl (by decide) ?_
        refine pv_goto (M := mX7_readFactor) (tgt := 76) dX7_readFactor_63 (by decide) ?_
        have k76 : (-1) = nix (tC m (m 86 3).toInt) := by first | (rw [show tC m (m 86 3).toInt = -1 by omega]; decide) | (rw [rlit, k73, k72])
        refine pv_istore_n (M := mX7_readFactor) 2 (lo2 := [.ref 86, .int 2, .int (-1)]) dX7_readFactor_76 77 rfl rfl (by decide) rfl rfl ?_
        refine pv_iload_n (M := mX7_readFactor) 2 dX7_readFactor_77 78 rfl rfl rfl ?_
        refine pv_if_ge (M := mX7_readFactor) (tgt := 87) dX7_readFactor_78 81 rfl (by decide) (fun q => absurd q (by decide)) (fun _ => ?_)
        refine pv_aload_n (M := mX7_readFactor) 0 dX7_readFactor_81 82 rfl rfl rfl ?_
        refine pv_iconst (M := mX7_readFactor) (v := 1) dX7_readFactor_82 83 rfl (by decide) ?_
        have z55 : (1 : Int32).toInt = 1 := by decide
        refine pv_callv (M := mX7_readFactor) (as := [.int 1]) (st := []) (kc2 := 0) (ks2 := 0) dX7_readFactor_83 wd531 YX7_fail ⟨wd533, wd3⟩ (mk_get (tl86 hT)) rfl rfl (s_X7_fail_vx g hT I R 1 (by decide) (by decide) (by first | omega | assumption | exact (iv_rng _).2 | exact (iv_rng _).1 | decide)) rfl rfl (Nat.le_of_ble_eq_true rfl) (by decide) rfl rfl 86 rfl (fun rv h1 q56 => ?_)
        obtain ⟨m57, n58, v61, rfl, rfl, I59, K60, pv61, qv61, rv61⟩ := q56
        replace rv61 : (m 86 3).toInt ≤ (m57 86 3).toInt ∧ (m57 86 3).toInt ≤ (m57 86 2).toInt ∧ (m57 86 2).toInt = (m 86 2).toInt ∧ (v61.toInt = 0 ∧ (m57 86 3).toInt = (m 86 3).toInt ∧ (m57 86 4).toInt = -1000 * (1 : Int) - (m 86 3).toInt) ∧ (m57 lb 7).toInt = (m lb 7).toInt := by have q_ := rv61; (try rw [z55] at q_); exact q_
        have K60c := K60
        have K60 := Kp.trans (K60.sub (fun _ _ q => q))
        show PV _ _ _ _ _ _ _ 86 [.ref 86, .int 2, .int (-1)] [.int v61] _
        exact pv_iret (M := mX7_readFactor) dX7_readFactor_86 rfl (iv_nz (by omega) (by omega)) ⟨_, _, _, rfl, rfl, I59, K60, by omega, by omega, ⟨by omega, by omega, by omega, Or.inr ⟨by omega, FLT_of (a := 1) (p := (m 86 3).toInt) (by rw [FA_atom kn91]; exact AT_no kdn (nix_no (by omega))) (by decide) (by omega)⟩, by omega⟩⟩
    · have pc10 := rv8.1.resolve_left c10
      have c10 := iv_ne (X := v8.toInt) (Y := 0) c10 rfl (by decide)
      have kd := (k46.resolve_right (fun q => by have q1 := q.1; omega)).2
      refine pv_aload_n (M := mX7_readFactor) 0 dX7_readFactor_49 50 rfl rfl rfl ?_
      refine pv_callv (M := mX7_readFactor) (as := []) (st := []) (kc2 := 0) (ks2 := 0) dX7_readFactor_50 wd563 YX7_readNumber ⟨wd565, wd10⟩ (mk_get (tl86 hT)) rfl rfl (s_X7_readNumber_vx g hT I R (by first | omega | assumption | exact (iv_rng _).2 | exact (iv_rng _).1 | decide)) rfl rfl (Nat.le_of_ble_eq_true rfl) (by decide) rfl rfl 53 rfl (fun rv h1 q63 => ?_)
      obtain ⟨m64, n65, v68, rfl, rfl, I66, K67, pv68, qv68, rv68⟩ := q63
      replace rv68 : (m 86 3).toInt ≤ (m64 86 3).toInt ∧ (m64 86 3).toInt ≤ (m64 86 2).toInt ∧ (m64 86 2).toInt = (m 86 2).toInt ∧ (RSX (nd (tC m) 5 (m 86 3).toInt) v68.toInt (m64 86 3).toInt (m64 86 4).toInt) ∧ (m64 lb 7).toInt = (m lb 7).toInt := rv68
      have K67c := K67
      have K67 := Kp.trans (K67.sub (fun _ _ q => q))
      show PV _ _ _ _ _ _ _ 53 [.ref 86, .int 2, pv_U] [.int v68] _
      have k53 := rv68.2.2.2.1
      exact pv_iret (M := mX7_readFactor) dX7_readFactor_53 rfl (iv_nz (by omega) (by omega)) ⟨_, _, _, rfl, rfl, I66, K67, by omega, by omega, ⟨by omega, by omega, by omega, (by rw [FA_atom kn91, AT_num kd]; exact k53), by omega⟩⟩
  · have c5 := iv_eq (X := v2.toInt) (Y := 91) c5 rfl (by decide)
    have k91 : tC m (m 86 3).toInt = 91 := by omega
    refine pv_aload_n (M := mX7_readFactor) 0 dX7_readFactor_9 10 rfl rfl rfl ?_
    refine pv_iload_n (M := mX7_readFactor) 1 dX7_readFactor_10 11 rfl rfl rfl ?_
    have z71 : (2 : Int32).toInt = 2 := by decide
    refine pv_callv (M := mX7_readFactor) (as := [.int 2]) (st := []) (kc2 := 0) (ks2 := 0) dX7_readFactor_11 wd551 YX7_open ⟨wd553, wd7⟩ (mk_get (tl86 hT)) rfl rfl (s_X7_open_vx g hT I R 2 (by decide) (by decide) (by first | omega | assumption | exact (iv_rng _).2 | exact (iv_rng _).1 | decide)) rfl rfl (Nat.le_of_ble_eq_true rfl) (by decide) rfl rfl 14 rfl (fun rv h1 q72 => ?_)
    obtain ⟨m73, n74, v77, rfl, rfl, I75, K76, pv77, qv77, rv77⟩ := q72
    replace rv77 : (v77 = 0 ∨ (2 : Int) ≤ 5) ∧ (m 86 3).toInt ≤ (m73 86 3).toInt ∧ (m73 86 3).toInt ≤ (m73 86 2).toInt ∧ (m73 86 2).toInt = (m 86 2).toInt ∧ ((v77.toInt = 1 ∧ (2 : Int) ≤ 5 ∧ (m73 86 3).toInt = (m 86 3).toInt + 1) ∨ (v77.toInt = 0 ∧ 6 ≤ (2 : Int) ∧ (m73 86 4).toInt = -5000 - (m 86 3).toInt ∧ (m73 86 3).toInt = (m 86 3).toInt)) ∧ (m73 lb 7).toInt = (m lb 7).toInt := by have q_ := rv77; (try rw [z71] at q_); exact q_
    have K76c := K76
    have K76 := Kp.trans (K76.sub (fun _ _ q => q))
    show PV _ _ _ _ _ _ _ 14 [.ref 86, .int 2, pv_U] [.int v77] _
    refine pv_if_eq (M := mX7_readFactor) (tgt := 40) dX7_readFactor_14 17 rfl (by decide) (fun c78 => ?_) (fun c78 => ?_)
    · have c78 := iv_eq (X := v77.toInt) (Y := 0) c78 rfl (by decide)
      refine pv_iconst (M := mX7_readFactor) (v := 0) dX7_readFactor_40 41 rfl (by decide) ?_
      have z79 : (0 : Int32).toInt = 0 := by decide
      exact pv_iret (M := mX7_readFactor) dX7_readFactor_41 rfl rfl ⟨_, _, _, rfl, rfl, I75, K76, by decide, by decide, ⟨by omega, by omega, by omega, (by first | exact Or.inr ⟨by decide, FX_deep k91 (by omega)⟩ | exact Or.inr ⟨by decide, FX_cn k91 k27 (fun z => by omega) (by omega)⟩ | exact Or.inl ⟨by decide, FX_co k91 k27 (by omega) (by omega)⟩ | exact Or.inr ⟨by decide, FX_sum k91 (RSX_fl k24 (by omega))⟩ | (exfalso; omega)), by omega⟩⟩
    · have pc78 := rv77.1.resolve_left c78
      have c78 := iv_ne (X := v77.toInt) (Y := 0) c78 rfl (by decide)
      have kt17 : tC m73 = tC m := tC_eq (K76 86 2 rfl) (fun j => K76 87 j rfl)
      have kp17 : (m73 86 3).toInt = (m 86 3).toInt + 1 := by omega
      refine pv_aload_n (M := mX7_readFactor) 0 dX7_readFactor_17 18 rfl rfl rfl ?_
      refine pv_iload_n (M := mX7_readFactor) 1 dX7_readFactor_18 19 rfl rfl rfl ?_
      refine pv_iconst (M := mX7_readFactor) (v := 1) dX7_readFactor_19 20 rfl (by decide) ?_
      refine pv_iadd (M := mX7_readFactor) (v := 3) dX7_readFactor_20 21 rfl (by decide) ?_
      have z83 : (3 : Int32).toInt = 3 := by decide
      refine pv_callv (M := mX7_readFactor) (as := [.int 3]) (st := []) (kc2 := 0) (ks2 := 0) dX7_readFactor_21 wd539 YX7_readSum ⟨wd541, wd4⟩ (mk_get (tl86 hT)) rfl rfl (s_X7_readSum_v3x g hT I75 R (by first | omega | assumption | exact (iv_rng _).2 | exact (iv_rng _).1 | decide) (TBC_eq hp1 kt17)) rfl rfl (Nat.le_of_ble_eq_true rfl) (by decide) rfl rfl 24 rfl (fun rv h1 q84 => ?_)
      obtain ⟨m85, n86, v89, rfl, rfl, I87, K88, pv89, qv89, rv89⟩ := q84
      replace rv89 : (m73 86 3).toInt ≤ (m85 86 3).toInt ∧ (m85 86 3).toInt ≤ (m85 86 2).toInt ∧ (m85 86 2).toInt = (m73 86 2).toInt ∧ (RSX (SU (tC m73) 3 (m73 86 3).toInt) v89.toInt (m85 86 3).toInt (m85 86 4).toInt) ∧ (m85 lb 7).toInt = (m73 lb 7).toInt := by have q_ := rv89; (try rw [z83] at q_); exact q_
      have K88c := K88
      have K88 := K76.trans (K88.sub (fun _ _ q => q))
      show PV _ _ _ _ _ _ _ 24 [.ref 86, .int 2, pv_U] [.int v89] _
      have k24 := rv89.2.2.2.1
      rw [kt17, kp17] at k24
      refine pv_if_eq (M := mX7_readFactor) (tgt := 40) dX7_readFactor_24 27 rfl (by decide) (fun c92 => ?_) (fun c92 => ?_)
      · have c92 := iv_eq (X := v89.toInt) (Y := 0) c92 rfl (by decide)
        refine pv_iconst (M := mX7_readFactor) (v := 0) dX7_readFactor_40 41 rfl (by decide) ?_
        have z93 : (0 : Int32).toInt = 0 := by decide
        exact pv_iret (M := mX7_readFactor) dX7_readFactor_41 rfl rfl ⟨_, _, _, rfl, rfl, I87, K88, by decide, by decide, ⟨by omega, by omega, by omega, (by first | exact Or.inr ⟨by decide, FX_deep k91 (by omega)⟩ | exact Or.inr ⟨by decide, FX_cn k91 k27 (fun z => by omega) (by omega)⟩ | exact Or.inl ⟨by decide, FX_co k91 k27 (by omega) (by omega)⟩ | exact Or.inr ⟨by decide, FX_sum k91 (RSX_fl k24 (by omega))⟩ | (exfalso; omega)), by omega⟩⟩
      · have c92 := iv_ne (X := v89.toInt) (Y := 0) c92 rfl (by decide)
        have k27 := RSX_ok k24 (by omega)
        have kt27 : tC m85 = tC m := tC_eq (K88 86 2 rfl) (fun j => K88 87 j rfl)
        refine pv_aload_n (M := mX7_readFactor) 0 dX7_readFactor_27 28 rfl rfl rfl ?_
        refine pv_bipush (M := mX7_readFactor) (v := 93) dX7_readFactor_28 30 rfl (by decide) ?_
        have z96 : (93 : Int32).toInt = 93 := by decide
        refine pv_callv (M := mX7_readFactor) (as := [.int 93]) (st := []) (kc2 := 0) (ks2 := 0) dX7_readFactor_30 wd555 YX7_pass ⟨wd557, wd8⟩ (mk_get (tl86 hT)) rfl rfl (s_X7_pass_vx g hT I87 R 93 (by decide) (by decide) (by first | omega | assumption | exact (iv_rng _).2 | exact (iv_rng _).1 | decide)) rfl rfl (Nat.le_of_ble_eq_true rfl) (by decide) rfl rfl 33 rfl (fun rv h1 q97 => ?_)
        obtain ⟨m98, n99, v102, rfl, rfl, I100, K101, pv102, qv102, rv102⟩ := q97
        replace rv102 : (m85 86 3).toInt ≤ (m98 86 3).toInt ∧ (m98 86 3).toInt ≤ (m98 86 2).toInt ∧ (m98 86 2).toInt = (m85 86 2).toInt ∧ ((v102.toInt = 1 ∧ tC m85 (m85 86 3).toInt = (93 : Int) ∧ (m98 86 3).toInt = (m85 86 3).toInt + 1) ∨ (v102.toInt = 0 ∧ tC m85 (m85 86 3).toInt ≠ (93 : Int) ∧ (m98 86 4).toInt = -1000 - (m85 86 3).toInt ∧ (m98 86 3).toInt = (m85 86 3).toInt)) ∧ (m98 lb 7).toInt = (m85 lb 7).toInt := by have q_ := rv102; (try rw [z96] at q_); exact q_
        have K101c := K101
        have K101 := K88.trans (K101.sub (fun _ _ q => q))
        show PV _ _ _ _ _ _ _ 33 [.ref 86, .int 2, pv_U] [.int v102] _
        have k33 := rv102.2.2.2.1
        rw [kt27] at k33
        refine pv_if_eq (M := mX7_readFactor) (tgt := 40) dX7_readFactor_33 36 rfl (by decide) (fun c105 => ?_) (fun c105 => ?_)
        · have c105 := iv_eq (X := v102.toInt) (Y := 0) c105 rfl (by decide)
          refine pv_iconst (M := mX7_readFactor) (v := 0) dX7_readFactor_40 41 rfl (by decide) ?_
          have z106 : (0 : Int32).toInt = 0 := by decide
          exact pv_iret (M := mX7_readFactor) dX7_readFactor_41 rfl rfl ⟨_, _, _, rfl, rfl, I100, K101, by decide, by decide, ⟨by omega, by omega, by omega, (by first | exact Or.inr ⟨by decide, FX_deep k91 (by omega)⟩ | exact Or.inr ⟨by decide, FX_cn k91 k27 (fun z => by omega) (by omega)⟩ | exact Or.inl ⟨by decide, FX_co k91 k27 (by omega) (by omega)⟩ | exact Or.inr ⟨by decide, FX_sum k91 (RSX_fl k24 (by omega))⟩ | (exfalso; omega)), by omega⟩⟩
        · have c105 := iv_ne (X := v102.toInt) (Y := 0) c105 rfl (by decide)
          refine pv_iconst (M := mX7_readFactor) (v := 1) dX7_readFactor_36 37 rfl (by decide) ?_
          refine pv_goto (M := mX7_readFactor) (tgt := 41) dX7_readFactor_37 (by decide) ?_
          have z107 : (1 : Int32).toInt = 1 := by decide
          exact pv_iret (M := mX7_readFactor) dX7_readFactor_41 rfl rfl ⟨_, _, _, rfl, rfl, I100, K101, by decide, by decide, ⟨by omega, by omega, by omega, (by first | exact Or.inr ⟨by decide, FX_deep k91 (by omega)⟩ | exact Or.inr ⟨by decide, FX_cn k91 k27 (fun z => by omega) (by omega)⟩ | exact Or.inl ⟨by decide, FX_co k91 k27 (by omega) (by omega)⟩ | exact Or.inr ⟨by decide, FX_sum k91 (RSX_fl k24 (by omega))⟩ | (exfalso; omega)), by omega⟩⟩

set_option maxHeartbeats 2000000 in
set_option maxRecDepth 20000 in
theorem s_X7_readTerm_v2x (g : pv_G) {T : List mv_T} {m : Nat → Nat → Int32} {n : Nat → Nat → Int64} {r : Nat → Value} {la lb : Nat} (hT : TX T) (I : IV BB m) (R : RX T r la lb) (hp0 : (m 86 3).toInt ≤ (m 86 2).toInt) (hp1 : TBC m) : PM g mX7_readTerm yX7_readTerm (sqI T BB wR7 r m 0 1 (fun m' v => (m 86 3).toInt ≤ (m' 86 3).toInt ∧ (m' 86 3).toInt ≤ (m' 86 2).toInt ∧ (m' 86 2).toInt = (m 86 2).toInt ∧ ((v.toInt = 0 ∨ (m 86 3).toInt + 1 ≤ (m' 86 3).toInt) ∧ TRX (SU (tC m) 4 (m 86 3).toInt) (LSu (tC m) 4) (fun a => isT (tC m a) = false) v.toInt (m' 86 3).toInt (m' 86 4).toInt) ∧ (m' lb 7).toInt = (m lb 7).toInt)) 18 0 0 [.ref 86, .int 2] (mk T m n r) := by
  have Kp : fr wR7 m m := fr.rf
  have R0 := R
  have zR := R.2.2.2.2.1.1
  have zR2 := R.2.2.2.2.2.1
  have z84 : 0 ≤ (m 86 3).toInt ∧ (m 86 3).toInt ≤ 160 := I 86 3
  have z85 : 0 ≤ (m 86 2).toInt ∧ (m 86 2).toInt ≤ 160 := I 86 2
  refine PM.of 2 (lo := [.ref 86, .int 2, pv_U, pv_U]) rfl (by decide) rfl rfl (Nat.le_of_ble_eq_true rfl) ?_
  have kTX := TXT_C I
  refine pv_aload_n (M := mX7_readTerm) 0 dX7_readTerm_0 1 rfl rfl rfl ?_
  refine pv_iload_n (M := mX7_readTerm) 1 dX7_readTerm_1 2 rfl rfl rfl ?_
  have z2 : (2 : Int32).toInt = 2 := by decide
  refine pv_callv (M := mX7_readTerm) (as := [.int 2]) (st := []) (kc2 := 0) (ks2 := 0) dX7_readTerm_2 wd547 YX7_readFactor ⟨wd549, wd6⟩ (mk_get (tl86 hT)) rfl rfl (s_X7_readFactor_v2x g hT I R (by first | omega | assumption | exact (iv_rng _).2 | exact (iv_rng _).1 | decide) hp1) rfl rfl (Nat.le_of_ble_eq_true rfl) (by decide) rfl rfl 5 rfl (fun rv h1 q3 => ?_)
  obtain ⟨m4, n5, v8, rfl, rfl, I6, K7, pv8, qv8, rv8⟩ := q3
  replace rv8 : (m 86 3).toInt ≤ (m4 86 3).toInt ∧ (m4 86 3).toInt ≤ (m4 86 2).toInt ∧ (m4 86 2).toInt = (m 86 2).toInt ∧ (RSX (FA (tC m) 4 (m 86 3).toInt) v8.toInt (m4 86 3).toInt (m4 86 4).toInt) ∧ (m4 lb 7).toInt = (m lb 7).toInt := by have q_ := rv8; (try rw [z2] at q_); exact q_
  have K7c := K7
  have K7 := Kp.trans (K7.sub (fun _ _ q => q))
  show PV _ _ _ _ _ _ _ 5 [.ref 86, .int 2, pv_U, pv_U] [.int v8] _
  have k5 := rv8.2.2.2.1
  refine pv_if_ne (M := mX7_readTerm) (tgt := 10) dX7_readTerm_5 8 rfl (by decide) (fun c10 => ?_) (fun c10 => ?_)
  · have c10 := iv_ne (X := v8.toInt) (Y := 0) c10 rfl (by decide)
    have kF0 := RSX_ok k5 (by omega)
    have kF1 := FA_le 4 (m 86 3).toInt (by rw [kF0])
    rw [kF0] at kF1
    refine pv_iconst (M := mX7_readTerm) (v := 0) dX7_readTerm_10 11 rfl (by decide) ?_
    refine pv_istore_n (M := mX7_readTerm) 2 (lo2 := [.ref 86, .int 2, .int 0, pv_U]) dX7_readTerm_11 12 rfl rfl (by decide) rfl rfl ?_
    have lp20 : ∀ (fuel19 : Nat) (y14 : Int32) (m15 : Nat → Nat → Int32) (n16 : Nat → Nat → Int64), (0 ≤ y14.toInt) → (y14.toInt ≤ 160) → ((m15 86 3).toInt ≤ (m15 86 2).toInt) → ((m15 86 2).toInt = (m 86 2).toInt) → ((m15 lb 7).toInt = (m lb 7).toInt) → ((m 86 3).toInt + 1 + 2 * y14.toInt ≤ (m15 86 3).toInt) → (SU (tC m) 4 (m 86 3).toInt = LSu (tC m) 4 (m15 86 3).toInt) → IV BB m15 → fr wR7 m m15 → ((160 - y14.toInt) : Int).toNat < fuel19 → PV none g mX7_readTerm (sqI T BB wR7 r m 0 1 (fun m' v => (m 86 3).toInt ≤ (m' 86 3).toInt ∧ (m' 86 3).toInt ≤ (m' 86 2).toInt ∧ (m' 86 2).toInt = (m 86 2).toInt ∧ ((v.toInt = 0 ∨ (m 86 3).toInt + 1 ≤ (m' 86 3).toInt) ∧ TRX (SU (tC m) 4 (m 86 3).toInt) (LSu (tC m) 4) (fun a => isT (tC m a) = false) v.toInt (m' 86 3).toInt (m' 86 4).toInt) ∧ (m' lb 7).toInt = (m lb 7).toInt)) 18 0 0 12 [.ref 86, .int 2, .int y14, pv_U] [] (mk T m15 n16 r) := by
      intro fuel19
      induction fuel19 with
      | zero => intro y14 m15 n16 b22 b23 b24 b25 b26 b27 b28 I17 K18 z29; omega
      | succ fuel19 ih21 =>
        intro y14 m15 n16 b22 b23 b24 b25 b26 b27 b28 I17 K18 z29
        have z30 : 0 ≤ (m15 86 3).toInt ∧ (m15 86 3).toInt ≤ 160 := I17 86 3
        have z31 : 0 ≤ (m15 86 2).toInt ∧ (m15 86 2).toInt ≤ 160 := I17 86 2
        have kgs := (show SU (tC m) 4 (m 86 3).toInt = LSu (tC m) 4 (m15 86 3).toInt by assumption)
        have kt12 : tC m15 = tC m := tC_eq (K18 86 2 rfl) (fun j => K18 87 j rfl)
        refine pv_iload_n (M := mX7_readTerm) 2 dX7_readTerm_12 13 rfl rfl rfl ?_
        refine pv_sipush (M := mX7_readTerm) (v := 160) dX7_readTerm_13 16 rfl (by decide) ?_
        refine pv_icmp_ge (M := mX7_readTerm) (tgt := 66) dX7_readTerm_16 19 rfl (by decide) (fun c34 => ?_) (fun c34 => ?_)
        · have c34 := iv_le (X := 160) (Y := y14.toInt) c34 (by decide) rfl
          refine pv_iconst (M := mX7_readTerm) (v := 1) dX7_readTerm_66 67 rfl (by decide) ?_
          have z35 : (1 : Int32).toInt = 1 := by decide
          exact pv_iret (M := mX7_readTerm) dX7_readTerm_67 rfl rfl ⟨_, _, _, rfl, rfl, I17, K18, by decide, by decide, ⟨by omega, by omega, by omega, ⟨Or.inr (by omega), Or.inl ⟨by decide, kgs, by first | (exact (k23.resolve_left (fun q => by have q1 := q.1; omega)).2) | (exfalso; omega)⟩⟩, by omega⟩⟩
        · have c34 := iv_nle (X := 160) (Y := y14.toInt) c34 (by decide) rfl
          refine pv_aload_n (M := mX7_readTerm) 0 dX7_readTerm_19 20 rfl rfl rfl ?_
          refine pv_callv (M := mX7_readTerm) (as := []) (st := []) (kc2 := 0) (ks2 := 0) dX7_readTerm_20 wd654 YX7_timesAhead ⟨wd656, wd11⟩ (mk_get (tl86 hT)) rfl rfl (s_X7_timesAhead_vx g hT I17 R) rfl rfl (Nat.le_of_ble_eq_true rfl) (by decide) rfl rfl 23 rfl (fun rv h1 q36 => ?_)
          obtain ⟨v37, rfl, rfl, pv37, qv37, rv37⟩ := q36
          replace rv37 : (v37 = 0 ∨ (m15 86 3).toInt < (m15 86 2).toInt) ∧ ((v37.toInt = 1 ∧ isT (tC m15 (m15 86 3).toInt) = true) ∨ (v37.toInt = 0 ∧ isT (tC m15 (m15 86 3).toInt) = false)) := rv37
          show PV _ _ _ _ _ _ _ 23 [.ref 86, .int 2, .int y14, pv_U] [.int v37] _
          have k23 := rv37.2
          rw [kt12] at k23
          refine pv_if_eq (M := mX7_readTerm) (tgt := 66) dX7_readTerm_23 26 rfl (by decide) (fun c40 => ?_) (fun c40 => ?_)
          · have c40 := iv_eq (X := v37.toInt) (Y := 0) c40 rfl (by decide)
            refine pv_iconst (M := mX7_readTerm) (v := 1) dX7_readTerm_66 67 rfl (by decide) ?_
            have z41 : (1 : Int32).toInt = 1 := by decide
            exact pv_iret (M := mX7_readTerm) dX7_readTerm_67 rfl rfl ⟨_, _, _, rfl, rfl, I17, K18, by decide, by decide, ⟨by omega, by omega, by omega, ⟨Or.inr (by omega), Or.inl ⟨by decide, kgs, by first | (exact (k23.resolve_left (fun q => by have q1 := q.1; omega)).2) | (exfalso; omega)⟩⟩, by omega⟩⟩
          · have pc40 := rv37.1.resolve_left c40
            have c40 := iv_ne (X := v37.toInt) (Y := 0) c40 rfl (by decide)
            have kT := (k23.resolve_right (fun q => by have q1 := q.1; omega)).2
            refine pv_aload_n (M := mX7_readTerm) 0 dX7_readTerm_26 27 rfl rfl rfl ?_
            refine pv_callv (M := mX7_readTerm) (as := []) (st := []) (kc2 := 0) (ks2 := 0) dX7_readTerm_27 wd527 YX7_peek ⟨wd529, wd2⟩ (mk_get (tl86 hT)) rfl rfl (s_X7_peek_vx g hT I17 R) rfl rfl (Nat.le_of_ble_eq_true rfl) (by decide) rfl rfl 30 rfl (fun rv h1 q43 => ?_)
            obtain ⟨v44, rfl, rfl, pv44, qv44, rv44⟩ := q43
            replace rv44 : v44.toInt = tC m15 (m15 86 3).toInt ∧ (v44.toInt = -1 ∨ (m15 86 3).toInt < (m15 86 2).toInt) := rv44
            show PV _ _ _ _ _ _ _ 30 [.ref 86, .int 2, .int y14, pv_U] [.int v44] _
            refine pv_istore_n (M := mX7_readTerm) 3 (lo2 := [.ref 86, .int 2, .int y14, .int v44]) dX7_readTerm_30 31 rfl rfl (by decide) rfl rfl ?_
            refine pv_aload_n (M := mX7_readTerm) 0 dX7_readTerm_31 32 rfl rfl rfl ?_
            refine pv_dup (M := mX7_readTerm) dX7_readTerm_32 33 rfl rfl ?_
            refine iv_get (M := mX7_readTerm) (l1 := 0) (l2 := 160) dX7_readTerm_33 FX7 3 wd283 (by decide) (tl86 hT) rfl I17 rfl 36 rfl (fun v45 ev45 pv45 qv45 => ?_)
            have wv45 : v45.toInt = (m15 86 3).toInt := congrArg Int32.toInt ev45
            refine pv_iconst (M := mX7_readTerm) (v := 1) dX7_readTerm_36 37 rfl (by decide) ?_
            refine iv_iadd (M := mX7_readTerm) (X := v45.toInt) (Y := 1) dX7_readTerm_37 38 rfl rfl (by decide) (by omega) (by omega) (fun v46 ev46 => ?_)
            refine iv_put (M := mX7_readTerm) (l1 := 0) (l2 := 160) dX7_readTerm_38 FX7 3 wd283 (by decide) rfl (tl86 hT) rfl rfl rfl I17 rfl (by omega) (by omega) 41 rfl (fun m47 e50 I48 => ?_)
            have K49 := K18.set e50 (by decide)
            have w51 : (m47 86 3).toInt = v46.toInt := by rw [e50, up2_eq]
            have w52 : (m47 86 2).toInt = (m15 86 2).toInt := by rw [e50, up2_ne (by omega)]
            have w53 : (m47 86 4).toInt = (m15 86 4).toInt := by rw [e50, up2_ne (by omega)]
            have w54 : (m47 lb 7).toInt = (m15 lb 7).toInt := by rw [e50, up2_ne (by omega)]
            have kt41 : tC m47 = tC m := tC_eq (K49 86 2 rfl) (fun j => K49 87 j rfl)
            have kp41 : (m47 86 3).toInt = (m15 86 3).toInt + 1 := by omega
            refine pv_aload_n (M := mX7_readTerm) 0 dX7_readTerm_41 42 rfl rfl rfl ?_
            refine pv_iload_n (M := mX7_readTerm) 1 dX7_readTerm_42 43 rfl rfl rfl ?_
            have z57 : (2 : Int32).toInt = 2 := by decide
            refine pv_callv (M := mX7_readTerm) (as := [.int 2]) (st := []) (kc2 := 0) (ks2 := 0) dX7_readTerm_43 wd547 YX7_readFactor ⟨wd549, wd6⟩ (mk_get (tl86 hT)) rfl rfl (s_X7_readFactor_v2x g hT I48 R (by first | omega | assumption | exact (iv_rng _).2 | exact (iv_rng _).1 | decide) (TBC_eq hp1 kt41)) rfl rfl (Nat.le_of_ble_eq_true rfl) (by decide) rfl rfl 46 rfl (fun rv h1 q58 => ?_)
            obtain ⟨m59, n60, v63, rfl, rfl, I61, K62, pv63, qv63, rv63⟩ := q58
            replace rv63 : (m47 86 3).toInt ≤ (m59 86 3).toInt ∧ (m59 86 3).toInt ≤ (m59 86 2).toInt ∧ (m59 86 2).toInt = (m47 86 2).toInt ∧ (RSX (FA (tC m47) 4 (m47 86 3).toInt) v63.toInt (m59 86 3).toInt (m59 86 4).toInt) ∧ (m59 lb 7).toInt = (m47 lb 7).toInt := by have q_ := rv63; (try rw [z57] at q_); exact q_
            have K62c := K62
            have K62 := K49.trans (K62.sub (fun _ _ q => q))
            show PV _ _ _ _ _ _ _ 46 [.ref 86, .int 2, .int y14, .int v44] [.int v63] _
            have k46 := rv63.2.2.2.1
            rw [kt41, kp41] at k46
            refine pv_if_ne (M := mX7_readTerm) (tgt := 51) dX7_readTerm_46 49 rfl (by decide) (fun c66 => ?_) (fun c66 => ?_)
            · have c66 := iv_ne (X := v63.toInt) (Y := 0) c66 rfl (by decide)
              have kF4 := RSX_ok k46 (by omega)
              have kF5 := FA_le 4 ((m15 86 3).toInt + 1) (by rw [kF4])
              rw [kF4] at kF5
              refine pv_aload_n (M := mX7_readTerm) 0 dX7_readTerm_51 52 rfl rfl rfl ?_
              refine mv_get (M := mX7_readTerm) (v := .ref lb) dX7_readTerm_52 FX7 1 wd281 (by decide) (tl86 hT) rfl R.2.2.2.1 55 rfl ?_
              refine pv_iload_n (M := mX7_readTerm) 3 dX7_readTerm_55 56 rfl rfl rfl ?_
              refine pv_iconst (M := mX7_readTerm) (v := 0) dX7_readTerm_56 57 rfl (by decide) ?_
              have z70 : (0 : Int32).toInt = 0 := by decide
              refine pv_callv (M := mX7_readTerm) (as := [.int v44, .int 0]) (st := []) (kc2 := 0) (ks2 := 0) dX7_readTerm_57 wd567 YX6_emit ⟨wd568, wd569⟩ (mk_get R.2.2.2.2.2.2.1) rfl rfl (s_X6_emit_vx g hT I61 lb R.2.2.2.2.2 v44 0 (by decide) (by decide)) rfl rfl (Nat.le_of_ble_eq_true rfl) (by decide) rfl rfl 60 rfl (fun rv h1 q71 => ?_)
              obtain ⟨m72, n73, rfl, rfl, I74, K75, rm72⟩ := q71
              replace rm72 : (m72 lb 7).toInt = (m59 lb 7).toInt := rm72
              have K75c := K75
              have w76 : (m72 86 3).toInt = (m59 86 3).toInt := congrArg Int32.toInt (K75 86 3 (wr_out (by omega)))
              have w77 : (m72 86 2).toInt = (m59 86 2).toInt := congrArg Int32.toInt (K75 86 2 (wr_out (by omega)))
              have w78 : (m72 86 4).toInt = (m59 86 4).toInt := congrArg Int32.toInt (K75 86 4 (wr_out (by omega)))
              have K75 := K62.trans (K75.sub (by first | exact wR7_r (by omega) | exact wR7_wr))
              show PV _ _ _ _ _ _ _ 60 [.ref 86, .int 2, .int y14, .int v44] [] _
              refine iv_inc (M := mX7_readTerm) (C := 1) dX7_readTerm_60 63 rfl rfl (by decide) rfl rfl (by decide) (by omega) (by omega) (fun v79 ev79 => ?_)
              show PV _ _ _ _ _ _ _ 63 [.ref 86, .int 2, .int v79, .int v44] [] _
              refine pv_goto (M := mX7_readTerm) (tgt := 12) dX7_readTerm_63 (by decide) ?_
              refine pv_fg (lo2 := [.ref 86, .int 2, .int v79, pv_U]) ⟨Or.inr rfl, ⟨Or.inr rfl, ⟨Or.inr rfl, ⟨Or.inl rfl, trivial⟩⟩⟩⟩ ?_
              have kbs : SU (tC m) 4 (m 86 3).toInt = LSu (tC m) 4 (m72 86 3).toInt := by rw [kgs, LSu_ok kTX (by omega) (isT_S kT) kF4]; congr 1; omega
              exact ih21 v79 m72 n73 (by first | omega | assumption | exact (iv_rng _).2 | exact (iv_rng _).1 | decide) (by first | omega | assumption | exact (iv_rng _).2 | exact (iv_rng _).1 | decide) (by first | omega | assumption | (show (m72 86 3).toInt ≤ (m72 86 2).toInt; omega) | decide) (by first | omega | assumption | (show (m72 86 2).toInt = (m 86 2).toInt; omega) | decide) (by first | omega | assumption | (show (m72 lb 7).toInt = (m lb 7).toInt; omega) | decide) (by first | omega | assumption | (show (m 86 3).toInt + 1 + 2 * v79.toInt ≤ (m72 86 3).toInt; omega) | decide) kbs I74 K75 (by omega)
            · have c66 := iv_eq (X := v63.toInt) (Y := 0) c66 rfl (by decide)
              refine pv_iconst (M := mX7_readTerm) (v := 0) dX7_readTerm_49 50 rfl (by decide) ?_
              have z81 : (0 : Int32).toInt = 0 := by decide
              exact pv_iret (M := mX7_readTerm) dX7_readTerm_50 rfl rfl ⟨_, _, _, rfl, rfl, I61, K62, by decide, by decide, ⟨by omega, by omega, by omega, ⟨Or.inl (by decide), Or.inr ⟨by decide, by rw [kgs]; exact LSu_fl kTX (by omega) (isT_S kT) (RSX_fl k46 (by omega))⟩⟩, by omega⟩⟩
    have z82 : (0 : Int32).toInt = 0 := by decide
    exact lp20 (((160 - 0) : Int).toNat + 1) 0 m4 n5 (by first | omega | assumption | exact (iv_rng _).2 | exact (iv_rng _).1 | decide) (by first | omega | assumption | exact (iv_rng _).2 | exact (iv_rng _).1 | decide) (by first | omega | assumption | (show (m4 86 3).toInt ≤ (m4 86 2).toInt; omega) | decide) (by first | omega | assumption | (show (m4 86 2).toInt = (m 86 2).toInt; omega) | decide) (by first | omega | assumption | (show (m4 lb 7).toInt = (m lb 7).toInt; omega) | decide) (by first | omega | assumption | (show (m 86 3).toInt + 1 + 2 * 0 ≤ (m4 86 3).toInt; omega) | decide) (SU_ok kF0) I6 K7 (by omega)
  · have c10 := iv_eq (X := v8.toInt) (Y := 0) c10 rfl (by decide)
    refine pv_iconst (M := mX7_readTerm) (v := 0) dX7_readTerm_8 9 rfl (by decide) ?_
    have z83 : (0 : Int32).toInt = 0 := by decide
    exact pv_iret (M := mX7_readTerm) dX7_readTerm_9 rfl rfl ⟨_, _, _, rfl, rfl, I6, K7, by decide, by decide, ⟨by omega, by omega, by omega, ⟨Or.inl (by decide), Or.inr ⟨by decide, SU_fl (RSX_fl k5 (by omega))⟩⟩, by omega⟩⟩

set_option maxHeartbeats 2000000 in
set_option maxRecDepth 20000 in
theorem s_X7_readSum_v2x (g : pv_G) {T : List mv_T} {m : Nat → Nat → Int32} {n : Nat → Nat → Int64} {r : Nat → Value} {la lb : Nat} (hT : TX T) (I : IV BB m) (R : RX T r la lb) (hp0 : (m 86 3).toInt ≤ (m 86 2).toInt) (hp1 : TBC m) : PM g mX7_readSum yX7_readSum (sqI T BB wR7 r m 0 1 (fun m' v => (m 86 3).toInt ≤ (m' 86 3).toInt ∧ (m' 86 3).toInt ≤ (m' 86 2).toInt ∧ (m' 86 2).toInt = (m 86 2).toInt ∧ (RSX (SU (tC m) 4 (m 86 3).toInt) v.toInt (m' 86 3).toInt (m' 86 4).toInt) ∧ (m' lb 7).toInt = (m lb 7).toInt)) 19 0 0 [.ref 86, .int 2] (mk T m n r) := by
  have Kp : fr wR7 m m := fr.rf
  have R0 := R
  have zR := R.2.2.2.2.1.1
  have zR2 := R.2.2.2.2.2.1
  have z133 : 0 ≤ (m 86 3).toInt ∧ (m 86 3).toInt ≤ 160 := I 86 3
  have z134 : 0 ≤ (m 86 2).toInt ∧ (m 86 2).toInt ≤ 160 := I 86 2
  refine PM.of 2 (lo := [.ref 86, .int 2, pv_U, pv_U]) rfl (by decide) rfl rfl (Nat.le_of_ble_eq_true rfl) ?_
  have kTX := TXT_C I
  refine pv_aload_n (M := mX7_readSum) 0 dX7_readSum_0 1 rfl rfl rfl ?_
  refine pv_iload_n (M := mX7_readSum) 1 dX7_readSum_1 2 rfl rfl rfl ?_
  have z2 : (2 : Int32).toInt = 2 := by decide
  refine pv_callv (M := mX7_readSum) (as := [.int 2]) (st := []) (kc2 := 0) (ks2 := 0) dX7_readSum_2 wd543 YX7_readTerm ⟨wd545, wd5⟩ (mk_get (tl86 hT)) rfl rfl (s_X7_readTerm_v2x g hT I R (by first | omega | assumption | exact (iv_rng _).2 | exact (iv_rng _).1 | decide) hp1) rfl rfl (Nat.le_of_ble_eq_true rfl) (by decide) rfl rfl 5 rfl (fun rv h1 q3 => ?_)
  obtain ⟨m4, n5, v8, rfl, rfl, I6, K7, pv8, qv8, rv8⟩ := q3
  replace rv8 : (m 86 3).toInt ≤ (m4 86 3).toInt ∧ (m4 86 3).toInt ≤ (m4 86 2).toInt ∧ (m4 86 2).toInt = (m 86 2).toInt ∧ ((v8.toInt = 0 ∨ (m 86 3).toInt + 1 ≤ (m4 86 3).toInt) ∧ TRX (SU (tC m) 4 (m 86 3).toInt) (LSu (tC m) 4) (fun a => isT (tC m a) = false) v8.toInt (m4 86 3).toInt (m4 86 4).toInt) ∧ (m4 lb 7).toInt = (m lb 7).toInt := by have q_ := rv8; (try rw [z2] at q_); exact q_
  have K7c := K7
  have K7 := Kp.trans (K7.sub (fun _ _ q => q))
  show PV _ _ _ _ _ _ _ 5 [.ref 86, .int 2, pv_U, pv_U] [.int v8] _
  have k5 := rv8.2.2.2.1.2
  have k5p := rv8.2.2.2.1.1
  refine pv_if_ne (M := mX7_readSum) (tgt := 10) dX7_readSum_5 8 rfl (by decide) (fun c11 => ?_) (fun c11 => ?_)
  · have c11 := iv_ne (X := v8.toInt) (Y := 0) c11 rfl (by decide)
    refine pv_iconst (M := mX7_readSum) (v := 0) dX7_readSum_10 11 rfl (by decide) ?_
    refine pv_istore_n (M := mX7_readSum) 2 (lo2 := [.ref 86, .int 2, .int 0, pv_U]) dX7_readSum_11 12 rfl rfl (by decide) rfl rfl ?_
    have lp18 : ∀ (fuel17 : Nat) (y12 : Int32) (m13 : Nat → Nat → Int32) (n14 : Nat → Nat → Int64), (0 ≤ y12.toInt) → (y12.toInt ≤ 160) → ((m13 86 3).toInt ≤ (m13 86 2).toInt) → ((m13 86 2).toInt = (m 86 2).toInt) → ((m13 lb 7).toInt = (m lb 7).toInt) → ((m 86 3).toInt + 1 + 2 * y12.toInt ≤ (m13 86 3).toInt) → (SU (tC m) 4 (m 86 3).toInt = LSu (tC m) 4 (m13 86 3).toInt) → (isT (tC m (m13 86 3).toInt) = false) → IV BB m13 → fr wR7 m m13 → ((160 - y12.toInt) : Int).toNat < fuel17 → PV none g mX7_readSum (sqI T BB wR7 r m 0 1 (fun m' v => (m 86 3).toInt ≤ (m' 86 3).toInt ∧ (m' 86 3).toInt ≤ (m' 86 2).toInt ∧ (m' 86 2).toInt = (m 86 2).toInt ∧ (RSX (SU (tC m) 4 (m 86 3).toInt) v.toInt (m' 86 3).toInt (m' 86 4).toInt) ∧ (m' lb 7).toInt = (m lb 7).toInt)) 19 0 0 12 [.ref 86, .int 2, .int y12, pv_U] [] (mk T m13 n14 r) := by
      intro fuel17
      induction fuel17 with
      | zero => intro y12 m13 n14 b20 b21 b22 b23 b24 b25 b26 b27 I15 K16 z28; omega
      | succ fuel17 ih19 =>
        intro y12 m13 n14 b20 b21 b22 b23 b24 b25 b26 b27 I15 K16 z28
        have z29 : 0 ≤ (m13 86 3).toInt ∧ (m13 86 3).toInt ≤ 160 := I15 86 3
        have z30 : 0 ≤ (m13 86 2).toInt ∧ (m13 86 2).toInt ≤ 160 := I15 86 2
        have kgs := (show SU (tC m) 4 (m 86 3).toInt = LSu (tC m) 4 (m13 86 3).toInt by assumption)
        have kgt := (show isT (tC m (m13 86 3).toInt) = false by assumption)
        have kt12 : tC m13 = tC m := tC_eq (K16 86 2 rfl) (fun j => K16 87 j rfl)
        refine pv_iload_n (M := mX7_readSum) 2 dX7_readSum_12 13 rfl rfl rfl ?_
        refine pv_sipush (M := mX7_readSum) (v := 160) dX7_readSum_13 16 rfl (by decide) ?_
        refine pv_icmp_ge (M := mX7_readSum) (tgt := 77) dX7_readSum_16 19 rfl (by decide) (fun c34 => ?_) (fun c34 => ?_)
        · have c34 := iv_le (X := 160) (Y := y12.toInt) c34 (by decide) rfl
          refine pv_iconst (M := mX7_readSum) (v := 1) dX7_readSum_77 78 rfl (by decide) ?_
          have z35 : (1 : Int32).toInt = 1 := by decide
          exact pv_iret (M := mX7_readSum) dX7_readSum_78 rfl rfl ⟨_, _, _, rfl, rfl, I15, K16, by decide, by decide, ⟨by omega, by omega, by omega, (by first | exact Or.inl ⟨by decide, by rw [kgs]; exact LSu_no (isS_n kgt (by omega) (by omega))⟩ | (exfalso; omega)), by omega⟩⟩
        · have c34 := iv_nle (X := 160) (Y := y12.toInt) c34 (by decide) rfl
          refine pv_aload_n (M := mX7_readSum) 0 dX7_readSum_19 20 rfl rfl rfl ?_
          refine pv_callv (M := mX7_readSum) (as := []) (st := []) (kc2 := 0) (ks2 := 0) dX7_readSum_20 wd527 YX7_peek ⟨wd529, wd2⟩ (mk_get (tl86 hT)) rfl rfl (s_X7_peek_vx g hT I15 R) rfl rfl (Nat.le_of_ble_eq_true rfl) (by decide) rfl rfl 23 rfl (fun rv h1 q36 => ?_)
          obtain ⟨v37, rfl, rfl, pv37, qv37, rv37⟩ := q36
          replace rv37 : v37.toInt = tC m13 (m13 86 3).toInt ∧ (v37.toInt = -1 ∨ (m13 86 3).toInt < (m13 86 2).toInt) := rv37
          show PV _ _ _ _ _ _ _ 23 [.ref 86, .int 2, .int y12, pv_U] [.int v37] _
          have k23 := rv37.1
          have k23b := rv37.2
          rw [kt12] at k23
          refine pv_bipush (M := mX7_readSum) (v := 43) dX7_readSum_23 25 rfl (by decide) ?_
          refine pv_icmp_eq (M := mX7_readSum) (tgt := 37) dX7_readSum_25 28 rfl (by decide) (fun c41 => ?_) (fun c41 => ?_)
          · have c41 := iv_eq (X := v37.toInt) (Y := 43) c41 rfl (by decide)
            have kS : isS (tC m (m13 86 3).toInt) = true := isS_y (by omega)
            refine pv_aload_n (M := mX7_readSum) 0 dX7_readSum_37 38 rfl rfl rfl ?_
            refine pv_callv (M := mX7_readSum) (as := []) (st := []) (kc2 := 0) (ks2 := 0) dX7_readSum_38 wd527 YX7_peek ⟨wd529, wd2⟩ (mk_get (tl86 hT)) rfl rfl (s_X7_peek_vx g hT I15 R) rfl rfl (Nat.le_of_ble_eq_true rfl) (by decide) rfl rfl 41 rfl (fun rv h1 q43 => ?_)
            obtain ⟨v44, rfl, rfl, pv44, qv44, rv44⟩ := q43
            replace rv44 : v44.toInt = tC m13 (m13 86 3).toInt ∧ (v44.toInt = -1 ∨ (m13 86 3).toInt < (m13 86 2).toInt) := rv44
            show PV _ _ _ _ _ _ _ 41 [.ref 86, .int 2, .int y12, pv_U] [.int v44] _
            refine pv_istore_n (M := mX7_readSum) 3 (lo2 := [.ref 86, .int 2, .int y12, .int v44]) dX7_readSum_41 42 rfl rfl (by decide) rfl rfl ?_
            refine pv_aload_n (M := mX7_readSum) 0 dX7_readSum_42 43 rfl rfl rfl ?_
            refine pv_dup (M := mX7_readSum) dX7_readSum_43 44 rfl rfl ?_
            refine iv_get (M := mX7_readSum) (l1 := 0) (l2 := 160) dX7_readSum_44 FX7 3 wd283 (by decide) (tl86 hT) rfl I15 rfl 47 rfl (fun v45 ev45 pv45 qv45 => ?_)
            have wv45 : v45.toInt = (m13 86 3).toInt := congrArg Int32.toInt ev45
            refine pv_iconst (M := mX7_readSum) (v := 1) dX7_readSum_47 48 rfl (by decide) ?_
            refine iv_iadd (M := mX7_readSum) (X := v45.toInt) (Y := 1) dX7_readSum_48 49 rfl rfl (by decide) (by omega) (by omega) (fun v46 ev46 => ?_)
            refine iv_put (M := mX7_readSum) (l1 := 0) (l2 := 160) dX7_readSum_49 FX7 3 wd283 (by decide) rfl (tl86 hT) rfl rfl rfl I15 rfl (by omega) (by omega) 52 rfl (fun m47 e50 I48 => ?_)
            have K49 := K16.set e50 (by decide)
            have w51 : (m47 86 3).toInt = v46.toInt := by rw [e50, up2_eq]
            have w52 : (m47 86 2).toInt = (m13 86 2).toInt := by rw [e50, up2_ne (by omega)]
            have w53 : (m47 86 4).toInt = (m13 86 4).toInt := by rw [e50, up2_ne (by omega)]
            have w54 : (m47 lb 7).toInt = (m13 lb 7).toInt := by rw [e50, up2_ne (by omega)]
            have kt52 : tC m47 = tC m := tC_eq (K49 86 2 rfl) (fun j => K49 87 j rfl)
            have kp52 : (m47 86 3).toInt = (m13 86 3).toInt + 1 := by omega
            refine pv_aload_n (M := mX7_readSum) 0 dX7_readSum_52 53 rfl rfl rfl ?_
            refine pv_iload_n (M := mX7_readSum) 1 dX7_readSum_53 54 rfl rfl rfl ?_
            have z57 : (2 : Int32).toInt = 2 := by decide
            refine pv_callv (M := mX7_readSum) (as := [.int 2]) (st := []) (kc2 := 0) (ks2 := 0) dX7_readSum_54 wd543 YX7_readTerm ⟨wd545, wd5⟩ (mk_get (tl86 hT)) rfl rfl (s_X7_readTerm_v2x g hT I48 R (by first | omega | assumption | exact (iv_rng _).2 | exact (iv_rng _).1 | decide) (TBC_eq hp1 kt52)) rfl rfl (Nat.le_of_ble_eq_true rfl) (by decide) rfl rfl 57 rfl (fun rv h1 q58 => ?_)
            obtain ⟨m59, n60, v63, rfl, rfl, I61, K62, pv63, qv63, rv63⟩ := q58
            replace rv63 : (m47 86 3).toInt ≤ (m59 86 3).toInt ∧ (m59 86 3).toInt ≤ (m59 86 2).toInt ∧ (m59 86 2).toInt = (m47 86 2).toInt ∧ ((v63.toInt = 0 ∨ (m47 86 3).toInt + 1 ≤ (m59 86 3).toInt) ∧ TRX (SU (tC m47) 4 (m47 86 3).toInt) (LSu (tC m47) 4) (fun a => isT (tC m47 a) = false) v63.toInt (m59 86 3).toInt (m59 86 4).toInt) ∧ (m59 lb 7).toInt = (m47 lb 7).toInt := by have q_ := rv63; (try rw [z57] at q_); exact q_
            have K62c := K62
            have K62 := K49.trans (K62.sub (fun _ _ q => q))
            show PV _ _ _ _ _ _ _ 57 [.ref 86, .int 2, .int y12, .int v44] [.int v63] _
            have k57 := rv63.2.2.2.1.2
            have k57p := rv63.2.2.2.1.1
            rw [kt52, kp52] at k57
            refine pv_if_ne (M := mX7_readSum) (tgt := 62) dX7_readSum_57 60 rfl (by decide) (fun c67 => ?_) (fun c67 => ?_)
            · have c67 := iv_ne (X := v63.toInt) (Y := 0) c67 rfl (by decide)
              have kT6 := TRX_ok k57 (by omega)
              refine pv_aload_n (M := mX7_readSum) 0 dX7_readSum_62 63 rfl rfl rfl ?_
              refine mv_get (M := mX7_readSum) (v := .ref lb) dX7_readSum_63 FX7 1 wd281 (by decide) (tl86 hT) rfl R.2.2.2.1 66 rfl ?_
              refine pv_iload_n (M := mX7_readSum) 3 dX7_readSum_66 67 rfl rfl rfl ?_
              refine pv_iconst (M := mX7_readSum) (v := 0) dX7_readSum_67 68 rfl (by decide) ?_
              have z69 : (0 : Int32).toInt = 0 := by decide
              refine pv_callv (M := mX7_readSum) (as := [.int v44, .int 0]) (st := []) (kc2 := 0) (ks2 := 0) dX7_readSum_68 wd567 YX6_emit ⟨wd568, wd569⟩ (mk_get R.2.2.2.2.2.2.1) rfl rfl (s_X6_emit_vx g hT I61 lb R.2.2.2.2.2 v44 0 (by decide) (by decide)) rfl rfl (Nat.le_of_ble_eq_true rfl) (by decide) rfl rfl 71 rfl (fun rv h1 q70 => ?_)
              obtain ⟨m71, n72, rfl, rfl, I73, K74, rm71⟩ := q70
              replace rm71 : (m71 lb 7).toInt = (m59 lb 7).toInt := rm71
              have K74c := K74
              have w75 : (m71 86 3).toInt = (m59 86 3).toInt := congrArg Int32.toInt (K74 86 3 (wr_out (by omega)))
              have w76 : (m71 86 2).toInt = (m59 86 2).toInt := congrArg Int32.toInt (K74 86 2 (wr_out (by omega)))
              have w77 : (m71 86 4).toInt = (m59 86 4).toInt := congrArg Int32.toInt (K74 86 4 (wr_out (by omega)))
              have K74 := K62.trans (K74.sub (by first | exact wR7_r (by omega) | exact wR7_wr))
              show PV _ _ _ _ _ _ _ 71 [.ref 86, .int 2, .int y12, .int v44] [] _
              refine iv_inc (M := mX7_readSum) (C := 1) dX7_readSum_71 74 rfl rfl (by decide) rfl rfl (by decide) (by omega) (by omega) (fun v78 ev78 => ?_)
              show PV _ _ _ _ _ _ _ 74 [.ref 86, .int 2, .int v78, .int v44] [] _
              refine pv_goto (M := mX7_readSum) (tgt := 12) dX7_readSum_74 (by decide) ?_
              refine pv_fg (lo2 := [.ref 86, .int 2, .int v78, pv_U]) ⟨Or.inr rfl, ⟨Or.inr rfl, ⟨Or.inr rfl, ⟨Or.inl rfl, trivial⟩⟩⟩⟩ ?_
              have kb3 : (m71 86 3).toInt = (m59 86 3).toInt := by omega
              have kbs : SU (tC m) 4 (m 86 3).toInt = LSu (tC m) 4 (m71 86 3).toInt := by rw [kgs, LSu_su kTX (by omega) kS, kT6.1]; congr 1; omega
              have kbt : isT (tC m (m71 86 3).toInt) = false := by rw [kb3]; exact kT6.2
              exact ih19 v78 m71 n72 (by first | omega | assumption | exact (iv_rng _).2 | exact (iv_rng _).1 | decide) (by first | omega | assumption | exact (iv_rng _).2 | exact (iv_rng _).1 | decide) (by first | omega | assumption | (show (m71 86 3).toInt ≤ (m71 86 2).toInt; omega) | decide) (by first | omega | assumption | (show (m71 86 2).toInt = (m 86 2).toInt; omega) | decide) (by first | omega | assumption | (show (m71 lb 7).toInt = (m lb 7).toInt; omega) | decide) (by first | omega | assumption | (show (m 86 3).toInt + 1 + 2 * v78.toInt ≤ (m71 86 3).toInt; omega) | decide) kbs kbt I73 K74 (by omega)
            · have c67 := iv_eq (X := v63.toInt) (Y := 0) c67 rfl (by decide)
              refine pv_iconst (M := mX7_readSum) (v := 0) dX7_readSum_60 61 rfl (by decide) ?_
              have z82 : (0 : Int32).toInt = 0 := by decide
              exact pv_iret (M := mX7_readSum) dX7_readSum_61 rfl rfl ⟨_, _, _, rfl, rfl, I61, K62, by decide, by decide, ⟨by omega, by omega, by omega, Or.inr ⟨by decide, by rw [kgs, LSu_su kTX (by omega) kS]; exact TRX_fl k57 (by omega)⟩, by omega⟩⟩
          · have c41 := iv_ne (X := v37.toInt) (Y := 43) c41 rfl (by decide)
            refine pv_aload_n (M := mX7_readSum) 0 dX7_readSum_28 29 rfl rfl rfl ?_
            refine pv_callv (M := mX7_readSum) (as := []) (st := []) (kc2 := 0) (ks2 := 0) dX7_readSum_29 wd527 YX7_peek ⟨wd529, wd2⟩ (mk_get (tl86 hT)) rfl rfl (s_X7_peek_vx g hT I15 R) rfl rfl (Nat.le_of_ble_eq_true rfl) (by decide) rfl rfl 32 rfl (fun rv h1 q83 => ?_)
            obtain ⟨v84, rfl, rfl, pv84, qv84, rv84⟩ := q83
            replace rv84 : v84.toInt = tC m13 (m13 86 3).toInt ∧ (v84.toInt = -1 ∨ (m13 86 3).toInt < (m13 86 2).toInt) := rv84
            show PV _ _ _ _ _ _ _ 32 [.ref 86, .int 2, .int y12, pv_U] [.int v84] _
            have k32 := rv84.1
            have k32b := rv84.2
            rw [kt12] at k32
            refine pv_bipush (M := mX7_readSum) (v := 45) dX7_readSum_32 34 rfl (by decide) ?_
            refine pv_icmp_ne (M := mX7_readSum) (tgt := 77) dX7_readSum_34 37 rfl (by decide) (fun c88 => ?_) (fun c88 => ?_)
            · have c88 := iv_ne (X := v84.toInt) (Y := 45) c88 rfl (by decide)
              refine pv_iconst (M := mX7_readSum) (v := 1) dX7_readSum_77 78 rfl (by decide) ?_
              have z89 : (1 : Int32).toInt = 1 := by decide
              exact pv_iret (M := mX7_readSum) dX7_readSum_78 rfl rfl ⟨_, _, _, rfl, rfl, I15, K16, by decide, by decide, ⟨by omega, by omega, by omega, (by first | exact Or.inl ⟨by decide, by rw [kgs]; exact LSu_no (isS_n kgt (by omega) (by omega))⟩ | (exfalso; omega)), by omega⟩⟩
            · have c88 := iv_eq (X := v84.toInt) (Y := 45) c88 rfl (by decide)
              have kS : isS (tC m (m13 86 3).toInt) = true := isS_y (by omega)
              refine pv_aload_n (M := mX7_readSum) 0 dX7_readSum_37 38 rfl rfl rfl ?_
              refine pv_callv (M := mX7_readSum) (as := []) (st := []) (kc2 := 0) (ks2 := 0) dX7_readSum_38 wd527 YX7_peek ⟨wd529, wd2⟩ (mk_get (tl86 hT)) rfl rfl (s_X7_peek_vx g hT I15 R) rfl rfl (Nat.le_of_ble_eq_true rfl) (by decide) rfl rfl 41 rfl (fun rv h1 q91 => ?_)
              obtain ⟨v92, rfl, rfl, pv92, qv92, rv92⟩ := q91
              replace rv92 : v92.toInt = tC m13 (m13 86 3).toInt ∧ (v92.toInt = -1 ∨ (m13 86 3).toInt < (m13 86 2).toInt) := rv92
              show PV _ _ _ _ _ _ _ 41 [.ref 86, .int 2, .int y12, pv_U] [.int v92] _
              refine pv_istore_n (M := mX7_readSum) 3 (lo2 := [.ref 86, .int 2, .int y12, .int v92]) dX7_readSum_41 42 rfl rfl (by decide) rfl rfl ?_
              refine pv_aload_n (M := mX7_readSum) 0 dX7_readSum_42 43 rfl rfl rfl ?_
              refine pv_dup (M := mX7_readSum) dX7_readSum_43 44 rfl rfl ?_
              refine iv_get (M := mX7_readSum) (l1 := 0) (l2 := 160) dX7_readSum_44 FX7 3 wd283 (by decide) (tl86 hT) rfl I15 rfl 47 rfl (fun v93 ev93 pv93 qv93 => ?_)
              have wv93 : v93.toInt = (m13 86 3).toInt := congrArg Int32.toInt ev93
              refine pv_iconst (M := mX7_readSum) (v := 1) dX7_readSum_47 48 rfl (by decide) ?_
              refine iv_iadd (M := mX7_readSum) (X := v93.toInt) (Y := 1) dX7_readSum_48 49 rfl rfl (by decide) (by omega) (by omega) (fun v94 ev94 => ?_)
              refine iv_put (M := mX7_readSum) (l1 := 0) (l2 := 160) dX7_readSum_49 FX7 3 wd283 (by decide) rfl (tl86 hT) rfl rfl rfl I15 rfl (by omega) (by omega) 52 rfl (fun m95 e98 I96 => ?_)
              have K97 := K16.set e98 (by decide)
              have w99 : (m95 86 3).toInt = v94.toInt := by rw [e98, up2_eq]
              have w100 : (m95 86 2).toInt = (m13 86 2).toInt := by rw [e98, up2_ne (by omega)]
              have w101 : (m95 86 4).toInt = (m13 86 4).toInt := by rw [e98, up2_ne (by omega)]
              have w102 : (m95 lb 7).toInt = (m13 lb 7).toInt := by rw [e98, up2_ne (by omega)]
              have kt52 : tC m95 = tC m := tC_eq (K97 86 2 rfl) (fun j => K97 87 j rfl)
              have kp52 : (m95 86 3).toInt = (m13 86 3).toInt + 1 := by omega
              refine pv_aload_n (M := mX7_readSum) 0 dX7_readSum_52 53 rfl rfl rfl ?_
              refine pv_iload_n (M := mX7_readSum) 1 dX7_readSum_53 54 rfl rfl rfl ?_
              have z105 : (2 : Int32).toInt = 2 := by decide
              refine pv_callv (M := mX7_readSum) (as := [.int 2]) (st := []) (kc2 := 0) (ks2 := 0) dX7_readSum_54 wd543 YX7_readTerm ⟨wd545, wd5⟩ (mk_get (tl86 hT)) rfl rfl (s_X7_readTerm_v2x g hT I96 R (by first | omega | assumption | exact (iv_rng _).2 | exact (iv_rng _).1 | decide) (TBC_eq hp1 kt52)) rfl rfl (Nat.le_of_ble_eq_true rfl) (by decide) rfl rfl 57 rfl (fun rv h1 q106 => ?_)
              obtain ⟨m107, n108, v111, rfl, rfl, I109, K110, pv111, qv111, rv111⟩ := q106
              replace rv111 : (m95 86 3).toInt ≤ (m107 86 3).toInt ∧ (m107 86 3).toInt ≤ (m107 86 2).toInt ∧ (m107 86 2).toInt = (m95 86 2).toInt ∧ ((v111.toInt = 0 ∨ (m95 86 3).toInt + 1 ≤ (m107 86 3).toInt) ∧ TRX (SU (tC m95) 4 (m95 86 3).toInt) (LSu (tC m95) 4) (fun a => isT (tC m95 a) = false) v111.toInt (m107 86 3).toInt (m107 86 4).toInt) ∧ (m107 lb 7).toInt = (m95 lb 7).toInt := by have q_ := rv111; (try rw [z105] at q_); exact q_
              have K110c := K110
              have K110 := K97.trans (K110.sub (fun _ _ q => q))
              show PV _ _ _ _ _ _ _ 57 [.ref 86, .int 2, .int y12, .int v92] [.int v111] _
              have k57 := rv111.2.2.2.1.2
              have k57p := rv111.2.2.2.1.1
              rw [kt52, kp52] at k57
              refine pv_if_ne (M := mX7_readSum) (tgt := 62) dX7_readSum_57 60 rfl (by decide) (fun c115 => ?_) (fun c115 => ?_)
              · have c115 := iv_ne (X := v111.toInt) (Y := 0) c115 rfl (by decide)
                have kT6 := TRX_ok k57 (by omega)
                refine pv_aload_n (M := mX7_readSum) 0 dX7_readSum_62 63 rfl rfl rfl ?_
                refine mv_get (M := mX7_readSum) (v := .ref lb) dX7_readSum_63 FX7 1 wd281 (by decide) (tl86 hT) rfl R.2.2.2.1 66 rfl ?_
                refine pv_iload_n (M := mX7_readSum) 3 dX7_readSum_66 67 rfl rfl rfl ?_
                refine pv_iconst (M := mX7_readSum) (v := 0) dX7_readSum_67 68 rfl (by decide) ?_
                have z117 : (0 : Int32).toInt = 0 := by decide
                refine pv_callv (M := mX7_readSum) (as := [.int v92, .int 0]) (st := []) (kc2 := 0) (ks2 := 0) dX7_readSum_68 wd567 YX6_emit ⟨wd568, wd569⟩ (mk_get R.2.2.2.2.2.2.1) rfl rfl (s_X6_emit_vx g hT I109 lb R.2.2.2.2.2 v92 0 (by decide) (by decide)) rfl rfl (Nat.le_of_ble_eq_true rfl) (by decide) rfl rfl 71 rfl (fun rv h1 q118 => ?_)
                obtain ⟨m119, n120, rfl, rfl, I121, K122, rm119⟩ := q118
                replace rm119 : (m119 lb 7).toInt = (m107 lb 7).toInt := rm119
                have K122c := K122
                have w123 : (m119 86 3).toInt = (m107 86 3).toInt := congrArg Int32.toInt (K122 86 3 (wr_out (by omega)))
                have w124 : (m119 86 2).toInt = (m107 86 2).toInt := congrArg Int32.toInt (K122 86 2 (wr_out (by omega)))
                have w125 : (m119 86 4).toInt = (m107 86 4).toInt := congrArg Int32.toInt (K122 86 4 (wr_out (by omega)))
                have K122 := K110.trans (K122.sub (by first | exact wR7_r (by omega) | exact wR7_wr))
                show PV _ _ _ _ _ _ _ 71 [.ref 86, .int 2, .int y12, .int v92] [] _
                refine iv_inc (M := mX7_readSum) (C := 1) dX7_readSum_71 74 rfl rfl (by decide) rfl rfl (by decide) (by omega) (by omega) (fun v126 ev126 => ?_)
                show PV _ _ _ _ _ _ _ 74 [.ref 86, .int 2, .int v126, .int v92] [] _
                refine pv_goto (M := mX7_readSum) (tgt := 12) dX7_readSum_74 (by decide) ?_
                refine pv_fg (lo2 := [.ref 86, .int 2, .int v126, pv_U]) ⟨Or.inr rfl, ⟨Or.inr rfl, ⟨Or.inr rfl, ⟨Or.inl rfl, trivial⟩⟩⟩⟩ ?_
                have kb3 : (m119 86 3).toInt = (m107 86 3).toInt := by omega
                have kbs : SU (tC m) 4 (m 86 3).toInt = LSu (tC m) 4 (m119 86 3).toInt := by rw [kgs, LSu_su kTX (by omega) kS, kT6.1]; congr 1; omega
                have kbt : isT (tC m (m119 86 3).toInt) = false := by rw [kb3]; exact kT6.2
                exact ih19 v126 m119 n120 (by first | omega | assumption | exact (iv_rng _).2 | exact (iv_rng _).1 | decide) (by first | omega | assumption | exact (iv_rng _).2 | exact (iv_rng _).1 | decide) (by first | omega | assumption | (show (m119 86 3).toInt ≤ (m119 86 2).toInt; omega) | decide) (by first | omega | assumption | (show (m119 86 2).toInt = (m 86 2).toInt; omega) | decide) (by first | omega | assumption | (show (m119 lb 7).toInt = (m lb 7).toInt; omega) | decide) (by first | omega | assumption | (show (m 86 3).toInt + 1 + 2 * v126.toInt ≤ (m119 86 3).toInt; omega) | decide) kbs kbt I121 K122 (by omega)
              · have c115 := iv_eq (X := v111.toInt) (Y := 0) c115 rfl (by decide)
                refine pv_iconst (M := mX7_readSum) (v := 0) dX7_readSum_60 61 rfl (by decide) ?_
                have z130 : (0 : Int32).toInt = 0 := by decide
                exact pv_iret (M := mX7_readSum) dX7_readSum_61 rfl rfl ⟨_, _, _, rfl, rfl, I109, K110, by decide, by decide, ⟨by omega, by omega, by omega, Or.inr ⟨by decide, by rw [kgs, LSu_su kTX (by omega) kS]; exact TRX_fl k57 (by omega)⟩, by omega⟩⟩
    have z131 : (0 : Int32).toInt = 0 := by decide
    exact lp18 (((160 - 0) : Int).toNat + 1) 0 m4 n5 (by first | omega | assumption | exact (iv_rng _).2 | exact (iv_rng _).1 | decide) (by first | omega | assumption | exact (iv_rng _).2 | exact (iv_rng _).1 | decide) (by first | omega | assumption | (show (m4 86 3).toInt ≤ (m4 86 2).toInt; omega) | decide) (by first | omega | assumption | (show (m4 86 2).toInt = (m 86 2).toInt; omega) | decide) (by first | omega | assumption | (show (m4 lb 7).toInt = (m lb 7).toInt; omega) | decide) (by first | omega | assumption | (show (m 86 3).toInt + 1 + 2 * 0 ≤ (m4 86 3).toInt; omega) | decide) (TRX_ok k5 (by omega)).1 (TRX_ok k5 (by omega)).2 I6 K7 (by omega)
  · have c11 := iv_eq (X := v8.toInt) (Y := 0) c11 rfl (by decide)
    refine pv_iconst (M := mX7_readSum) (v := 0) dX7_readSum_8 9 rfl (by decide) ?_
    have z132 : (0 : Int32).toInt = 0 := by decide
    exact pv_iret (M := mX7_readSum) dX7_readSum_9 rfl rfl ⟨_, _, _, rfl, rfl, I6, K7, by decide, by decide, ⟨by omega, by omega, by omega, Or.inr ⟨by decide, TRX_fl k5 (by omega)⟩, by omega⟩⟩

set_option maxHeartbeats 2000000 in
set_option maxRecDepth 20000 in
theorem s_X7_readFactor_v1x (g : pv_G) {T : List mv_T} {m : Nat → Nat → Int32} {n : Nat → Nat → Int64} {r : Nat → Value} {la lb : Nat} (hT : TX T) (I : IV BB m) (R : RX T r la lb) (hp0 : (m 86 3).toInt ≤ (m 86 2).toInt) (hp1 : TBC m) : PM g mX7_readFactor yX7_readFactor (sqI T BB wR7 r m 0 1 (fun m' v => (m 86 3).toInt ≤ (m' 86 3).toInt ∧ (m' 86 3).toInt ≤ (m' 86 2).toInt ∧ (m' 86 2).toInt = (m 86 2).toInt ∧ (RSX (FA (tC m) 5 (m 86 3).toInt) v.toInt (m' 86 3).toInt (m' 86 4).toInt) ∧ (m' lb 7).toInt = (m lb 7).toInt)) 20 0 0 [.ref 86, .int 1] (mk T m n r) := by
  have Kp : fr wR7 m m := fr.rf
  have R0 := R
  have zR := R.2.2.2.2.1.1
  have zR2 := R.2.2.2.2.2.1
  have z108 : 0 ≤ (m 86 3).toInt ∧ (m 86 3).toInt ≤ 160 := I 86 3
  have z109 : 0 ≤ (m 86 2).toInt ∧ (m 86 2).toInt ≤ 160 := I 86 2
  refine PM.of 1 (lo := [.ref 86, .int 1, pv_U]) rfl (by decide) rfl rfl (Nat.le_of_ble_eq_true rfl) ?_
  refine pv_aload_n (M := mX7_readFactor) 0 dX7_readFactor_0 1 rfl rfl rfl ?_
  refine pv_callv (M := mX7_readFactor) (as := []) (st := []) (kc2 := 0) (ks2 := 0) dX7_readFactor_1 wd527 YX7_peek ⟨wd529, wd2⟩ (mk_get (tl86 hT)) rfl rfl (s_X7_peek_vx g hT I R) rfl rfl (Nat.le_of_ble_eq_true rfl) (by decide) rfl rfl 4 rfl (fun rv h1 q1 => ?_)
  obtain ⟨v2, rfl, rfl, pv2, qv2, rv2⟩ := q1
  replace rv2 : v2.toInt = tC m (m 86 3).toInt ∧ (v2.toInt = -1 ∨ (m 86 3).toInt < (m 86 2).toInt) := rv2
  show PV _ _ _ _ _ _ _ 4 [.ref 86, .int 1, pv_U] [.int v2] _
  have k4 := rv2.1
  have k4b := rv2.2
  refine pv_bipush (M := mX7_readFactor) (v := 91) dX7_readFactor_4 6 rfl (by decide) ?_
  refine pv_icmp_ne (M := mX7_readFactor) (tgt := 42) dX7_readFactor_6 9 rfl (by decide) (fun c5 => ?_) (fun c5 => ?_)
  · have c5 := iv_ne (X := v2.toInt) (Y := 91) c5 rfl (by decide)
    have kn91 : tC m (m 86 3).toInt ≠ 91 := by omega
    refine pv_aload_n (M := mX7_readFactor) 0 dX7_readFactor_42 43 rfl rfl rfl ?_
    refine pv_callv (M := mX7_readFactor) (as := []) (st := []) (kc2 := 0) (ks2 := 0) dX7_readFactor_43 wd559 YX7_digitAhead ⟨wd561, wd9⟩ (mk_get (tl86 hT)) rfl rfl (s_X7_digitAhead_vx g hT I R) rfl rfl (Nat.le_of_ble_eq_true rfl) (by decide) rfl rfl 46 rfl (fun rv h1 q7 => ?_)
    obtain ⟨v8, rfl, rfl, pv8, qv8, rv8⟩ := q7
    replace rv8 : (v8 = 0 ∨ ((m 86 3).toInt < (m 86 2).toInt ∧ 48 ≤ (m 87 (m 86 3).toInt.toNat).toInt ∧ (m 87 (m 86 3).toInt.toNat).toInt ≤ 57)) ∧ ((v8.toInt = 1 ∧ dig (tC m (m 86 3).toInt) = true) ∨ (v8.toInt = 0 ∧ dig (tC m (m 86 3).toInt) = false)) := rv8
    show PV _ _ _ _ _ _ _ 46 [.ref 86, .int 1, pv_U] [.int v8] _
    have k46 := rv8.2
    refine pv_if_eq (M := mX7_readFactor) (tgt := 54) dX7_readFactor_46 49 rfl (by decide) (fun c10 => ?_) (fun c10 => ?_)
    · have c10 := iv_eq (X := v8.toInt) (Y := 0) c10 rfl (by decide)
      have kdn := (k46.resolve_left (fun q => by have q1 := q.1; omega)).2
      refine pv_aload_n (M := mX7_readFactor) 0 dX7_readFactor_54 55 rfl rfl rfl ?_
      refine pv_callv (M := mX7_readFactor) (as := []) (st := []) (kc2 := 0) (ks2 := 0) dX7_readFactor_55 wd527 YX7_peek ⟨wd529, wd2⟩ (mk_get (tl86 hT)) rfl rfl (s_X7_peek_vx g hT I R) rfl rfl (Nat.le_of_ble_eq_true rfl) (by decide) rfl rfl 58 rfl (fun rv h1 q12 => ?_)
      obtain ⟨v13, rfl, rfl, pv13, qv13, rv13⟩ := q12
      replace rv13 : v13.toInt = tC m (m 86 3).toInt ∧ (v13.toInt = -1 ∨ (m 86 3).toInt < (m 86 2).toInt) := rv13
      show PV _ _ _ _ _ _ _ 58 [.ref 86, .int 1, pv_U] [.int v13] _
      have k58 := rv13.1
      refine pv_iconst (M := mX7_readFactor) (v := (-1)) dX7_readFactor_58 59 rfl (by decide) ?_
      refine pv_icmp_ne (M := mX7_readFactor) (tgt := 66) dX7_readFactor_59 62 rfl (by decide) (fun c15 => ?_) (fun c15 => ?_)
      · have c15 := iv_ne (X := v13.toInt) (Y := (-1)) c15 rfl (by decide)
        refine pv_ldcS (M := mX7_readFactor) dX7_readFactor_66 rfl 68 rfl ?_
        refine pv_aload_n (M := mX7_readFactor) 0 dX7_readFactor_68 69 rfl rfl rfl ?_
        refine pv_callv (M := mX7_readFactor) (as := []) (st := [.retAddr (g.2.2.1 6 + 1)]) (kc2 := 0) (ks2 := 0) dX7_readFactor_69 wd527 YX7_peek ⟨wd529, wd2⟩ (mk_get (tl86 hT)) rfl rfl (s_X7_peek_vx g hT I R) rfl rfl (Nat.le_of_ble_eq_true rfl) (by decide) rfl rfl 72 rfl (fun rv h1 q16 => ?_)
        obtain ⟨v17, rfl, rfl, pv17, qv17, rv17⟩ := q16
        replace rv17 : v17.toInt = tC m (m 86 3).toInt ∧ (v17.toInt = -1 ∨ (m 86 3).toInt < (m 86 2).toInt) := rv17
        show PV _ _ _ _ _ _ _ 72 [.ref 86, .int 1, pv_U] [.int v17, .retAddr (g.2.2.1 6 + 1)] _
        have k72 := rv17.1
        have kb72 := hp1 (m 86 3).toInt
        refine iv_i2cU (M := mX7_readFactor) dX7_readFactor_72 73 rfl (fun v20 ev20 => ?_)
        have k73 := i2c_eq ev20 (by omega) (by omega)
        refine pv_callvS (M := mX7_readFactor) (as := [.int v20]) (st := []) (kc2 := 0) (ks2 := 0) dX7_readFactor_73 wd572 YJ0_indexOf_0f7a4 ⟨wd573, wd574⟩ rfl (s_J0_indexOf_0f7a4_vx g hT I v20 (by omega) (by omega)) rfl rfl (Nat.le_of_ble_eq_true rfl) (by decide) rfl rfl 76 rfl (fun rv h1 q22 => ?_)
        obtain ⟨v23, rfl, rfl, pv23, qv23, rv23⟩ := q22
        replace rv23 : v23.toInt = nix v20.toInt := rv23
        show PV _ _ _ _ _ _ _ 76 [.ref 86, .int 1, pv_U] [.int v23] _
        have k76 : v23.toInt = nix (tC m (m 86 3).toInt) := by first | (rw [show tC m (m 86 3).toInt = -1 by omega]; decide) | (rw [rv23, k73, k72])
        refine pv_istore_n (M := mX7_readFactor) 2 (lo2 := [.ref 86, .int 1, .int v23]) dX7_readFactor_76 77 rfl rfl (by decide) rfl rfl ?_
        refine pv_iload_n (M := mX7_readFactor) 2 dX7_readFactor_77 78 rfl rfl rfl ?_
        refine pv_if_ge (M := mX7_readFactor) (tgt := 87) dX7_readFactor_78 81 rfl (by decide) (fun c25 => ?_) (fun c25 => ?_)
        · have c25 := iv_le (X := 0) (Y := v23.toInt) c25 (by decide) rfl
          refine pv_aload_n (M := mX7_readFactor) 0 dX7_readFactor_87 88 rfl rfl rfl ?_
          refine mv_get (M := mX7_readFactor) (v := .ref lb) dX7_readFactor_88 FX7 1 wd281 (by decide) (tl86 hT) rfl R.2.2.2.1 91 rfl ?_
          refine pv_bipush (M := mX7_readFactor) (v := 36) dX7_readFactor_91 93 rfl (by decide) ?_
          refine pv_iload_n (M := mX7_readFactor) 2 dX7_readFactor_93 94 rfl rfl rfl ?_
          have z26 : (36 : Int32).toInt = 36 := by decide
          refine pv_callv (M := mX7_readFactor) (as := [.int 36, .int v23]) (st := []) (kc2 := 0) (ks2 := 0) dX7_readFactor_94 wd567 YX6_emit ⟨wd568, wd569⟩ (mk_get R.2.2.2.2.2.2.1) rfl rfl (s_X6_emit_vx g hT I lb R.2.2.2.2.2 36 v23 (by omega) (by omega)) rfl rfl (Nat.le_of_ble_eq_true rfl) (by decide) rfl rfl 97 rfl (fun rv h1 q27 => ?_)
          obtain ⟨m28, n29, rfl, rfl, I30, K31, rm28⟩ := q27
          replace rm28 : (m28 lb 7).toInt = (m lb 7).toInt := rm28
          have K31c := K31
          have w32 : (m28 86 3).toInt = (m 86 3).toInt := congrArg Int32.toInt (K31 86 3 (wr_out (by omega)))
          have w33 : (m28 86 2).toInt = (m 86 2).toInt := congrArg Int32.toInt (K31 86 2 (wr_out (by omega)))
          have w34 : (m28 86 4).toInt = (m 86 4).toInt := congrArg Int32.toInt (K31 86 4 (wr_out (by omega)))
          have K31 := Kp.trans (K31.sub (by first | exact wR7_r (by omega) | exact wR7_wr))
          show PV _ _ _ _ _ _ _ 97 [.ref 86, .int 1, .int v23] [] _
          refine pv_aload_n (M := mX7_readFactor) 0 dX7_readFactor_97 98 rfl rfl rfl ?_
          refine pv_dup (M := mX7_readFactor) dX7_readFactor_98 99 rfl rfl ?_
          refine iv_get (M := mX7_readFactor) (l1 := 0) (l2 := 160) dX7_readFactor_99 FX7 3 wd283 (by decide) (tl86 hT) rfl I30 rfl 102 rfl (fun v35 ev35 pv35 qv35 => ?_)
          have wv35 : v35.toInt = (m28 86 3).toInt := congrArg Int32.toInt ev35
          refine pv_iconst (M := mX7_readFactor) (v := 1) dX7_readFactor_102 103 rfl (by decide) ?_
          refine iv_iadd (M := mX7_readFactor) (X := v35.toInt) (Y := 1) dX7_readFactor_103 104 rfl rfl (by decide) (by omega) (by omega) (fun v36 ev36 => ?_)
          refine iv_put (M := mX7_readFactor) (l1 := 0) (l2 := 160) dX7_readFactor_104 FX7 3 wd283 (by decide) rfl (tl86 hT) rfl rfl rfl I30 rfl (by omega) (by omega) 107 rfl (fun m37 e40 I38 => ?_)
          have K39 := K31.set e40 (by decide)
          have w41 : (m37 86 3).toInt = v36.toInt := by rw [e40, up2_eq]
          have w42 : (m37 86 2).toInt = (m28 86 2).toInt := by rw [e40, up2_ne (by omega)]
          have w43 : (m37 86 4).toInt = (m28 86 4).toInt := by rw [e40, up2_ne (by omega)]
          have w44 : (m37 lb 7).toInt = (m28 lb 7).toInt := by rw [e40, up2_ne (by omega)]
          refine pv_iconst (M := mX7_readFactor) (v := 1) dX7_readFactor_107 108 rfl (by decide) ?_
          have z45 : (1 : Int32).toInt = 1 := by decide
          exact pv_iret (M := mX7_readFactor) dX7_readFactor_108 rfl rfl ⟨_, _, _, rfl, rfl, I38, K39, by decide, by decide, ⟨by omega, by omega, by omega, Or.inl ⟨by decide, by rw [FA_atom kn91, AT_nam kdn (nix_y (by omega)), show (m 86 3).toInt + 1 = (m37 86 3).toInt by omega]⟩, by omega⟩⟩
        · have c25 := iv_nle (X := 0) (Y := v23.toInt) c25 (by decide) rfl
          refine pv_aload_n (M := mX7_readFactor) 0 dX7_readFactor_81 82 rfl rfl rfl ?_
          refine pv_iconst (M := mX7_readFactor) (v := 1) dX7_readFactor_82 83 rfl (by decide) ?_
          have z46 : (1 : Int32).toInt = 1 := by decide
          refine pv_callv (M := mX7_readFactor) (as := [.int 1]) (st := []) (kc2 := 0) (ks2 := 0) dX7_readFactor_83 wd531 YX7_fail ⟨wd533, wd3⟩ (mk_get (tl86 hT)) rfl rfl (s_X7_fail_vx g hT I R 1 (by decide) (by decide) (by first | omega | assumption | exact (iv_rng _).2 | exact (iv_rng _).1 | decide)) rfl rfl (Nat.le_of_ble_eq_true rfl) (by decide) rfl rfl 86 rfl (fun rv h1 q47 => ?_)
          obtain ⟨m48, n49, v52, rfl, rfl, I50, K51, pv52, qv52, rv52⟩ := q47
          replace rv52 : (m 86 3).toInt ≤ (m48 86 3).toInt ∧ (m48 86 3).toInt ≤ (m48 86 2).toInt ∧ (m48 86 2).toInt = (m 86 2).toInt ∧ (v52.toInt = 0 ∧ (m48 86 3).toInt = (m 86 3).toInt ∧ (m48 86 4).toInt = -1000 * (1 : Int) - (m 86 3).toInt) ∧ (m48 lb 7).toInt = (m lb 7).toInt := by have q_ := rv52; (try rw [z46] at q_); exact q_
          have K51c := K51
          have K51 := Kp.trans (K51.sub (fun _ _ q => q))
          show PV _ _ _ _ _ _ _ 86 [.ref 86, .int 1, .int v23] [.int v52] _
          exact pv_iret (M := mX7_readFactor) dX7_readFactor_86 rfl (iv_nz (by omega) (by omega)) ⟨_, _, _, rfl, rfl, I50, K51, by omega, by omega, ⟨by omega, by omega, by omega, Or.inr ⟨by omega, FLT_of (a := 1) (p := (m 86 3).toInt) (by rw [FA_atom kn91]; exact AT_no kdn (nix_no (by omega))) (by decide) (by omega)⟩, by omega⟩⟩
      · have c15 := iv_eq (X := v13.toInt) (Y := (-1)) c15 rfl (by decide)
        refine pv_iconst (M := mX7_readFactor) (v := (-1)) dX7_readFactor_62 63 rfl (by decide) ?_
        refine pv_goto (M := mX7_readFactor) (tgt := 76) dX7_readFactor_63 (by decide) ?_
        have k76 : (-1) = nix (tC m (m 86 3).toInt) := by first | (rw [show tC m (m 86 3).toInt = -1 by omega]; decide) | (rw [rlit, k73, k72])
        refine pv_istore_n (M := mX7_readFactor) 2 (lo2 := [.ref 86, .int 1, .int (-1)]) dX7_readFactor_76 77 rfl rfl (by decide) rfl rfl ?_
        refine pv_iload_n (M := mX7_readFactor) 2 dX7_readFactor_77 78 rfl rfl rfl ?_
        refine pv_if_ge (M := mX7_readFactor) (tgt := 87) dX7_readFactor_78 81 rfl (by decide) (fun q => absurd q (by decide)) (fun _ => ?_)
        refine pv_aload_n (M := mX7_readFactor) 0 dX7_readFactor_81 82 rfl rfl rfl ?_
        refine pv_iconst (M := mX7_readFactor) (v := 1) dX7_readFactor_82 83 rfl (by decide) ?_
        have z55 : (1 : Int32).toInt = 1 := by decide
        refine pv_callv (M := mX7_readFactor) (as := [.int 1]) (st := []) (kc2 := 0) (ks2 := 0) dX7_readFactor_83 wd531 YX7_fail ⟨wd533, wd3⟩ (mk_get (tl86 hT)) rfl rfl (s_X7_fail_vx g hT I R 1 (by decide) (by decide) (by first | omega | assumption | exact (iv_rng _).2 | exact (iv_rng _).1 | decide)) rfl rfl (Nat.le_of_ble_eq_true rfl) (by decide) rfl rfl 86 rfl (fun rv h1 q56 => ?_)
        obtain ⟨m57, n58, v61, rfl, rfl, I59, K60, pv61, qv61, rv61⟩ := q56
        replace rv61 : (m 86 3).toInt ≤ (m57 86 3).toInt ∧ (m57 86 3).toInt ≤ (m57 86 2).toInt ∧ (m57 86 2).toInt = (m 86 2).toInt ∧ (v61.toInt = 0 ∧ (m57 86 3).toInt = (m 86 3).toInt ∧ (m57 86 4).toInt = -1000 * (1 : Int) - (m 86 3).toInt) ∧ (m57 lb 7).toInt = (m lb 7).toInt := by have q_ := rv61; (try rw [z55] at q_); exact q_
        have K60c := K60
        have K60 := Kp.trans (K60.sub (fun _ _ q => q))
        show PV _ _ _ _ _ _ _ 86 [.ref 86, .int 1, .int (-1)] [.int v61] _
        exact pv_iret (M := mX7_readFactor) dX7_readFactor_86 rfl (iv_nz (by omega) (by omega)) ⟨_, _, _, rfl, rfl, I59, K60, by omega, by omega, ⟨by omega, by omega, by omega, Or.inr ⟨by omega, FLT_of (a := 1) (p := (m 86 3).toInt) (by rw [FA_atom kn91]; exact AT_no kdn (nix_no (by omega))) (by decide) (by omega)⟩, by omega⟩⟩
    · have pc10 := rv8.1.resolve_left c10
      have c10 := iv_ne (X := v8.toInt) (Y := 0) c10 rfl (by decide)
      have kd := (k46.resolve_right (fun q => by have q1 := q.1; omega)).2
      refine pv_aload_n (M := mX7_readFactor) 0 dX7_readFactor_49 50 rfl rfl rfl ?_
      refine pv_callv (M := mX7_readFactor) (as := []) (st := []) (kc2 := 0) (ks2 := 0) dX7_readFactor_50 wd563 YX7_readNumber ⟨wd565, wd10⟩ (mk_get (tl86 hT)) rfl rfl (s_X7_readNumber_vx g hT I R (by first | omega | assumption | exact (iv_rng _).2 | exact (iv_rng _).1 | decide)) rfl rfl (Nat.le_of_ble_eq_true rfl) (by decide) rfl rfl 53 rfl (fun rv h1 q63 => ?_)
      obtain ⟨m64, n65, v68, rfl, rfl, I66, K67, pv68, qv68, rv68⟩ := q63
      replace rv68 : (m 86 3).toInt ≤ (m64 86 3).toInt ∧ (m64 86 3).toInt ≤ (m64 86 2).toInt ∧ (m64 86 2).toInt = (m 86 2).toInt ∧ (RSX (nd (tC m) 5 (m 86 3).toInt) v68.toInt (m64 86 3).toInt (m64 86 4).toInt) ∧ (m64 lb 7).toInt = (m lb 7).toInt := rv68
      have K67c := K67
      have K67 := Kp.trans (K67.sub (fun _ _ q => q))
      show PV _ _ _ _ _ _ _ 53 [.ref 86, .int 1, pv_U] [.int v68] _
      have k53 := rv68.2.2.2.1
      exact pv_iret (M := mX7_readFactor) dX7_readFactor_53 rfl (iv_nz (by omega) (by omega)) ⟨_, _, _, rfl, rfl, I66, K67, by omega, by omega, ⟨by omega, by omega, by omega, (by rw [FA_atom kn91, AT_num kd]; exact k53), by omega⟩⟩
  · have c5 := iv_eq (X := v2.toInt) (Y := 91) c5 rfl (by decide)
    have k91 : tC m (m 86 3).toInt = 91 := by omega
    refine pv_aload_n (M := mX7_readFactor) 0 dX7_readFactor_9 10 rfl rfl rfl ?_
    refine pv_iload_n (M := mX7_readFactor) 1 dX7_readFactor_10 11 rfl rfl rfl ?_
    have z71 : (1 : Int32).toInt = 1 := by decide
    refine pv_callv (M := mX7_readFactor) (as := [.int 1]) (st := []) (kc2 := 0) (ks2 := 0) dX7_readFactor_11 wd551 YX7_open ⟨wd553, wd7⟩ (mk_get (tl86 hT)) rfl rfl (s_X7_open_vx g hT I R 1 (by decide) (by decide) (by first | omega | assumption | exact (iv_rng _).2 | exact (iv_rng _).1 | decide)) rfl rfl (Nat.le_of_ble_eq_true rfl) (by decide) rfl rfl 14 rfl (fun rv h1 q72 => ?_)
    obtain ⟨m73, n74, v77, rfl, rfl, I75, K76, pv77, qv77, rv77⟩ := q72
    replace rv77 : (v77 = 0 ∨ (1 : Int) ≤ 5) ∧ (m 86 3).toInt ≤ (m73 86 3).toInt ∧ (m73 86 3).toInt ≤ (m73 86 2).toInt ∧ (m73 86 2).toInt = (m 86 2).toInt ∧ ((v77.toInt = 1 ∧ (1 : Int) ≤ 5 ∧ (m73 86 3).toInt = (m 86 3).toInt + 1) ∨ (v77.toInt = 0 ∧ 6 ≤ (1 : Int) ∧ (m73 86 4).toInt = -5000 - (m 86 3).toInt ∧ (m73 86 3).toInt = (m 86 3).toInt)) ∧ (m73 lb 7).toInt = (m lb 7).toInt := by have q_ := rv77; (try rw [z71] at q_); exact q_
    have K76c := K76
    have K76 := Kp.trans (K76.sub (fun _ _ q => q))
    show PV _ _ _ _ _ _ _ 14 [.ref 86, .int 1, pv_U] [.int v77] _
    refine pv_if_eq (M := mX7_readFactor) (tgt := 40) dX7_readFactor_14 17 rfl (by decide) (fun c78 => ?_) (fun c78 => ?_)
    · have c78 := iv_eq (X := v77.toInt) (Y := 0) c78 rfl (by decide)
      refine pv_iconst (M := mX7_readFactor) (v := 0) dX7_readFactor_40 41 rfl (by decide) ?_
      have z79 : (0 : Int32).toInt = 0 := by decide
      exact pv_iret (M := mX7_readFactor) dX7_readFactor_41 rfl rfl ⟨_, _, _, rfl, rfl, I75, K76, by decide, by decide, ⟨by omega, by omega, by omega, (by first | exact Or.inr ⟨by decide, FX_deep k91 (by omega)⟩ | exact Or.inr ⟨by decide, FX_cn k91 k27 (fun z => by omega) (by omega)⟩ | exact Or.inl ⟨by decide, FX_co k91 k27 (by omega) (by omega)⟩ | exact Or.inr ⟨by decide, FX_sum k91 (RSX_fl k24 (by omega))⟩ | (exfalso; omega)), by omega⟩⟩
    · have pc78 := rv77.1.resolve_left c78
      have c78 := iv_ne (X := v77.toInt) (Y := 0) c78 rfl (by decide)
      have kt17 : tC m73 = tC m := tC_eq (K76 86 2 rfl) (fun j => K76 87 j rfl)
      have kp17 : (m73 86 3).toInt = (m 86 3).toInt + 1 := by omega
      refine pv_aload_n (M := mX7_readFactor) 0 dX7_readFactor_17 18 rfl rfl rfl ?_
      refine pv_iload_n (M := mX7_readFactor) 1 dX7_readFactor_18 19 rfl rfl rfl ?_
      refine pv_iconst (M := mX7_readFactor) (v := 1) dX7_readFactor_19 20 rfl (by decide) ?_
      refine pv_iadd (M := mX7_readFactor) (v := 2) dX7_readFactor_20 21 rfl (by decide) ?_
      have z83 : (2 : Int32).toInt = 2 := by decide
      refine pv_callv (M := mX7_readFactor) (as := [.int 2]) (st := []) (kc2 := 0) (ks2 := 0) dX7_readFactor_21 wd539 YX7_readSum ⟨wd541, wd4⟩ (mk_get (tl86 hT)) rfl rfl (s_X7_readSum_v2x g hT I75 R (by first | omega | assumption | exact (iv_rng _).2 | exact (iv_rng _).1 | decide) (TBC_eq hp1 kt17)) rfl rfl (Nat.le_of_ble_eq_true rfl) (by decide) rfl rfl 24 rfl (fun rv h1 q84 => ?_)
      obtain ⟨m85, n86, v89, rfl, rfl, I87, K88, pv89, qv89, rv89⟩ := q84
      replace rv89 : (m73 86 3).toInt ≤ (m85 86 3).toInt ∧ (m85 86 3).toInt ≤ (m85 86 2).toInt ∧ (m85 86 2).toInt = (m73 86 2).toInt ∧ (RSX (SU (tC m73) 4 (m73 86 3).toInt) v89.toInt (m85 86 3).toInt (m85 86 4).toInt) ∧ (m85 lb 7).toInt = (m73 lb 7).toInt := by have q_ := rv89; (try rw [z83] at q_); exact q_
      have K88c := K88
      have K88 := K76.trans (K88.sub (fun _ _ q => q))
      show PV _ _ _ _ _ _ _ 24 [.ref 86, .int 1, pv_U] [.int v89] _
      have k24 := rv89.2.2.2.1
      rw [kt17, kp17] at k24
      refine pv_if_eq (M := mX7_readFactor) (tgt := 40) dX7_readFactor_24 27 rfl (by decide) (fun c92 => ?_) (fun c92 => ?_)
      · have c92 := iv_eq (X := v89.toInt) (Y := 0) c92 rfl (by decide)
        refine pv_iconst (M := mX7_readFactor) (v := 0) dX7_readFactor_40 41 rfl (by decide) ?_
        have z93 : (0 : Int32).toInt = 0 := by decide
        exact pv_iret (M := mX7_readFactor) dX7_readFactor_41 rfl rfl ⟨_, _, _, rfl, rfl, I87, K88, by decide, by decide, ⟨by omega, by omega, by omega, (by first | exact Or.inr ⟨by decide, FX_deep k91 (by omega)⟩ | exact Or.inr ⟨by decide, FX_cn k91 k27 (fun z => by omega) (by omega)⟩ | exact Or.inl ⟨by decide, FX_co k91 k27 (by omega) (by omega)⟩ | exact Or.inr ⟨by decide, FX_sum k91 (RSX_fl k24 (by omega))⟩ | (exfalso; omega)), by omega⟩⟩
      · have c92 := iv_ne (X := v89.toInt) (Y := 0) c92 rfl (by decide)
        have k27 := RSX_ok k24 (by omega)
        have kt27 : tC m85 = tC m := tC_eq (K88 86 2 rfl) (fun j => K88 87 j rfl)
        refine pv_aload_n (M := mX7_readFactor) 0 dX7_readFactor_27 28 rfl rfl rfl ?_
        refine pv_bipush (M := mX7_readFactor) (v := 93) dX7_readFactor_28 30 rfl (by decide) ?_
        have z96 : (93 : Int32).toInt = 93 := by decide
        refine pv_callv (M := mX7_readFactor) (as := [.int 93]) (st := []) (kc2 := 0) (ks2 := 0) dX7_readFactor_30 wd555 YX7_pass ⟨wd557, wd8⟩ (mk_get (tl86 hT)) rfl rfl (s_X7_pass_vx g hT I87 R 93 (by decide) (by decide) (by first | omega | assumption | exact (iv_rng _).2 | exact (iv_rng _).1 | decide)) rfl rfl (Nat.le_of_ble_eq_true rfl) (by decide) rfl rfl 33 rfl (fun rv h1 q97 => ?_)
        obtain ⟨m98, n99, v102, rfl, rfl, I100, K101, pv102, qv102, rv102⟩ := q97
        replace rv102 : (m85 86 3).toInt ≤ (m98 86 3).toInt ∧ (m98 86 3).toInt ≤ (m98 86 2).toInt ∧ (m98 86 2).toInt = (m85 86 2).toInt ∧ ((v102.toInt = 1 ∧ tC m85 (m85 86 3).toInt = (93 : Int) ∧ (m98 86 3).toInt = (m85 86 3).toInt + 1) ∨ (v102.toInt = 0 ∧ tC m85 (m85 86 3).toInt ≠ (93 : Int) ∧ (m98 86 4).toInt = -1000 - (m85 86 3).toInt ∧ (m98 86 3).toInt = (m85 86 3).toInt)) ∧ (m98 lb 7).toInt = (m85 lb 7).toInt := by have q_ := rv102; (try rw [z96] at q_); exact q_
        have K101c := K101
        have K101 := K88.trans (K101.sub (fun _ _ q => q))
        show PV _ _ _ _ _ _ _ 33 [.ref 86, .int 1, pv_U] [.int v102] _
        have k33 := rv102.2.2.2.1
        rw [kt27] at k33
        refine pv_if_eq (M := mX7_readFactor) (tgt := 40) dX7_readFactor_33 36 rfl (by decide) (fun c105 => ?_) (fun c105 => ?_)
        · have c105 := iv_eq (X := v102.toInt) (Y := 0) c105 rfl (by decide)
          refine pv_iconst (M := mX7_readFactor) (v := 0) dX7_readFactor_40 41 rfl (by decide) ?_
          have z106 : (0 : Int32).toInt = 0 := by decide
          exact pv_iret (M := mX7_readFactor) dX7_readFactor_41 rfl rfl ⟨_, _, _, rfl, rfl, I100, K101, by decide, by decide, ⟨by omega, by omega, by omega, (by first | exact Or.inr ⟨by decide, FX_deep k91 (by omega)⟩ | exact Or.inr ⟨by decide, FX_cn k91 k27 (fun z => by omega) (by omega)⟩ | exact Or.inl ⟨by decide, FX_co k91 k27 (by omega) (by omega)⟩ | exact Or.inr ⟨by decide, FX_sum k91 (RSX_fl k24 (by omega))⟩ | (exfalso; omega)), by omega⟩⟩
        · have c105 := iv_ne (X := v102.toInt) (Y := 0) c105 rfl (by decide)
          refine pv_iconst (M := mX7_readFactor) (v := 1) dX7_readFactor_36 37 rfl (by decide) ?_
          refine pv_goto (M := mX7_readFactor) (tgt := 41) dX7_readFactor_37 (by decide) ?_
          have z107 : (1 : Int32).toInt = 1 := by decide
          exact pv_iret (M := mX7_readFactor) dX7_readFactor_41 rfl rfl ⟨_, _, _, rfl, rfl, I100, K101, by decide, by decide, ⟨by omega, by omega, by omega, (by first | exact Or.inr ⟨by decide, FX_deep k91 (by omega)⟩ | exact Or.inr ⟨by decide, FX_cn k91 k27 (fun z => by omega) (by omega)⟩ | exact Or.inl ⟨by decide, FX_co k91 k27 (by omega) (by omega)⟩ | exact Or.inr ⟨by decide, FX_sum k91 (RSX_fl k24 (by omega))⟩ | (exfalso; omega)), by omega⟩⟩

set_option maxHeartbeats 2000000 in
set_option maxRecDepth 20000 in
theorem s_X7_readTerm_v1x (g : pv_G) {T : List mv_T} {m : Nat → Nat → Int32} {n : Nat → Nat → Int64} {r : Nat → Value} {la lb : Nat} (hT : TX T) (I : IV BB m) (R : RX T r la lb) (hp0 : (m 86 3).toInt ≤ (m 86 2).toInt) (hp1 : TBC m) : PM g mX7_readTerm yX7_readTerm (sqI T BB wR7 r m 0 1 (fun m' v => (m 86 3).toInt ≤ (m' 86 3).toInt ∧ (m' 86 3).toInt ≤ (m' 86 2).toInt ∧ (m' 86 2).toInt = (m 86 2).toInt ∧ ((v.toInt = 0 ∨ (m 86 3).toInt + 1 ≤ (m' 86 3).toInt) ∧ TRX (SU (tC m) 5 (m 86 3).toInt) (LSu (tC m) 5) (fun a => isT (tC m a) = false) v.toInt (m' 86 3).toInt (m' 86 4).toInt) ∧ (m' lb 7).toInt = (m lb 7).toInt)) 21 0 0 [.ref 86, .int 1] (mk T m n r) := by
  have Kp : fr wR7 m m := fr.rf
  have R0 := R
  have zR := R.2.2.2.2.1.1
  have zR2 := R.2.2.2.2.2.1
  have z84 : 0 ≤ (m 86 3).toInt ∧ (m 86 3).toInt ≤ 160 := I 86 3
  have z85 : 0 ≤ (m 86 2).toInt ∧ (m 86 2).toInt ≤ 160 := I 86 2
  refine PM.of 2 (lo := [.ref 86, .int 1, pv_U, pv_U]) rfl (by decide) rfl rfl (Nat.le_of_ble_eq_true rfl) ?_
  have kTX := TXT_C I
  refine pv_aload_n (M := mX7_readTerm) 0 dX7_readTerm_0 1 rfl rfl rfl ?_
  refine pv_iload_n (M := mX7_readTerm) 1 dX7_readTerm_1 2 rfl rfl rfl ?_
  have z2 : (1 : Int32).toInt = 1 := by decide
  refine pv_callv (M := mX7_readTerm) (as := [.int 1]) (st := []) (kc2 := 0) (ks2 := 0) dX7_readTerm_2 wd547 YX7_readFactor ⟨wd549, wd6⟩ (mk_get (tl86 hT)) rfl rfl (s_X7_readFactor_v1x g hT I R (by first | omega | assumption | exact (iv_rng _).2 | exact (iv_rng _).1 | decide) hp1) rfl rfl (Nat.le_of_ble_eq_true rfl) (by decide) rfl rfl 5 rfl (fun rv h1 q3 => ?_)
  obtain ⟨m4, n5, v8, rfl, rfl, I6, K7, pv8, qv8, rv8⟩ := q3
  replace rv8 : (m 86 3).toInt ≤ (m4 86 3).toInt ∧ (m4 86 3).toInt ≤ (m4 86 2).toInt ∧ (m4 86 2).toInt = (m 86 2).toInt ∧ (RSX (FA (tC m) 5 (m 86 3).toInt) v8.toInt (m4 86 3).toInt (m4 86 4).toInt) ∧ (m4 lb 7).toInt = (m lb 7).toInt := by have q_ := rv8; (try rw [z2] at q_); exact q_
  have K7c := K7
  have K7 := Kp.trans (K7.sub (fun _ _ q => q))
  show PV _ _ _ _ _ _ _ 5 [.ref 86, .int 1, pv_U, pv_U] [.int v8] _
  have k5 := rv8.2.2.2.1
  refine pv_if_ne (M := mX7_readTerm) (tgt := 10) dX7_readTerm_5 8 rfl (by decide) (fun c10 => ?_) (fun c10 => ?_)
  · have c10 := iv_ne (X := v8.toInt) (Y := 0) c10 rfl (by decide)
    have kF0 := RSX_ok k5 (by omega)
    have kF1 := FA_le 5 (m 86 3).toInt (by rw [kF0])
    rw [kF0] at kF1
    refine pv_iconst (M := mX7_readTerm) (v := 0) dX7_readTerm_10 11 rfl (by decide) ?_
    refine pv_istore_n (M := mX7_readTerm) 2 (lo2 := [.ref 86, .int 1, .int 0, pv_U]) dX7_readTerm_11 12 rfl rfl (by decide) rfl rfl ?_
    have lp20 : ∀ (fuel19 : Nat) (y14 : Int32) (m15 : Nat → Nat → Int32) (n16 : Nat → Nat → Int64), (0 ≤ y14.toInt) → (y14.toInt ≤ 160) → ((m15 86 3).toInt ≤ (m15 86 2).toInt) → ((m15 86 2).toInt = (m 86 2).toInt) → ((m15 lb 7).toInt = (m lb 7).toInt) → ((m 86 3).toInt + 1 + 2 * y14.toInt ≤ (m15 86 3).toInt) → (SU (tC m) 5 (m 86 3).toInt = LSu (tC m) 5 (m15 86 3).toInt) → IV BB m15 → fr wR7 m m15 → ((160 - y14.toInt) : Int).toNat < fuel19 → PV none g mX7_readTerm (sqI T BB wR7 r m 0 1 (fun m' v => (m 86 3).toInt ≤ (m' 86 3).toInt ∧ (m' 86 3).toInt ≤ (m' 86 2).toInt ∧ (m' 86 2).toInt = (m 86 2).toInt ∧ ((v.toInt = 0 ∨ (m 86 3).toInt + 1 ≤ (m' 86 3).toInt) ∧ TRX (SU (tC m) 5 (m 86 3).toInt) (LSu (tC m) 5) (fun a => isT (tC m a) = false) v.toInt (m' 86 3).toInt (m' 86 4).toInt) ∧ (m' lb 7).toInt = (m lb 7).toInt)) 21 0 0 12 [.ref 86, .int 1, .int y14, pv_U] [] (mk T m15 n16 r) := by
      intro fuel19
      induction fuel19 with
      | zero => intro y14 m15 n16 b22 b23 b24 b25 b26 b27 b28 I17 K18 z29; omega
      | succ fuel19 ih21 =>
        intro y14 m15 n16 b22 b23 b24 b25 b26 b27 b28 I17 K18 z29
        have z30 : 0 ≤ (m15 86 3).toInt ∧ (m15 86 3).toInt ≤ 160 := I17 86 3
        have z31 : 0 ≤ (m15 86 2).toInt ∧ (m15 86 2).toInt ≤ 160 := I17 86 2
        have kgs := (show SU (tC m) 5 (m 86 3).toInt = LSu (tC m) 5 (m15 86 3).toInt by assumption)
        have kt12 : tC m15 = tC m := tC_eq (K18 86 2 rfl) (fun j => K18 87 j rfl)
        refine pv_iload_n (M := mX7_readTerm) 2 dX7_readTerm_12 13 rfl rfl rfl ?_
        refine pv_sipush (M := mX7_readTerm) (v := 160) dX7_readTerm_13 16 rfl (by decide) ?_
        refine pv_icmp_ge (M := mX7_readTerm) (tgt := 66) dX7_readTerm_16 19 rfl (by decide) (fun c34 => ?_) (fun c34 => ?_)
        · have c34 := iv_le (X := 160) (Y := y14.toInt) c34 (by decide) rfl
          refine pv_iconst (M := mX7_readTerm) (v := 1) dX7_readTerm_66 67 rfl (by decide) ?_
          have z35 : (1 : Int32).toInt = 1 := by decide
          exact pv_iret (M := mX7_readTerm) dX7_readTerm_67 rfl rfl ⟨_, _, _, rfl, rfl, I17, K18, by decide, by decide, ⟨by omega, by omega, by omega, ⟨Or.inr (by omega), Or.inl ⟨by decide, kgs, by first | (exact (k23.resolve_left (fun q => by have q1 := q.1; omega)).2) | (exfalso; omega)⟩⟩, by omega⟩⟩
        · have c34 := iv_nle (X := 160) (Y := y14.toInt) c34 (by decide) rfl
          refine pv_aload_n (M := mX7_readTerm) 0 dX7_readTerm_19 20 rfl rfl rfl ?_
          refine pv_callv (M := mX7_readTerm) (as := []) (st := []) (kc2 := 0) (ks2 := 0) dX7_readTerm_20 wd654 YX7_timesAhead ⟨wd656, wd11⟩ (mk_get (tl86 hT)) rfl rfl (s_X7_timesAhead_vx g hT I17 R) rfl rfl (Nat.le_of_ble_eq_true rfl) (by decide) rfl rfl 23 rfl (fun rv h1 q36 => ?_)
          obtain ⟨v37, rfl, rfl, pv37, qv37, rv37⟩ := q36
          replace rv37 : (v37 = 0 ∨ (m15 86 3).toInt < (m15 86 2).toInt) ∧ ((v37.toInt = 1 ∧ isT (tC m15 (m15 86 3).toInt) = true) ∨ (v37.toInt = 0 ∧ isT (tC m15 (m15 86 3).toInt) = false)) := rv37
          show PV _ _ _ _ _ _ _ 23 [.ref 86, .int 1, .int y14, pv_U] [.int v37] _
          have k23 := rv37.2
          rw [kt12] at k23
          refine pv_if_eq (M := mX7_readTerm) (tgt := 66) dX7_readTerm_23 26 rfl (by decide) (fun c40 => ?_) (fun c40 => ?_)
          · have c40 := iv_eq (X := v37.toInt) (Y := 0) c40 rfl (by decide)
            refine pv_iconst (M := mX7_readTerm) (v := 1) dX7_readTerm_66 67 rfl (by decide) ?_
            have z41 : (1 : Int32).toInt = 1 := by decide
            exact pv_iret (M := mX7_readTerm) dX7_readTerm_67 rfl rfl ⟨_, _, _, rfl, rfl, I17, K18, by decide, by decide, ⟨by omega, by omega, by omega, ⟨Or.inr (by omega), Or.inl ⟨by decide, kgs, by first | (exact (k23.resolve_left (fun q => by have q1 := q.1; omega)).2) | (exfalso; omega)⟩⟩, by omega⟩⟩
          · have pc40 := rv37.1.resolve_left c40
            have c40 := iv_ne (X := v37.toInt) (Y := 0) c40 rfl (by decide)
            have kT := (k23.resolve_right (fun q => by have q1 := q.1; omega)).2
            refine pv_aload_n (M := mX7_readTerm) 0 dX7_readTerm_26 27 rfl rfl rfl ?_
            refine pv_callv (M := mX7_readTerm) (as := []) (st := []) (kc2 := 0) (ks2 := 0) dX7_readTerm_27 wd527 YX7_peek ⟨wd529, wd2⟩ (mk_get (tl86 hT)) rfl rfl (s_X7_peek_vx g hT I17 R) rfl rfl (Nat.le_of_ble_eq_true rfl) (by decide) rfl rfl 30 rfl (fun rv h1 q43 => ?_)
            obtain ⟨v44, rfl, rfl, pv44, qv44, rv44⟩ := q43
            replace rv44 : v44.toInt = tC m15 (m15 86 3).toInt ∧ (v44.toInt = -1 ∨ (m15 86 3).toInt < (m15 86 2).toInt) := rv44
            show PV _ _ _ _ _ _ _ 30 [.ref 86, .int 1, .int y14, pv_U] [.int v44] _
            refine pv_istore_n (M := mX7_readTerm) 3 (lo2 := [.ref 86, .int 1, .int y14, .int v44]) dX7_readTerm_30 31 rfl rfl (by decide) rfl rfl ?_
            refine pv_aload_n (M := mX7_readTerm) 0 dX7_readTerm_31 32 rfl rfl rfl ?_
            refine pv_dup (M := mX7_readTerm) dX7_readTerm_32 33 rfl rfl ?_
            refine iv_get (M := mX7_readTerm) (l1 := 0) (l2 := 160) dX7_readTerm_33 FX7 3 wd283 (by decide) (tl86 hT) rfl I17 rfl 36 rfl (fun v45 ev45 pv45 qv45 => ?_)
            have wv45 : v45.toInt = (m15 86 3).toInt := congrArg Int32.toInt ev45
            refine pv_iconst (M := mX7_readTerm) (v := 1) dX7_readTerm_36 37 rfl (by decide) ?_
            refine iv_iadd (M := mX7_readTerm) (X := v45.toInt) (Y := 1) dX7_readTerm_37 38 rfl rfl (by decide) (by omega) (by omega) (fun v46 ev46 => ?_)
            refine iv_put (M := mX7_readTerm) (l1 := 0) (l2 := 160) dX7_readTerm_38 FX7 3 wd283 (by decide) rfl (tl86 hT) rfl rfl rfl I17 rfl (by omega) (by omega) 41 rfl (fun m47 e50 I48 => ?_)
            have K49 := K18.set e50 (by decide)
            have w51 : (m47 86 3).toInt = v46.toInt := by rw [e50, up2_eq]
            have w52 : (m47 86 2).toInt = (m15 86 2).toInt := by rw [e50, up2_ne (by omega)]
            have w53 : (m47 86 4).toInt = (m15 86 4).toInt := by rw [e50, up2_ne (by omega)]
            have w54 : (m47 lb 7).toInt = (m15 lb 7).toInt := by rw [e50, up2_ne (by omega)]
            have kt41 : tC m47 = tC m := tC_eq (K49 86 2 rfl) (fun j => K49 87 j rfl)
            have kp41 : (m47 86 3).toInt = (m15 86 3).toInt + 1 := by omega
            refine pv_aload_n (M := mX7_readTerm) 0 dX7_readTerm_41 42 rfl rfl rfl ?_
            refine pv_iload_n (M := mX7_readTerm) 1 dX7_readTerm_42 43 rfl rfl rfl ?_
            have z57 : (1 : Int32).toInt = 1 := by decide
            refine pv_callv (M := mX7_readTerm) (as := [.int 1]) (st := []) (kc2 := 0) (ks2 := 0) dX7_readTerm_43 wd547 YX7_readFactor ⟨wd549, wd6⟩ (mk_get (tl86 hT)) rfl rfl (s_X7_readFactor_v1x g hT I48 R (by first | omega | assumption | exact (iv_rng _).2 | exact (iv_rng _).1 | decide) (TBC_eq hp1 kt41)) rfl rfl (Nat.le_of_ble_eq_true rfl) (by decide) rfl rfl 46 rfl (fun rv h1 q58 => ?_)
            obtain ⟨m59, n60, v63, rfl, rfl, I61, K62, pv63, qv63, rv63⟩ := q58
            replace rv63 : (m47 86 3).toInt ≤ (m59 86 3).toInt ∧ (m59 86 3).toInt ≤ (m59 86 2).toInt ∧ (m59 86 2).toInt = (m47 86 2).toInt ∧ (RSX (FA (tC m47) 5 (m47 86 3).toInt) v63.toInt (m59 86 3).toInt (m59 86 4).toInt) ∧ (m59 lb 7).toInt = (m47 lb 7).toInt := by have q_ := rv63; (try rw [z57] at q_); exact q_
            have K62c := K62
            have K62 := K49.trans (K62.sub (fun _ _ q => q))
            show PV _ _ _ _ _ _ _ 46 [.ref 86, .int 1, .int y14, .int v44] [.int v63] _
            have k46 := rv63.2.2.2.1
            rw [kt41, kp41] at k46
            refine pv_if_ne (M := mX7_readTerm) (tgt := 51) dX7_readTerm_46 49 rfl (by decide) (fun c66 => ?_) (fun c66 => ?_)
            · have c66 := iv_ne (X := v63.toInt) (Y := 0) c66 rfl (by decide)
              have kF4 := RSX_ok k46 (by omega)
              have kF5 := FA_le 5 ((m15 86 3).toInt + 1) (by rw [kF4])
              rw [kF4] at kF5
              refine pv_aload_n (M := mX7_readTerm) 0 dX7_readTerm_51 52 rfl rfl rfl ?_
              refine mv_get (M := mX7_readTerm) (v := .ref lb) dX7_readTerm_52 FX7 1 wd281 (by decide) (tl86 hT) rfl R.2.2.2.1 55 rfl ?_
              refine pv_iload_n (M := mX7_readTerm) 3 dX7_readTerm_55 56 rfl rfl rfl ?_
              refine pv_iconst (M := mX7_readTerm) (v := 0) dX7_readTerm_56 57 rfl (by decide) ?_
              have z70 : (0 : Int32).toInt = 0 := by decide
              refine pv_callv (M := mX7_readTerm) (as := [.int v44, .int 0]) (st := []) (kc2 := 0) (ks2 := 0) dX7_readTerm_57 wd567 YX6_emit ⟨wd568, wd569⟩ (mk_get R.2.2.2.2.2.2.1) rfl rfl (s_X6_emit_vx g hT I61 lb R.2.2.2.2.2 v44 0 (by decide) (by decide)) rfl rfl (Nat.le_of_ble_eq_true rfl) (by decide) rfl rfl 60 rfl (fun rv h1 q71 => ?_)
              obtain ⟨m72, n73, rfl, rfl, I74, K75, rm72⟩ := q71
              replace rm72 : (m72 lb 7).toInt = (m59 lb 7).toInt := rm72
              have K75c := K75
              have w76 : (m72 86 3).toInt = (m59 86 3).toInt := congrArg Int32.toInt (K75 86 3 (wr_out (by omega)))
              have w77 : (m72 86 2).toInt = (m59 86 2).toInt := congrArg Int32.toInt (K75 86 2 (wr_out (by omega)))
              have w78 : (m72 86 4).toInt = (m59 86 4).toInt := congrArg Int32.toInt (K75 86 4 (wr_out (by omega)))
              have K75 := K62.trans (K75.sub (by first | exact wR7_r (by omega) | exact wR7_wr))
              show PV _ _ _ _ _ _ _ 60 [.ref 86, .int 1, .int y14, .int v44] [] _
              refine iv_inc (M := mX7_readTerm) (C := 1) dX7_readTerm_60 63 rfl rfl (by decide) rfl rfl (by decide) (by omega) (by omega) (fun v79 ev79 => ?_)
              show PV _ _ _ _ _ _ _ 63 [.ref 86, .int 1, .int v79, .int v44] [] _
              refine pv_goto (M := mX7_readTerm) (tgt := 12) dX7_readTerm_63 (by decide) ?_
              refine pv_fg (lo2 := [.ref 86, .int 1, .int v79, pv_U]) ⟨Or.inr rfl, ⟨Or.inr rfl, ⟨Or.inr rfl, ⟨Or.inl rfl, trivial⟩⟩⟩⟩ ?_
              have kbs : SU (tC m) 5 (m 86 3).toInt = LSu (tC m) 5 (m72 86 3).toInt := by rw [kgs, LSu_ok kTX (by omega) (isT_S kT) kF4]; congr 1; omega
              exact ih21 v79 m72 n73 (by first | omega | assumption | exact (iv_rng _).2 | exact (iv_rng _).1 | decide) (by first | omega | assumption | exact (iv_rng _).2 | exact (iv_rng _).1 | decide) (by first | omega | assumption | (show (m72 86 3).toInt ≤ (m72 86 2).toInt; omega) | decide) (by first | omega | assumption | (show (m72 86 2).toInt = (m 86 2).toInt; omega) | decide) (by first | omega | assumption | (show (m72 lb 7).toInt = (m lb 7).toInt; omega) | decide) (by first | omega | assumption | (show (m 86 3).toInt + 1 + 2 * v79.toInt ≤ (m72 86 3).toInt; omega) | decide) kbs I74 K75 (by omega)
            · have c66 := iv_eq (X := v63.toInt) (Y := 0) c66 rfl (by decide)
              refine pv_iconst (M := mX7_readTerm) (v := 0) dX7_readTerm_49 50 rfl (by decide) ?_
              have z81 : (0 : Int32).toInt = 0 := by decide
              exact pv_iret (M := mX7_readTerm) dX7_readTerm_50 rfl rfl ⟨_, _, _, rfl, rfl, I61, K62, by decide, by decide, ⟨by omega, by omega, by omega, ⟨Or.inl (by decide), Or.inr ⟨by decide, by rw [kgs]; exact LSu_fl kTX (by omega) (isT_S kT) (RSX_fl k46 (by omega))⟩⟩, by omega⟩⟩
    have z82 : (0 : Int32).toInt = 0 := by decide
    exact lp20 (((160 - 0) : Int).toNat + 1) 0 m4 n5 (by first | omega | assumption | exact (iv_rng _).2 | exact (iv_rng _).1 | decide) (by first | omega | assumption | exact (iv_rng _).2 | exact (iv_rng _).1 | decide) (by first | omega | assumption | (show (m4 86 3).toInt ≤ (m4 86 2).toInt; omega) | decide) (by first | omega | assumption | (show (m4 86 2).toInt = (m 86 2).toInt; omega) | decide) (by first | omega | assumption | (show (m4 lb 7).toInt = (m lb 7).toInt; omega) | decide) (by first | omega | assumption | (show (m 86 3).toInt + 1 + 2 * 0 ≤ (m4 86 3).toInt; omega) | decide) (SU_ok kF0) I6 K7 (by omega)
  · have c10 := iv_eq (X := v8.toInt) (Y := 0) c10 rfl (by decide)
    refine pv_iconst (M := mX7_readTerm) (v := 0) dX7_readTerm_8 9 rfl (by decide) ?_
    have z83 : (0 : Int32).toInt = 0 := by decide
    exact pv_iret (M := mX7_readTerm) dX7_readTerm_9 rfl rfl ⟨_, _, _, rfl, rfl, I6, K7, by decide, by decide, ⟨by omega, by omega, by omega, ⟨Or.inl (by decide), Or.inr ⟨by decide, SU_fl (RSX_fl k5 (by omega))⟩⟩, by omega⟩⟩

set_option maxHeartbeats 2000000 in
set_option maxRecDepth 20000 in
theorem s_X7_readSum_v1x (g : pv_G) {T : List mv_T} {m : Nat → Nat → Int32} {n : Nat → Nat → Int64} {r : Nat → Value} {la lb : Nat} (hT : TX T) (I : IV BB m) (R : RX T r la lb) (hp0 : (m 86 3).toInt ≤ (m 86 2).toInt) (hp1 : TBC m) : PM g mX7_readSum yX7_readSum (sqI T BB wR7 r m 0 1 (fun m' v => (m 86 3).toInt ≤ (m' 86 3).toInt ∧ (m' 86 3).toInt ≤ (m' 86 2).toInt ∧ (m' 86 2).toInt = (m 86 2).toInt ∧ (RSX (SU (tC m) 5 (m 86 3).toInt) v.toInt (m' 86 3).toInt (m' 86 4).toInt) ∧ (m' lb 7).toInt = (m lb 7).toInt)) 22 0 0 [.ref 86, .int 1] (mk T m n r) := by
  have Kp : fr wR7 m m := fr.rf
  have R0 := R
  have zR := R.2.2.2.2.1.1
  have zR2 := R.2.2.2.2.2.1
  have z133 : 0 ≤ (m 86 3).toInt ∧ (m 86 3).toInt ≤ 160 := I 86 3
  have z134 : 0 ≤ (m 86 2).toInt ∧ (m 86 2).toInt ≤ 160 := I 86 2
  refine PM.of 2 (lo := [.ref 86, .int 1, pv_U, pv_U]) rfl (by decide) rfl rfl (Nat.le_of_ble_eq_true rfl) ?_
  have kTX := TXT_C I
  refine pv_aload_n (M := mX7_readSum) 0 dX7_readSum_0 1 rfl rfl rfl ?_
  refine pv_iload_n (M := mX7_readSum) 1 dX7_readSum_1 2 rfl rfl rfl ?_
  have z2 : (1 : Int32).toInt = 1 := by decide
  refine pv_callv (M := mX7_readSum) (as := [.int 1]) (st := []) (kc2 := 0) (ks2 := 0) dX7_readSum_2 wd543 YX7_readTerm ⟨wd545, wd5⟩ (mk_get (tl86 hT)) rfl rfl (s_X7_readTerm_v1x g hT I R (by first | omega | assumption | exact (iv_rng _).2 | exact (iv_rng _).1 | decide) hp1) rfl rfl (Nat.le_of_ble_eq_true rfl) (by decide) rfl rfl 5 rfl (fun rv h1 q3 => ?_)
  obtain ⟨m4, n5, v8, rfl, rfl, I6, K7, pv8, qv8, rv8⟩ := q3
  replace rv8 : (m 86 3).toInt ≤ (m4 86 3).toInt ∧ (m4 86 3).toInt ≤ (m4 86 2).toInt ∧ (m4 86 2).toInt = (m 86 2).toInt ∧ ((v8.toInt = 0 ∨ (m 86 3).toInt + 1 ≤ (m4 86 3).toInt) ∧ TRX (SU (tC m) 5 (m 86 3).toInt) (LSu (tC m) 5) (fun a => isT (tC m a) = false) v8.toInt (m4 86 3).toInt (m4 86 4).toInt) ∧ (m4 lb 7).toInt = (m lb 7).toInt := by have q_ := rv8; (try rw [z2] at q_); exact q_
  have K7c := K7
  have K7 := Kp.trans (K7.sub (fun _ _ q => q))
  show PV _ _ _ _ _ _ _ 5 [.ref 86, .int 1, pv_U, pv_U] [.int v8] _
  have k5 := rv8.2.2.2.1.2
  have k5p := rv8.2.2.2.1.1
  refine pv_if_ne (M := mX7_readSum) (tgt := 10) dX7_readSum_5 8 rfl (by decide) (fun c11 => ?_) (fun c11 => ?_)
  · have c11 := iv_ne (X := v8.toInt) (Y := 0) c11 rfl (by decide)
    refine pv_iconst (M := mX7_readSum) (v := 0) dX7_readSum_10 11 rfl (by decide) ?_
    refine pv_istore_n (M := mX7_readSum) 2 (lo2 := [.ref 86, .int 1, .int 0, pv_U]) dX7_readSum_11 12 rfl rfl (by decide) rfl rfl ?_
    have lp18 : ∀ (fuel17 : Nat) (y12 : Int32) (m13 : Nat → Nat → Int32) (n14 : Nat → Nat → Int64), (0 ≤ y12.toInt) → (y12.toInt ≤ 160) → ((m13 86 3).toInt ≤ (m13 86 2).toInt) → ((m13 86 2).toInt = (m 86 2).toInt) → ((m13 lb 7).toInt = (m lb 7).toInt) → ((m 86 3).toInt + 1 + 2 * y12.toInt ≤ (m13 86 3).toInt) → (SU (tC m) 5 (m 86 3).toInt = LSu (tC m) 5 (m13 86 3).toInt) → (isT (tC m (m13 86 3).toInt) = false) → IV BB m13 → fr wR7 m m13 → ((160 - y12.toInt) : Int).toNat < fuel17 → PV none g mX7_readSum (sqI T BB wR7 r m 0 1 (fun m' v => (m 86 3).toInt ≤ (m' 86 3).toInt ∧ (m' 86 3).toInt ≤ (m' 86 2).toInt ∧ (m' 86 2).toInt = (m 86 2).toInt ∧ (RSX (SU (tC m) 5 (m 86 3).toInt) v.toInt (m' 86 3).toInt (m' 86 4).toInt) ∧ (m' lb 7).toInt = (m lb 7).toInt)) 22 0 0 12 [.ref 86, .int 1, .int y12, pv_U] [] (mk T m13 n14 r) := by
      intro fuel17
      induction fuel17 with
      | zero => intro y12 m13 n14 b20 b21 b22 b23 b24 b25 b26 b27 I15 K16 z28; omega
      | succ fuel17 ih19 =>
        intro y12 m13 n14 b20 b21 b22 b23 b24 b25 b26 b27 I15 K16 z28
        have z29 : 0 ≤ (m13 86 3).toInt ∧ (m13 86 3).toInt ≤ 160 := I15 86 3
        have z30 : 0 ≤ (m13 86 2).toInt ∧ (m13 86 2).toInt ≤ 160 := I15 86 2
        have kgs := (show SU (tC m) 5 (m 86 3).toInt = LSu (tC m) 5 (m13 86 3).toInt by assumption)
        have kgt := (show isT (tC m (m13 86 3).toInt) = false by assumption)
        have kt12 : tC m13 = tC m := tC_eq (K16 86 2 rfl) (fun j => K16 87 j rfl)
        refine pv_iload_n (M := mX7_readSum) 2 dX7_readSum_12 13 rfl rfl rfl ?_
        refine pv_sipush (M := mX7_readSum) (v := 160) dX7_readSum_13 16 rfl (by decide) ?_
        refine pv_icmp_ge (M := mX7_readSum) (tgt := 77) dX7_readSum_16 19 rfl (by decide) (fun c34 => ?_) (fun c34 => ?_)
        · have c34 := iv_le (X := 160) (Y := y12.toInt) c34 (by decide) rfl
          refine pv_iconst (M := mX7_readSum) (v := 1) dX7_readSum_77 78 rfl (by decide) ?_
          have z35 : (1 : Int32).toInt = 1 := by decide
          exact pv_iret (M := mX7_readSum) dX7_readSum_78 rfl rfl ⟨_, _, _, rfl, rfl, I15, K16, by decide, by decide, ⟨by omega, by omega, by omega, (by first | exact Or.inl ⟨by decide, by rw [kgs]; exact LSu_no (isS_n kgt (by omega) (by omega))⟩ | (exfalso; omega)), by omega⟩⟩
        · have c34 := iv_nle (X := 160) (Y := y12.toInt) c34 (by decide) rfl
          refine pv_aload_n (M := mX7_readSum) 0 dX7_readSum_19 20 rfl rfl rfl ?_
          refine pv_callv (M := mX7_readSum) (as := []) (st := []) (kc2 := 0) (ks2 := 0) dX7_readSum_20 wd527 YX7_peek ⟨wd529, wd2⟩ (mk_get (tl86 hT)) rfl rfl (s_X7_peek_vx g hT I15 R) rfl rfl (Nat.le_of_ble_eq_true rfl) (by decide) rfl rfl 23 rfl (fun rv h1 q36 => ?_)
          obtain ⟨v37, rfl, rfl, pv37, qv37, rv37⟩ := q36
          replace rv37 : v37.toInt = tC m13 (m13 86 3).toInt ∧ (v37.toInt = -1 ∨ (m13 86 3).toInt < (m13 86 2).toInt) := rv37
          show PV _ _ _ _ _ _ _ 23 [.ref 86, .int 1, .int y12, pv_U] [.int v37] _
          have k23 := rv37.1
          have k23b := rv37.2
          rw [kt12] at k23
          refine pv_bipush (M := mX7_readSum) (v := 43) dX7_readSum_23 25 rfl (by decide) ?_
          refine pv_icmp_eq (M := mX7_readSum) (tgt := 37) dX7_readSum_25 28 rfl (by decide) (fun c41 => ?_) (fun c41 => ?_)
          · have c41 := iv_eq (X := v37.toInt) (Y := 43) c41 rfl (by decide)
            have kS : isS (tC m (m13 86 3).toInt) = true := isS_y (by omega)
            refine pv_aload_n (M := mX7_readSum) 0 dX7_readSum_37 38 rfl rfl rfl ?_
            refine pv_callv (M := mX7_readSum) (as := []) (st := []) (kc2 := 0) (ks2 := 0) dX7_readSum_38 wd527 YX7_peek ⟨wd529, wd2⟩ (mk_get (tl86 hT)) rfl rfl (s_X7_peek_vx g hT I15 R) rfl rfl (Nat.le_of_ble_eq_true rfl) (by decide) rfl rfl 41 rfl (fun rv h1 q43 => ?_)
            obtain ⟨v44, rfl, rfl, pv44, qv44, rv44⟩ := q43
            replace rv44 : v44.toInt = tC m13 (m13 86 3).toInt ∧ (v44.toInt = -1 ∨ (m13 86 3).toInt < (m13 86 2).toInt) := rv44
            show PV _ _ _ _ _ _ _ 41 [.ref 86, .int 1, .int y12, pv_U] [.int v44] _
            refine pv_istore_n (M := mX7_readSum) 3 (lo2 := [.ref 86, .int 1, .int y12, .int v44]) dX7_readSum_41 42 rfl rfl (by decide) rfl rfl ?_
            refine pv_aload_n (M := mX7_readSum) 0 dX7_readSum_42 43 rfl rfl rfl ?_
            refine pv_dup (M := mX7_readSum) dX7_readSum_43 44 rfl rfl ?_
            refine iv_get (M := mX7_readSum) (l1 := 0) (l2 := 160) dX7_readSum_44 FX7 3 wd283 (by decide) (tl86 hT) rfl I15 rfl 47 rfl (fun v45 ev45 pv45 qv45 => ?_)
            have wv45 : v45.toInt = (m13 86 3).toInt := congrArg Int32.toInt ev45
            refine pv_iconst (M := mX7_readSum) (v := 1) dX7_readSum_47 48 rfl (by decide) ?_
            refine iv_iadd (M := mX7_readSum) (X := v45.toInt) (Y := 1) dX7_readSum_48 49 rfl rfl (by decide) (by omega) (by omega) (fun v46 ev46 => ?_)
            refine iv_put (M := mX7_readSum) (l1 := 0) (l2 := 160) dX7_readSum_49 FX7 3 wd283 (by decide) rfl (tl86 hT) rfl rfl rfl I15 rfl (by omega) (by omega) 52 rfl (fun m47 e50 I48 => ?_)
            have K49 := K16.set e50 (by decide)
            have w51 : (m47 86 3).toInt = v46.toInt := by rw [e50, up2_eq]
            have w52 : (m47 86 2).toInt = (m13 86 2).toInt := by rw [e50, up2_ne (by omega)]
            have w53 : (m47 86 4).toInt = (m13 86 4).toInt := by rw [e50, up2_ne (by omega)]
            have w54 : (m47 lb 7).toInt = (m13 lb 7).toInt := by rw [e50, up2_ne (by omega)]
            have kt52 : tC m47 = tC m := tC_eq (K49 86 2 rfl) (fun j => K49 87 j rfl)
            have kp52 : (m47 86 3).toInt = (m13 86 3).toInt + 1 := by omega
            refine pv_aload_n (M := mX7_readSum) 0 dX7_readSum_52 53 rfl rfl rfl ?_
            refine pv_iload_n (M := mX7_readSum) 1 dX7_readSum_53 54 rfl rfl rfl ?_
            have z57 : (1 : Int32).toInt = 1 := by decide
            refine pv_callv (M := mX7_readSum) (as := [.int 1]) (st := []) (kc2 := 0) (ks2 := 0) dX7_readSum_54 wd543 YX7_readTerm ⟨wd545, wd5⟩ (mk_get (tl86 hT)) rfl rfl (s_X7_readTerm_v1x g hT I48 R (by first | omega | assumption | exact (iv_rng _).2 | exact (iv_rng _).1 | decide) (TBC_eq hp1 kt52)) rfl rfl (Nat.le_of_ble_eq_true rfl) (by decide) rfl rfl 57 rfl (fun rv h1 q58 => ?_)
            obtain ⟨m59, n60, v63, rfl, rfl, I61, K62, pv63, qv63, rv63⟩ := q58
            replace rv63 : (m47 86 3).toInt ≤ (m59 86 3).toInt ∧ (m59 86 3).toInt ≤ (m59 86 2).toInt ∧ (m59 86 2).toInt = (m47 86 2).toInt ∧ ((v63.toInt = 0 ∨ (m47 86 3).toInt + 1 ≤ (m59 86 3).toInt) ∧ TRX (SU (tC m47) 5 (m47 86 3).toInt) (LSu (tC m47) 5) (fun a => isT (tC m47 a) = false) v63.toInt (m59 86 3).toInt (m59 86 4).toInt) ∧ (m59 lb 7).toInt = (m47 lb 7).toInt := by have q_ := rv63; (try rw [z57] at q_); exact q_
            have K62c := K62
            have K62 := K49.trans (K62.sub (fun _ _ q => q))
            show PV _ _ _ _ _ _ _ 57 [.ref 86, .int 1, .int y12, .int v44] [.int v63] _
            have k57 := rv63.2.2.2.1.2
            have k57p := rv63.2.2.2.1.1
            rw [kt52, kp52] at k57
            refine pv_if_ne (M := mX7_readSum) (tgt := 62) dX7_readSum_57 60 rfl (by decide) (fun c67 => ?_) (fun c67 => ?_)
            · have c67 := iv_ne (X := v63.toInt) (Y := 0) c67 rfl (by decide)
              have kT6 := TRX_ok k57 (by omega)
              refine pv_aload_n (M := mX7_readSum) 0 dX7_readSum_62 63 rfl rfl rfl ?_
              refine mv_get (M := mX7_readSum) (v := .ref lb) dX7_readSum_63 FX7 1 wd281 (by decide) (tl86 hT) rfl R.2.2.2.1 66 rfl ?_
              refine pv_iload_n (M := mX7_readSum) 3 dX7_readSum_66 67 rfl rfl rfl ?_
              refine pv_iconst (M := mX7_readSum) (v := 0) dX7_readSum_67 68 rfl (by decide) ?_
              have z69 : (0 : Int32).toInt = 0 := by decide
              refine pv_callv (M := mX7_readSum) (as := [.int v44, .int 0]) (st := []) (kc2 := 0) (ks2 := 0) dX7_readSum_68 wd567 YX6_emit ⟨wd568, wd569⟩ (mk_get R.2.2.2.2.2.2.1) rfl rfl (s_X6_emit_vx g hT I61 lb R.2.2.2.2.2 v44 0 (by decide) (by decide)) rfl rfl (Nat.le_of_ble_eq_true rfl) (by decide) rfl rfl 71 rfl (fun rv h1 q70 => ?_)
              obtain ⟨m71, n72, rfl, rfl, I73, K74, rm71⟩ := q70
              replace rm71 : (m71 lb 7).toInt = (m59 lb 7).toInt := rm71
              have K74c := K74
              have w75 : (m71 86 3).toInt = (m59 86 3).toInt := congrArg Int32.toInt (K74 86 3 (wr_out (by omega)))
              have w76 : (m71 86 2).toInt = (m59 86 2).toInt := congrArg Int32.toInt (K74 86 2 (wr_out (by omega)))
              have w77 : (m71 86 4).toInt = (m59 86 4).toInt := congrArg Int32.toInt (K74 86 4 (wr_out (by omega)))
              have K74 := K62.trans (K74.sub (by first | exact wR7_r (by omega) | exact wR7_wr))
              show PV _ _ _ _ _ _ _ 71 [.ref 86, .int 1, .int y12, .int v44] [] _
              refine iv_inc (M := mX7_readSum) (C := 1) dX7_readSum_71 74 rfl rfl (by decide) rfl rfl (by decide) (by omega) (by omega) (fun v78 ev78 => ?_)
              show PV _ _ _ _ _ _ _ 74 [.ref 86, .int 1, .int v78, .int v44] [] _
              refine pv_goto (M := mX7_readSum) (tgt := 12) dX7_readSum_74 (by decide) ?_
              refine pv_fg (lo2 := [.ref 86, .int 1, .int v78, pv_U]) ⟨Or.inr rfl, ⟨Or.inr rfl, ⟨Or.inr rfl, ⟨Or.inl rfl, trivial⟩⟩⟩⟩ ?_
              have kb3 : (m71 86 3).toInt = (m59 86 3).toInt := by omega
              have kbs : SU (tC m) 5 (m 86 3).toInt = LSu (tC m) 5 (m71 86 3).toInt := by rw [kgs, LSu_su kTX (by omega) kS, kT6.1]; congr 1; omega
              have kbt : isT (tC m (m71 86 3).toInt) = false := by rw [kb3]; exact kT6.2
              exact ih19 v78 m71 n72 (by first | omega | assumption | exact (iv_rng _).2 | exact (iv_rng _).1 | decide) (by first | omega | assumption | exact (iv_rng _).2 | exact (iv_rng _).1 | decide) (by first | omega | assumption | (show (m71 86 3).toInt ≤ (m71 86 2).toInt; omega) | decide) (by first | omega | assumption | (show (m71 86 2).toInt = (m 86 2).toInt; omega) | decide) (by first | omega | assumption | (show (m71 lb 7).toInt = (m lb 7).toInt; omega) | decide) (by first | omega | assumption | (show (m 86 3).toInt + 1 + 2 * v78.toInt ≤ (m71 86 3).toInt; omega) | decide) kbs kbt I73 K74 (by omega)
            · have c67 := iv_eq (X := v63.toInt) (Y := 0) c67 rfl (by decide)
              refine pv_iconst (M := mX7_readSum) (v := 0) dX7_readSum_60 61 rfl (by decide) ?_
              have z82 : (0 : Int32).toInt = 0 := by decide
              exact pv_iret (M := mX7_readSum) dX7_readSum_61 rfl rfl ⟨_, _, _, rfl, rfl, I61, K62, by decide, by decide, ⟨by omega, by omega, by omega, Or.inr ⟨by decide, by rw [kgs, LSu_su kTX (by omega) kS]; exact TRX_fl k57 (by omega)⟩, by omega⟩⟩
          · have c41 := iv_ne (X := v37.toInt) (Y := 43) c41 rfl (by decide)
            refine pv_aload_n (M := mX7_readSum) 0 dX7_readSum_28 29 rfl rfl rfl ?_
            refine pv_callv (M := mX7_readSum) (as := []) (st := []) (kc2 := 0) (ks2 := 0) dX7_readSum_29 wd527 YX7_peek ⟨wd529, wd2⟩ (mk_get (tl86 hT)) rfl rfl (s_X7_peek_vx g hT I15 R) rfl rfl (Nat.le_of_ble_eq_true rfl) (by decide) rfl rfl 32 rfl (fun rv h1 q83 => ?_)
            obtain ⟨v84, rfl, rfl, pv84, qv84, rv84⟩ := q83
            replace rv84 : v84.toInt = tC m13 (m13 86 3).toInt ∧ (v84.toInt = -1 ∨ (m13 86 3).toInt < (m13 86 2).toInt) := rv84
            show PV _ _ _ _ _ _ _ 32 [.ref 86, .int 1, .int y12, pv_U] [.int v84] _
            have k32 := rv84.1
            have k32b := rv84.2
            rw [kt12] at k32
            refine pv_bipush (M := mX7_readSum) (v := 45) dX7_readSum_32 34 rfl (by decide) ?_
            refine pv_icmp_ne (M := mX7_readSum) (tgt := 77) dX7_readSum_34 37 rfl (by decide) (fun c88 => ?_) (fun c88 => ?_)
            · have c88 := iv_ne (X := v84.toInt) (Y := 45) c88 rfl (by decide)
              refine pv_iconst (M := mX7_readSum) (v := 1) dX7_readSum_77 78 rfl (by decide) ?_
              have z89 : (1 : Int32).toInt = 1 := by decide
              exact pv_iret (M := mX7_readSum) dX7_readSum_78 rfl rfl ⟨_, _, _, rfl, rfl, I15, K16, by decide, by decide, ⟨by omega, by omega, by omega, (by first | exact Or.inl ⟨by decide, by rw [kgs]; exact LSu_no (isS_n kgt (by omega) (by omega))⟩ | (exfalso; omega)), by omega⟩⟩
            · have c88 := iv_eq (X := v84.toInt) (Y := 45) c88 rfl (by decide)
              have kS : isS (tC m (m13 86 3).toInt) = true := isS_y (by omega)
              refine pv_aload_n (M := mX7_readSum) 0 dX7_readSum_37 38 rfl rfl rfl ?_
              refine pv_callv (M := mX7_readSum) (as := []) (st := []) (kc2 := 0) (ks2 := 0) dX7_readSum_38 wd527 YX7_peek ⟨wd529, wd2⟩ (mk_get (tl86 hT)) rfl rfl (s_X7_peek_vx g hT I15 R) rfl rfl (Nat.le_of_ble_eq_true rfl) (by decide) rfl rfl 41 rfl (fun rv h1 q91 => ?_)
              obtain ⟨v92, rfl, rfl, pv92, qv92, rv92⟩ := q91
              replace rv92 : v92.toInt = tC m13 (m13 86 3).toInt ∧ (v92.toInt = -1 ∨ (m13 86 3).toInt < (m13 86 2).toInt) := rv92
              show PV _ _ _ _ _ _ _ 41 [.ref 86, .int 1, .int y12, pv_U] [.int v92] _
              refine pv_istore_n (M := mX7_readSum) 3 (lo2 := [.ref 86, .int 1, .int y12, .int v92]) dX7_readSum_41 42 rfl rfl (by decide) rfl rfl ?_
              refine pv_aload_n (M := mX7_readSum) 0 dX7_readSum_42 43 rfl rfl rfl ?_
              refine pv_dup (M := mX7_readSum) dX7_readSum_43 44 rfl rfl ?_
              refine iv_get (M := mX7_readSum) (l1 := 0) (l2 := 160) dX7_readSum_44 FX7 3 wd283 (by decide) (tl86 hT) rfl I15 rfl 47 rfl (fun v93 ev93 pv93 qv93 => ?_)
              have wv93 : v93.toInt = (m13 86 3).toInt := congrArg Int32.toInt ev93
              refine pv_iconst (M := mX7_readSum) (v := 1) dX7_readSum_47 48 rfl (by decide) ?_
              refine iv_iadd (M := mX7_readSum) (X := v93.toInt) (Y := 1) dX7_readSum_48 49 rfl rfl (by decide) (by omega) (by omega) (fun v94 ev94 => ?_)
              refine iv_put (M := mX7_readSum) (l1 := 0) (l2 := 160) dX7_readSum_49 FX7 3 wd283 (by decide) rfl (tl86 hT) rfl rfl rfl I15 rfl (by omega) (by omega) 52 rfl (fun m95 e98 I96 => ?_)
              have K97 := K16.set e98 (by decide)
              have w99 : (m95 86 3).toInt = v94.toInt := by rw [e98, up2_eq]
              have w100 : (m95 86 2).toInt = (m13 86 2).toInt := by rw [e98, up2_ne (by omega)]
              have w101 : (m95 86 4).toInt = (m13 86 4).toInt := by rw [e98, up2_ne (by omega)]
              have w102 : (m95 lb 7).toInt = (m13 lb 7).toInt := by rw [e98, up2_ne (by omega)]
              have kt52 : tC m95 = tC m := tC_eq (K97 86 2 rfl) (fun j => K97 87 j rfl)
              have kp52 : (m95 86 3).toInt = (m13 86 3).toInt + 1 := by omega
              refine pv_aload_n (M := mX7_readSum) 0 dX7_readSum_52 53 rfl rfl rfl ?_
              refine pv_iload_n (M := mX7_readSum) 1 dX7_readSum_53 54 rfl rfl rfl ?_
              have z105 : (1 : Int32).toInt = 1 := by decide
              refine pv_callv (M := mX7_readSum) (as := [.int 1]) (st := []) (kc2 := 0) (ks2 := 0) dX7_readSum_54 wd543 YX7_readTerm ⟨wd545, wd5⟩ (mk_get (tl86 hT)) rfl rfl (s_X7_readTerm_v1x g hT I96 R (by first | omega | assumption | exact (iv_rng _).2 | exact (iv_rng _).1 | decide) (TBC_eq hp1 kt52)) rfl rfl (Nat.le_of_ble_eq_true rfl) (by decide) rfl rfl 57 rfl (fun rv h1 q106 => ?_)
              obtain ⟨m107, n108, v111, rfl, rfl, I109, K110, pv111, qv111, rv111⟩ := q106
              replace rv111 : (m95 86 3).toInt ≤ (m107 86 3).toInt ∧ (m107 86 3).toInt ≤ (m107 86 2).toInt ∧ (m107 86 2).toInt = (m95 86 2).toInt ∧ ((v111.toInt = 0 ∨ (m95 86 3).toInt + 1 ≤ (m107 86 3).toInt) ∧ TRX (SU (tC m95) 5 (m95 86 3).toInt) (LSu (tC m95) 5) (fun a => isT (tC m95 a) = false) v111.toInt (m107 86 3).toInt (m107 86 4).toInt) ∧ (m107 lb 7).toInt = (m95 lb 7).toInt := by have q_ := rv111; (try rw [z105] at q_); exact q_
              have K110c := K110
              have K110 := K97.trans (K110.sub (fun _ _ q => q))
              show PV _ _ _ _ _ _ _ 57 [.ref 86, .int 1, .int y12, .int v92] [.int v111] _
              have k57 := rv111.2.2.2.1.2
              have k57p := rv111.2.2.2.1.1
              rw [kt52, kp52] at k57
              refine pv_if_ne (M := mX7_readSum) (tgt := 62) dX7_readSum_57 60 rfl (by decide) (fun c115 => ?_) (fun c115 => ?_)
              · have c115 := iv_ne (X := v111.toInt) (Y := 0) c115 rfl (by decide)
                have kT6 := TRX_ok k57 (by omega)
                refine pv_aload_n (M := mX7_readSum) 0 dX7_readSum_62 63 rfl rfl rfl ?_
                refine mv_get (M := mX7_readSum) (v := .ref lb) dX7_readSum_63 FX7 1 wd281 (by decide) (tl86 hT) rfl R.2.2.2.1 66 rfl ?_
                refine pv_iload_n (M := mX7_readSum) 3 dX7_readSum_66 67 rfl rfl rfl ?_
                refine pv_iconst (M := mX7_readSum) (v := 0) dX7_readSum_67 68 rfl (by decide) ?_
                have z117 : (0 : Int32).toInt = 0 := by decide
                refine pv_callv (M := mX7_readSum) (as := [.int v92, .int 0]) (st := []) (kc2 := 0) (ks2 := 0) dX7_readSum_68 wd567 YX6_emit ⟨wd568, wd569⟩ (mk_get R.2.2.2.2.2.2.1) rfl rfl (s_X6_emit_vx g hT I109 lb R.2.2.2.2.2 v92 0 (by decide) (by decide)) rfl rfl (Nat.le_of_ble_eq_true rfl) (by decide) rfl rfl 71 rfl (fun rv h1 q118 => ?_)
                obtain ⟨m119, n120, rfl, rfl, I121, K122, rm119⟩ := q118
                replace rm119 : (m119 lb 7).toInt = (m107 lb 7).toInt := rm119
                have K122c := K122
                have w123 : (m119 86 3).toInt = (m107 86 3).toInt := congrArg Int32.toInt (K122 86 3 (wr_out (by omega)))
                have w124 : (m119 86 2).toInt = (m107 86 2).toInt := congrArg Int32.toInt (K122 86 2 (wr_out (by omega)))
                have w125 : (m119 86 4).toInt = (m107 86 4).toInt := congrArg Int32.toInt (K122 86 4 (wr_out (by omega)))
                have K122 := K110.trans (K122.sub (by first | exact wR7_r (by omega) | exact wR7_wr))
                show PV _ _ _ _ _ _ _ 71 [.ref 86, .int 1, .int y12, .int v92] [] _
                refine iv_inc (M := mX7_readSum) (C := 1) dX7_readSum_71 74 rfl rfl (by decide) rfl rfl (by decide) (by omega) (by omega) (fun v126 ev126 => ?_)
                show PV _ _ _ _ _ _ _ 74 [.ref 86, .int 1, .int v126, .int v92] [] _
                refine pv_goto (M := mX7_readSum) (tgt := 12) dX7_readSum_74 (by decide) ?_
                refine pv_fg (lo2 := [.ref 86, .int 1, .int v126, pv_U]) ⟨Or.inr rfl, ⟨Or.inr rfl, ⟨Or.inr rfl, ⟨Or.inl rfl, trivial⟩⟩⟩⟩ ?_
                have kb3 : (m119 86 3).toInt = (m107 86 3).toInt := by omega
                have kbs : SU (tC m) 5 (m 86 3).toInt = LSu (tC m) 5 (m119 86 3).toInt := by rw [kgs, LSu_su kTX (by omega) kS, kT6.1]; congr 1; omega
                have kbt : isT (tC m (m119 86 3).toInt) = false := by rw [kb3]; exact kT6.2
                exact ih19 v126 m119 n120 (by first | omega | assumption | exact (iv_rng _).2 | exact (iv_rng _).1 | decide) (by first | omega | assumption | exact (iv_rng _).2 | exact (iv_rng _).1 | decide) (by first | omega | assumption | (show (m119 86 3).toInt ≤ (m119 86 2).toInt; omega) | decide) (by first | omega | assumption | (show (m119 86 2).toInt = (m 86 2).toInt; omega) | decide) (by first | omega | assumption | (show (m119 lb 7).toInt = (m lb 7).toInt; omega) | decide) (by first | omega | assumption | (show (m 86 3).toInt + 1 + 2 * v126.toInt ≤ (m119 86 3).toInt; omega) | decide) kbs kbt I121 K122 (by omega)
              · have c115 := iv_eq (X := v111.toInt) (Y := 0) c115 rfl (by decide)
                refine pv_iconst (M := mX7_readSum) (v := 0) dX7_readSum_60 61 rfl (by decide) ?_
                have z130 : (0 : Int32).toInt = 0 := by decide
                exact pv_iret (M := mX7_readSum) dX7_readSum_61 rfl rfl ⟨_, _, _, rfl, rfl, I109, K110, by decide, by decide, ⟨by omega, by omega, by omega, Or.inr ⟨by decide, by rw [kgs, LSu_su kTX (by omega) kS]; exact TRX_fl k57 (by omega)⟩, by omega⟩⟩
    have z131 : (0 : Int32).toInt = 0 := by decide
    exact lp18 (((160 - 0) : Int).toNat + 1) 0 m4 n5 (by first | omega | assumption | exact (iv_rng _).2 | exact (iv_rng _).1 | decide) (by first | omega | assumption | exact (iv_rng _).2 | exact (iv_rng _).1 | decide) (by first | omega | assumption | (show (m4 86 3).toInt ≤ (m4 86 2).toInt; omega) | decide) (by first | omega | assumption | (show (m4 86 2).toInt = (m 86 2).toInt; omega) | decide) (by first | omega | assumption | (show (m4 lb 7).toInt = (m lb 7).toInt; omega) | decide) (by first | omega | assumption | (show (m 86 3).toInt + 1 + 2 * 0 ≤ (m4 86 3).toInt; omega) | decide) (TRX_ok k5 (by omega)).1 (TRX_ok k5 (by omega)).2 I6 K7 (by omega)
  · have c11 := iv_eq (X := v8.toInt) (Y := 0) c11 rfl (by decide)
    refine pv_iconst (M := mX7_readSum) (v := 0) dX7_readSum_8 9 rfl (by decide) ?_
    have z132 : (0 : Int32).toInt = 0 := by decide
    exact pv_iret (M := mX7_readSum) dX7_readSum_9 rfl rfl ⟨_, _, _, rfl, rfl, I6, K7, by decide, by decide, ⟨by omega, by omega, by omega, Or.inr ⟨by decide, TRX_fl k5 (by omega)⟩, by omega⟩⟩

set_option maxHeartbeats 2000000 in
set_option maxRecDepth 20000 in
theorem s_X7_readFactor_v0x (g : pv_G) {T : List mv_T} {m : Nat → Nat → Int32} {n : Nat → Nat → Int64} {r : Nat → Value} {la lb : Nat} (hT : TX T) (I : IV BB m) (R : RX T r la lb) (hp0 : (m 86 3).toInt ≤ (m 86 2).toInt) (hp1 : TBC m) : PM g mX7_readFactor yX7_readFactor (sqI T BB wR7 r m 0 1 (fun m' v => (m 86 3).toInt ≤ (m' 86 3).toInt ∧ (m' 86 3).toInt ≤ (m' 86 2).toInt ∧ (m' 86 2).toInt = (m 86 2).toInt ∧ (RSX (FA (tC m) 6 (m 86 3).toInt) v.toInt (m' 86 3).toInt (m' 86 4).toInt) ∧ (m' lb 7).toInt = (m lb 7).toInt)) 23 0 0 [.ref 86, .int 0] (mk T m n r) := by
  have Kp : fr wR7 m m := fr.rf
  have R0 := R
  have zR := R.2.2.2.2.1.1
  have zR2 := R.2.2.2.2.2.1
  have z108 : 0 ≤ (m 86 3).toInt ∧ (m 86 3).toInt ≤ 160 := I 86 3
  have z109 : 0 ≤ (m 86 2).toInt ∧ (m 86 2).toInt ≤ 160 := I 86 2
  refine PM.of 1 (lo := [.ref 86, .int 0, pv_U]) rfl (by decide) rfl rfl (Nat.le_of_ble_eq_true rfl) ?_
  refine pv_aload_n (M := mX7_readFactor) 0 dX7_readFactor_0 1 rfl rfl rfl ?_
  refine pv_callv (M := mX7_readFactor) (as := []) (st := []) (kc2 := 0) (ks2 := 0) dX7_readFactor_1 wd527 YX7_peek ⟨wd529, wd2⟩ (mk_get (tl86 hT)) rfl rfl (s_X7_peek_vx g hT I R) rfl rfl (Nat.le_of_ble_eq_true rfl) (by decide) rfl rfl 4 rfl (fun rv h1 q1 => ?_)
  obtain ⟨v2, rfl, rfl, pv2, qv2, rv2⟩ := q1
  replace rv2 : v2.toInt = tC m (m 86 3).toInt ∧ (v2.toInt = -1 ∨ (m 86 3).toInt < (m 86 2).toInt) := rv2
  show PV _ _ _ _ _ _ _ 4 [.ref 86, .int 0, pv_U] [.int v2] _
  have k4 := rv2.1
  have k4b := rv2.2
  refine pv_bipush (M := mX7_readFactor) (v := 91) dX7_readFactor_4 6 rfl (by decide) ?_
  refine pv_icmp_ne (M := mX7_readFactor) (tgt := 42) dX7_readFactor_6 9 rfl (by decide) (fun c5 => ?_) (fun c5 => ?_)
  · have c5 := iv_ne (X := v2.toInt) (Y := 91) c5 rfl (by decide)
    have kn91 : tC m (m 86 3).toInt ≠ 91 := by omega
    refine pv_aload_n (M := mX7_readFactor) 0 dX7_readFactor_42 43 rfl rfl rfl ?_
    refine pv_callv (M := mX7_readFactor) (as := []) (st := []) (kc2 := 0) (ks2 := 0) dX7_readFactor_43 wd559 YX7_digitAhead ⟨wd561, wd9⟩ (mk_get (tl86 hT)) rfl rfl (s_X7_digitAhead_vx g hT I R) rfl rfl (Nat.le_of_ble_eq_true rfl) (by decide) rfl rfl 46 rfl (fun rv h1 q7 => ?_)
    obtain ⟨v8, rfl, rfl, pv8, qv8, rv8⟩ := q7
    replace rv8 : (v8 = 0 ∨ ((m 86 3).toInt < (m 86 2).toInt ∧ 48 ≤ (m 87 (m 86 3).toInt.toNat).toInt ∧ (m 87 (m 86 3).toInt.toNat).toInt ≤ 57)) ∧ ((v8.toInt = 1 ∧ dig (tC m (m 86 3).toInt) = true) ∨ (v8.toInt = 0 ∧ dig (tC m (m 86 3).toInt) = false)) := rv8
    show PV _ _ _ _ _ _ _ 46 [.ref 86, .int 0, pv_U] [.int v8] _
    have k46 := rv8.2
    refine pv_if_eq (M := mX7_readFactor) (tgt := 54) dX7_readFactor_46 49 rfl (by decide) (fun c10 => ?_) (fun c10 => ?_)
    · have c10 := iv_eq (X := v8.toInt) (Y := 0) c10 rfl (by decide)
      have kdn := (k46.resolve_left (fun q => by have q1 := q.1; omega)).2
      refine pv_aload_n (M := mX7_readFactor) 0 dX7_readFactor_54 55 rfl rfl rfl ?_
      refine pv_callv (M := mX7_readFactor) (as := []) (st := []) (kc2 := 0) (ks2 := 0) dX7_readFactor_55 wd527 YX7_peek ⟨wd529, wd2⟩ (mk_get (tl86 hT)) rfl rfl (s_X7_peek_vx g hT I R) rfl rfl (Nat.le_of_ble_eq_true rfl) (by decide) rfl rfl 58 rfl (fun rv h1 q12 => ?_)
      obtain ⟨v13, rfl, rfl, pv13, qv13, rv13⟩ := q12
      replace rv13 : v13.toInt = tC m (m 86 3).toInt ∧ (v13.toInt = -1 ∨ (m 86 3).toInt < (m 86 2).toInt) := rv13
      show PV _ _ _ _ _ _ _ 58 [.ref 86, .int 0, pv_U] [.int v13] _
      have k58 := rv13.1
      refine pv_iconst (M := mX7_readFactor) (v := (-1)) dX7_readFactor_58 59 rfl (by decide) ?_
      refine pv_icmp_ne (M := mX7_readFactor) (tgt := 66) dX7_readFactor_59 62 rfl (by decide) (fun c15 => ?_) (fun c15 => ?_)
      · have c15 := iv_ne (X := v13.toInt) (Y := (-1)) c15 rfl (by decide)
        refine pv_ldcS (M := mX7_readFactor) dX7_readFactor_66 rfl 68 rfl ?_
        refine pv_aload_n (M := mX7_readFactor) 0 dX7_readFactor_68 69 rfl rfl rfl ?_
        refine pv_callv (M := mX7_readFactor) (as := []) (st := [.retAddr (g.2.2.1 6 + 1)]) (kc2 := 0) (ks2 := 0) dX7_readFactor_69 wd527 YX7_peek ⟨wd529, wd2⟩ (mk_get (tl86 hT)) rfl rfl (s_X7_peek_vx g hT I R) rfl rfl (Nat.le_of_ble_eq_true rfl) (by decide) rfl rfl 72 rfl (fun rv h1 q16 => ?_)
        obtain ⟨v17, rfl, rfl, pv17, qv17, rv17⟩ := q16
        replace rv17 : v17.toInt = tC m (m 86 3).toInt ∧ (v17.toInt = -1 ∨ (m 86 3).toInt < (m 86 2).toInt) := rv17
        show PV _ _ _ _ _ _ _ 72 [.ref 86, .int 0, pv_U] [.int v17, .retAddr (g.2.2.1 6 + 1)] _
        have k72 := rv17.1
        have kb72 := hp1 (m 86 3).toInt
        refine iv_i2cU (M := mX7_readFactor) dX7_readFactor_72 73 rfl (fun v20 ev20 => ?_)
        have k73 := i2c_eq ev20 (by omega) (by omega)
        refine pv_callvS (M := mX7_readFactor) (as := [.int v20]) (st := []) (kc2 := 0) (ks2 := 0) dX7_readFactor_73 wd572 YJ0_indexOf_0f7a4 ⟨wd573, wd574⟩ rfl (s_J0_indexOf_0f7a4_vx g hT I v20 (by omega) (by omega)) rfl rfl (Nat.le_of_ble_eq_true rfl) (by decide) rfl rfl 76 rfl (fun rv h1 q22 => ?_)
        obtain ⟨v23, rfl, rfl, pv23, qv23, rv23⟩ := q22
        replace rv23 : v23.toInt = nix v20.toInt := rv23
        show PV _ _ _ _ _ _ _ 76 [.ref 86, .int 0, pv_U] [.int v23] _
        have k76 : v23.toInt = nix (tC m (m 86 3).toInt) := by first | (rw [show tC m (m 86 3).toInt = -1 by omega]; decide) | (rw [rv23, k73, k72])
        refine pv_istore_n (M := mX7_readFactor) 2 (lo2 := [.ref 86, .int 0, .int v23]) dX7_readFactor_76 77 rfl rfl (by decide) rfl rfl ?_
        refine pv_iload_n (M := mX7_readFactor) 2 dX7_readFactor_77 78 rfl rfl rfl ?_
        refine pv_if_ge (M := mX7_readFactor) (tgt := 87) dX7_readFactor_78 81 rfl (by decide) (fun c25 => ?_) (fun c25 => ?_)
        · have c25 := iv_le (X := 0) (Y := v23.toInt) c25 (by decide) rfl
          refine pv_aload_n (M := mX7_readFactor) 0 dX7_readFactor_87 88 rfl rfl rfl ?_
          refine mv_get (M := mX7_readFactor) (v := .ref lb) dX7_readFactor_88 FX7 1 wd281 (by decide) (tl86 hT) rfl R.2.2.2.1 91 rfl ?_
          refine pv_bipush (M := mX7_readFactor) (v := 36) dX7_readFactor_91 93 rfl (by decide) ?_
          refine pv_iload_n (M := mX7_readFactor) 2 dX7_readFactor_93 94 rfl rfl rfl ?_
          have z26 : (36 : Int32).toInt = 36 := by decide
          refine pv_callv (M := mX7_readFactor) (as := [.int 36, .int v23]) (st := []) (kc2 := 0) (ks2 := 0) dX7_readFactor_94 wd567 YX6_emit ⟨wd568, wd569⟩ (mk_get R.2.2.2.2.2.2.1) rfl rfl (s_X6_emit_vx g hT I lb R.2.2.2.2.2 36 v23 (by omega) (by omega)) rfl rfl (Nat.le_of_ble_eq_true rfl) (by decide) rfl rfl 97 rfl (fun rv h1 q27 => ?_)
          obtain ⟨m28, n29, rfl, rfl, I30, K31, rm28⟩ := q27
          replace rm28 : (m28 lb 7).toInt = (m lb 7).toInt := rm28
          have K31c := K31
          have w32 : (m28 86 3).toInt = (m 86 3).toInt := congrArg Int32.toInt (K31 86 3 (wr_out (by omega)))
          have w33 : (m28 86 2).toInt = (m 86 2).toInt := congrArg Int32.toInt (K31 86 2 (wr_out (by omega)))
          have w34 : (m28 86 4).toInt = (m 86 4).toInt := congrArg Int32.toInt (K31 86 4 (wr_out (by omega)))
          have K31 := Kp.trans (K31.sub (by first | exact wR7_r (by omega) | exact wR7_wr))
          show PV _ _ _ _ _ _ _ 97 [.ref 86, .int 0, .int v23] [] _
          refine pv_aload_n (M := mX7_readFactor) 0 dX7_readFactor_97 98 rfl rfl rfl ?_
          refine pv_dup (M := mX7_readFactor) dX7_readFactor_98 99 rfl rfl ?_
          refine iv_get (M := mX7_readFactor) (l1 := 0) (l2 := 160) dX7_readFactor_99 FX7 3 wd283 (by decide) (tl86 hT) rfl I30 rfl 102 rfl (fun v35 ev35 pv35 qv35 => ?_)
          have wv35 : v35.toInt = (m28 86 3).toInt := congrArg Int32.toInt ev35
          refine pv_iconst (M := mX7_readFactor) (v := 1) dX7_readFactor_102 103 rfl (by decide) ?_
          refine iv_iadd (M := mX7_readFactor) (X := v35.toInt) (Y := 1) dX7_readFactor_103 104 rfl rfl (by decide) (by omega) (by omega) (fun v36 ev36 => ?_)
          refine iv_put (M := mX7_readFactor) (l1 := 0) (l2 := 160) dX7_readFactor_104 FX7 3 wd283 (by decide) rfl (tl86 hT) rfl rfl rfl I30 rfl (by omega) (by omega) 107 rfl (fun m37 e40 I38 => ?_)
          have K39 := K31.set e40 (by decide)
          have w41 : (m37 86 3).toInt = v36.toInt := by rw [e40, up2_eq]
          have w42 : (m37 86 2).toInt = (m28 86 2).toInt := by rw [e40, up2_ne (by omega)]
          have w43 : (m37 86 4).toInt = (m28 86 4).toInt := by rw [e40, up2_ne (by omega)]
          have w44 : (m37 lb 7).toInt = (m28 lb 7).toInt := by rw [e40, up2_ne (by omega)]
          refine pv_iconst (M := mX7_readFactor) (v := 1) dX7_readFactor_107 108 rfl (by decide) ?_
          have z45 : (1 : Int32).toInt = 1 := by decide
          exact pv_iret (M := mX7_readFactor) dX7_readFactor_108 rfl rfl ⟨_, _, _, rfl, rfl, I38, K39, by decide, by decide, ⟨by omega, by omega, by omega, Or.inl ⟨by decide, by rw [FA_atom kn91, AT_nam kdn (nix_y (by omega)), show (m 86 3).toInt + 1 = (m37 86 3).toInt by omega]⟩, by omega⟩⟩
        · have c25 := iv_nle (X := 0) (Y := v23.toInt) c25 (by decide) rfl
          refine pv_aload_n (M := mX7_readFactor) 0 dX7_readFactor_81 82 rfl rfl rfl ?_
          refine pv_iconst (M := mX7_readFactor) (v := 1) dX7_readFactor_82 83 rfl (by decide) ?_
          have z46 : (1 : Int32).toInt = 1 := by decide
          refine pv_callv (M := mX7_readFactor) (as := [.int 1]) (st := []) (kc2 := 0) (ks2 := 0) dX7_readFactor_83 wd531 YX7_fail ⟨wd533, wd3⟩ (mk_get (tl86 hT)) rfl rfl (s_X7_fail_vx g hT I R 1 (by decide) (by decide) (by first | omega | assumption | exact (iv_rng _).2 | exact (iv_rng _).1 | decide)) rfl rfl (Nat.le_of_ble_eq_true rfl) (by decide) rfl rfl 86 rfl (fun rv h1 q47 => ?_)
          obtain ⟨m48, n49, v52, rfl, rfl, I50, K51, pv52, qv52, rv52⟩ := q47
          replace rv52 : (m 86 3).toInt ≤ (m48 86 3).toInt ∧ (m48 86 3).toInt ≤ (m48 86 2).toInt ∧ (m48 86 2).toInt = (m 86 2).toInt ∧ (v52.toInt = 0 ∧ (m48 86 3).toInt = (m 86 3).toInt ∧ (m48 86 4).toInt = -1000 * (1 : Int) - (m 86 3).toInt) ∧ (m48 lb 7).toInt = (m lb 7).toInt := by have q_ := rv52; (try rw [z46] at q_); exact q_
          have K51c := K51
          have K51 := Kp.trans (K51.sub (fun _ _ q => q))
          show PV _ _ _ _ _ _ _ 86 [.ref 86, .int 0, .int v23] [.int v52] _
          exact pv_iret (M := mX7_readFactor) dX7_readFactor_86 rfl (iv_nz (by omega) (by omega)) ⟨_, _, _, rfl, rfl, I50, K51, by omega, by omega, ⟨by omega, by omega, by omega, Or.inr ⟨by omega, FLT_of (a := 1) (p := (m 86 3).toInt) (by rw [FA_atom kn91]; exact AT_no kdn (nix_no (by omega))) (by decide) (by omega)⟩, by omega⟩⟩
      · have c15 := iv_eq (X := v13.toInt) (Y := (-1)) c15 rfl (by decide)
        refine pv_iconst (M := mX7_readFactor) (v := (-1)) dX7_readFactor_62 63 rfl (by decide) ?_
        refine pv_goto (M := mX7_readFactor) (tgt := 76) dX7_readFactor_63 (by decide) ?_
        have k76 : (-1) = nix (tC m (m 86 3).toInt) := by first | (rw [show tC m (m 86 3).toInt = -1 by omega]; decide) | (rw [rlit, k73, k72])
        refine pv_istore_n (M := mX7_readFactor) 2 (lo2 := [.ref 86, .int 0, .int (-1)]) dX7_readFactor_76 77 rfl rfl (by decide) rfl rfl ?_
        refine pv_iload_n (M := mX7_readFactor) 2 dX7_readFactor_77 78 rfl rfl rfl ?_
        refine pv_if_ge (M := mX7_readFactor) (tgt := 87) dX7_readFactor_78 81 rfl (by decide) (fun q => absurd q (by decide)) (fun _ => ?_)
        refine pv_aload_n (M := mX7_readFactor) 0 dX7_readFactor_81 82 rfl rfl rfl ?_
        refine pv_iconst (M := mX7_readFactor) (v := 1) dX7_readFactor_82 83 rfl (by decide) ?_
        have z55 : (1 : Int32).toInt = 1 := by decide
        refine pv_callv (M := mX7_readFactor) (as := [.int 1]) (st := []) (kc2 := 0) (ks2 := 0) dX7_readFactor_83 wd531 YX7_fail ⟨wd533, wd3⟩ (mk_get (tl86 hT)) rfl rfl (s_X7_fail_vx g hT I R 1 (by decide) (by decide) (by first | omega | assumption | exact (iv_rng _).2 | exact (iv_rng _).1 | decide)) rfl rfl (Nat.le_of_ble_eq_true rfl) (by decide) rfl rfl 86 rfl (fun rv h1 q56 => ?_)
        obtain ⟨m57, n58, v61, rfl, rfl, I59, K60, pv61, qv61, rv61⟩ := q56
        replace rv61 : (m 86 3).toInt ≤ (m57 86 3).toInt ∧ (m57 86 3).toInt ≤ (m57 86 2).toInt ∧ (m57 86 2).toInt = (m 86 2).toInt ∧ (v61.toInt = 0 ∧ (m57 86 3).toInt = (m 86 3).toInt ∧ (m57 86 4).toInt = -1000 * (1 : Int) - (m 86 3).toInt) ∧ (m57 lb 7).toInt = (m lb 7).toInt := by have q_ := rv61; (try rw [z55] at q_); exact q_
        have K60c := K60
        have K60 := Kp.trans (K60.sub (fun _ _ q => q))
        show PV _ _ _ _ _ _ _ 86 [.ref 86, .int 0, .int (-1)] [.int v61] _
        exact pv_iret (M := mX7_readFactor) dX7_readFactor_86 rfl (iv_nz (by omega) (by omega)) ⟨_, _, _, rfl, rfl, I59, K60, by omega, by omega, ⟨by omega, by omega, by omega, Or.inr ⟨by omega, FLT_of (a := 1) (p := (m 86 3).toInt) (by rw [FA_atom kn91]; exact AT_no kdn (nix_no (by omega))) (by decide) (by omega)⟩, by omega⟩⟩
    · have pc10 := rv8.1.resolve_left c10
      have c10 := iv_ne (X := v8.toInt) (Y := 0) c10 rfl (by decide)
      have kd := (k46.resolve_right (fun q => by have q1 := q.1; omega)).2
      refine pv_aload_n (M := mX7_readFactor) 0 dX7_readFactor_49 50 rfl rfl rfl ?_
      refine pv_callv (M := mX7_readFactor) (as := []) (st := []) (kc2 := 0) (ks2 := 0) dX7_readFactor_50 wd563 YX7_readNumber ⟨wd565, wd10⟩ (mk_get (tl86 hT)) rfl rfl (s_X7_readNumber_vx g hT I R (by first | omega | assumption | exact (iv_rng _).2 | exact (iv_rng _).1 | decide)) rfl rfl (Nat.le_of_ble_eq_true rfl) (by decide) rfl rfl 53 rfl (fun rv h1 q63 => ?_)
      obtain ⟨m64, n65, v68, rfl, rfl, I66, K67, pv68, qv68, rv68⟩ := q63
      replace rv68 : (m 86 3).toInt ≤ (m64 86 3).toInt ∧ (m64 86 3).toInt ≤ (m64 86 2).toInt ∧ (m64 86 2).toInt = (m 86 2).toInt ∧ (RSX (nd (tC m) 5 (m 86 3).toInt) v68.toInt (m64 86 3).toInt (m64 86 4).toInt) ∧ (m64 lb 7).toInt = (m lb 7).toInt := rv68
      have K67c := K67
      have K67 := Kp.trans (K67.sub (fun _ _ q => q))
      show PV _ _ _ _ _ _ _ 53 [.ref 86, .int 0, pv_U] [.int v68] _
      have k53 := rv68.2.2.2.1
      exact pv_iret (M := mX7_readFactor) dX7_readFactor_53 rfl (iv_nz (by omega) (by omega)) ⟨_, _, _, rfl, rfl, I66, K67, by omega, by omega, ⟨by omega, by omega, by omega, (by rw [FA_atom kn91, AT_num kd]; exact k53), by omega⟩⟩
  · have c5 := iv_eq (X := v2.toInt) (Y := 91) c5 rfl (by decide)
    have k91 : tC m (m 86 3).toInt = 91 := by omega
    refine pv_aload_n (M := mX7_readFactor) 0 dX7_readFactor_9 10 rfl rfl rfl ?_
    refine pv_iload_n (M := mX7_readFactor) 1 dX7_readFactor_10 11 rfl rfl rfl ?_
    have z71 : (0 : Int32).toInt = 0 := by decide
    refine pv_callv (M := mX7_readFactor) (as := [.int 0]) (st := []) (kc2 := 0) (ks2 := 0) dX7_readFactor_11 wd551 YX7_open ⟨wd553, wd7⟩ (mk_get (tl86 hT)) rfl rfl (s_X7_open_vx g hT I R 0 (by decide) (by decide) (by first | omega | assumption | exact (iv_rng _).2 | exact (iv_rng _).1 | decide)) rfl rfl (Nat.le_of_ble_eq_true rfl) (by decide) rfl rfl 14 rfl (fun rv h1 q72 => ?_)
    obtain ⟨m73, n74, v77, rfl, rfl, I75, K76, pv77, qv77, rv77⟩ := q72
    replace rv77 : (v77 = 0 ∨ (0 : Int) ≤ 5) ∧ (m 86 3).toInt ≤ (m73 86 3).toInt ∧ (m73 86 3).toInt ≤ (m73 86 2).toInt ∧ (m73 86 2).toInt = (m 86 2).toInt ∧ ((v77.toInt = 1 ∧ (0 : Int) ≤ 5 ∧ (m73 86 3).toInt = (m 86 3).toInt + 1) ∨ (v77.toInt = 0 ∧ 6 ≤ (0 : Int) ∧ (m73 86 4).toInt = -5000 - (m 86 3).toInt ∧ (m73 86 3).toInt = (m 86 3).toInt)) ∧ (m73 lb 7).toInt = (m lb 7).toInt := by have q_ := rv77; (try rw [z71] at q_); exact q_
    have K76c := K76
    have K76 := Kp.trans (K76.sub (fun _ _ q => q))
    show PV _ _ _ _ _ _ _ 14 [.ref 86, .int 0, pv_U] [.int v77] _
    refine pv_if_eq (M := mX7_readFactor) (tgt := 40) dX7_readFactor_14 17 rfl (by decide) (fun c78 => ?_) (fun c78 => ?_)
    · have c78 := iv_eq (X := v77.toInt) (Y := 0) c78 rfl (by decide)
      refine pv_iconst (M := mX7_readFactor) (v := 0) dX7_readFactor_40 41 rfl (by decide) ?_
      have z79 : (0 : Int32).toInt = 0 := by decide
      exact pv_iret (M := mX7_readFactor) dX7_readFactor_41 rfl rfl ⟨_, _, _, rfl, rfl, I75, K76, by decide, by decide, ⟨by omega, by omega, by omega, (by first | exact Or.inr ⟨by decide, FX_deep k91 (by omega)⟩ | exact Or.inr ⟨by decide, FX_cn k91 k27 (fun z => by omega) (by omega)⟩ | exact Or.inl ⟨by decide, FX_co k91 k27 (by omega) (by omega)⟩ | exact Or.inr ⟨by decide, FX_sum k91 (RSX_fl k24 (by omega))⟩ | (exfalso; omega)), by omega⟩⟩
    · have pc78 := rv77.1.resolve_left c78
      have c78 := iv_ne (X := v77.toInt) (Y := 0) c78 rfl (by decide)
      have kt17 : tC m73 = tC m := tC_eq (K76 86 2 rfl) (fun j => K76 87 j rfl)
      have kp17 : (m73 86 3).toInt = (m 86 3).toInt + 1 := by omega
      refine pv_aload_n (M := mX7_readFactor) 0 dX7_readFactor_17 18 rfl rfl rfl ?_
      refine pv_iload_n (M := mX7_readFactor) 1 dX7_readFactor_18 19 rfl rfl rfl ?_
      refine pv_iconst (M := mX7_readFactor) (v := 1) dX7_readFactor_19 20 rfl (by decide) ?_
      refine pv_iadd (M := mX7_readFactor) (v := 1) dX7_readFactor_20 21 rfl (by decide) ?_
      have z83 : (1 : Int32).toInt = 1 := by decide
      refine pv_callv (M := mX7_readFactor) (as := [.int 1]) (st := []) (kc2 := 0) (ks2 := 0) dX7_readFactor_21 wd539 YX7_readSum ⟨wd541, wd4⟩ (mk_get (tl86 hT)) rfl rfl (s_X7_readSum_v1x g hT I75 R (by first | omega | assumption | exact (iv_rng _).2 | exact (iv_rng _).1 | decide) (TBC_eq hp1 kt17)) rfl rfl (Nat.le_of_ble_eq_true rfl) (by decide) rfl rfl 24 rfl (fun rv h1 q84 => ?_)
      obtain ⟨m85, n86, v89, rfl, rfl, I87, K88, pv89, qv89, rv89⟩ := q84
      replace rv89 : (m73 86 3).toInt ≤ (m85 86 3).toInt ∧ (m85 86 3).toInt ≤ (m85 86 2).toInt ∧ (m85 86 2).toInt = (m73 86 2).toInt ∧ (RSX (SU (tC m73) 5 (m73 86 3).toInt) v89.toInt (m85 86 3).toInt (m85 86 4).toInt) ∧ (m85 lb 7).toInt = (m73 lb 7).toInt := by have q_ := rv89; (try rw [z83] at q_); exact q_
      have K88c := K88
      have K88 := K76.trans (K88.sub (fun _ _ q => q))
      show PV _ _ _ _ _ _ _ 24 [.ref 86, .int 0, pv_U] [.int v89] _
      have k24 := rv89.2.2.2.1
      rw [kt17, kp17] at k24
      refine pv_if_eq (M := mX7_readFactor) (tgt := 40) dX7_readFactor_24 27 rfl (by decide) (fun c92 => ?_) (fun c92 => ?_)
      · have c92 := iv_eq (X := v89.toInt) (Y := 0) c92 rfl (by decide)
        refine pv_iconst (M := mX7_readFactor) (v := 0) dX7_readFactor_40 41 rfl (by decide) ?_
        have z93 : (0 : Int32).toInt = 0 := by decide
        exact pv_iret (M := mX7_readFactor) dX7_readFactor_41 rfl rfl ⟨_, _, _, rfl, rfl, I87, K88, by decide, by decide, ⟨by omega, by omega, by omega, (by first | exact Or.inr ⟨by decide, FX_deep k91 (by omega)⟩ | exact Or.inr ⟨by decide, FX_cn k91 k27 (fun z => by omega) (by omega)⟩ | exact Or.inl ⟨by decide, FX_co k91 k27 (by omega) (by omega)⟩ | exact Or.inr ⟨by decide, FX_sum k91 (RSX_fl k24 (by omega))⟩ | (exfalso; omega)), by omega⟩⟩
      · have c92 := iv_ne (X := v89.toInt) (Y := 0) c92 rfl (by decide)
        have k27 := RSX_ok k24 (by omega)
        have kt27 : tC m85 = tC m := tC_eq (K88 86 2 rfl) (fun j => K88 87 j rfl)
        refine pv_aload_n (M := mX7_readFactor) 0 dX7_readFactor_27 28 rfl rfl rfl ?_
        refine pv_bipush (M := mX7_readFactor) (v := 93) dX7_readFactor_28 30 rfl (by decide) ?_
        have z96 : (93 : Int32).toInt = 93 := by decide
        refine pv_callv (M := mX7_readFactor) (as := [.int 93]) (st := []) (kc2 := 0) (ks2 := 0) dX7_readFactor_30 wd555 YX7_pass ⟨wd557, wd8⟩ (mk_get (tl86 hT)) rfl rfl (s_X7_pass_vx g hT I87 R 93 (by decide) (by decide) (by first | omega | assumption | exact (iv_rng _).2 | exact (iv_rng _).1 | decide)) rfl rfl (Nat.le_of_ble_eq_true rfl) (by decide) rfl rfl 33 rfl (fun rv h1 q97 => ?_)
        obtain ⟨m98, n99, v102, rfl, rfl, I100, K101, pv102, qv102, rv102⟩ := q97
        replace rv102 : (m85 86 3).toInt ≤ (m98 86 3).toInt ∧ (m98 86 3).toInt ≤ (m98 86 2).toInt ∧ (m98 86 2).toInt = (m85 86 2).toInt ∧ ((v102.toInt = 1 ∧ tC m85 (m85 86 3).toInt = (93 : Int) ∧ (m98 86 3).toInt = (m85 86 3).toInt + 1) ∨ (v102.toInt = 0 ∧ tC m85 (m85 86 3).toInt ≠ (93 : Int) ∧ (m98 86 4).toInt = -1000 - (m85 86 3).toInt ∧ (m98 86 3).toInt = (m85 86 3).toInt)) ∧ (m98 lb 7).toInt = (m85 lb 7).toInt := by have q_ := rv102; (try rw [z96] at q_); exact q_
        have K101c := K101
        have K101 := K88.trans (K101.sub (fun _ _ q => q))
        show PV _ _ _ _ _ _ _ 33 [.ref 86, .int 0, pv_U] [.int v102] _
        have k33 := rv102.2.2.2.1
        rw [kt27] at k33
        refine pv_if_eq (M := mX7_readFactor) (tgt := 40) dX7_readFactor_33 36 rfl (by decide) (fun c105 => ?_) (fun c105 => ?_)
        · have c105 := iv_eq (X := v102.toInt) (Y := 0) c105 rfl (by decide)
          refine pv_iconst (M := mX7_readFactor) (v := 0) dX7_readFactor_40 41 rfl (by decide) ?_
          have z106 : (0 : Int32).toInt = 0 := by decide
          exact pv_iret (M := mX7_readFactor) dX7_readFactor_41 rfl rfl ⟨_, _, _, rfl, rfl, I100, K101, by decide, by decide, ⟨by omega, by omega, by omega, (by first | exact Or.inr ⟨by decide, FX_deep k91 (by omega)⟩ | exact Or.inr ⟨by decide, FX_cn k91 k27 (fun z => by omega) (by omega)⟩ | exact Or.inl ⟨by decide, FX_co k91 k27 (by omega) (by omega)⟩ | exact Or.inr ⟨by decide, FX_sum k91 (RSX_fl k24 (by omega))⟩ | (exfalso; omega)), by omega⟩⟩
        · have c105 := iv_ne (X := v102.toInt) (Y := 0) c105 rfl (by decide)
          refine pv_iconst (M := mX7_readFactor) (v := 1) dX7_readFactor_36 37 rfl (by decide) ?_
          refine pv_goto (M := mX7_readFactor) (tgt := 41) dX7_readFactor_37 (by decide) ?_
          have z107 : (1 : Int32).toInt = 1 := by decide
          exact pv_iret (M := mX7_readFactor) dX7_readFactor_41 rfl rfl ⟨_, _, _, rfl, rfl, I100, K101, by decide, by decide, ⟨by omega, by omega, by omega, (by first | exact Or.inr ⟨by decide, FX_deep k91 (by omega)⟩ | exact Or.inr ⟨by decide, FX_cn k91 k27 (fun z => by omega) (by omega)⟩ | exact Or.inl ⟨by decide, FX_co k91 k27 (by omega) (by omega)⟩ | exact Or.inr ⟨by decide, FX_sum k91 (RSX_fl k24 (by omega))⟩ | (exfalso; omega)), by omega⟩⟩

set_option maxHeartbeats 2000000 in
set_option maxRecDepth 20000 in
theorem s_X7_readTerm_v0x (g : pv_G) {T : List mv_T} {m : Nat → Nat → Int32} {n : Nat → Nat → Int64} {r : Nat → Value} {la lb : Nat} (hT : TX T) (I : IV BB m) (R : RX T r la lb) (hp0 : (m 86 3).toInt ≤ (m 86 2).toInt) (hp1 : TBC m) : PM g mX7_readTerm yX7_readTerm (sqI T BB wR7 r m 0 1 (fun m' v => (m 86 3).toInt ≤ (m' 86 3).toInt ∧ (m' 86 3).toInt ≤ (m' 86 2).toInt ∧ (m' 86 2).toInt = (m 86 2).toInt ∧ ((v.toInt = 0 ∨ (m 86 3).toInt + 1 ≤ (m' 86 3).toInt) ∧ TRX (SU (tC m) 6 (m 86 3).toInt) (LSu (tC m) 6) (fun a => isT (tC m a) = false) v.toInt (m' 86 3).toInt (m' 86 4).toInt) ∧ (m' lb 7).toInt = (m lb 7).toInt)) 24 0 0 [.ref 86, .int 0] (mk T m n r) := by
  have Kp : fr wR7 m m := fr.rf
  have R0 := R
  have zR := R.2.2.2.2.1.1
  have zR2 := R.2.2.2.2.2.1
  have z84 : 0 ≤ (m 86 3).toInt ∧ (m 86 3).toInt ≤ 160 := I 86 3
  have z85 : 0 ≤ (m 86 2).toInt ∧ (m 86 2).toInt ≤ 160 := I 86 2
  refine PM.of 2 (lo := [.ref 86, .int 0, pv_U, pv_U]) rfl (by decide) rfl rfl (Nat.le_of_ble_eq_true rfl) ?_
  have kTX := TXT_C I
  refine pv_aload_n (M := mX7_readTerm) 0 dX7_readTerm_0 1 rfl rfl rfl ?_
  refine pv_iload_n (M := mX7_readTerm) 1 dX7_readTerm_1 2 rfl rfl rfl ?_
  have z2 : (0 : Int32).toInt = 0 := by decide
  refine pv_callv (M := mX7_readTerm) (as := [.int 0]) (st := []) (kc2 := 0) (ks2 := 0) dX7_readTerm_2 wd547 YX7_readFactor ⟨wd549, wd6⟩ (mk_get (tl86 hT)) rfl rfl (s_X7_readFactor_v0x g hT I R (by first | omega | assumption | exact (iv_rng _).2 | exact (iv_rng _).1 | decide) hp1) rfl rfl (Nat.le_of_ble_eq_true rfl) (by decide) rfl rfl 5 rfl (fun rv h1 q3 => ?_)
  obtain ⟨m4, n5, v8, rfl, rfl, I6, K7, pv8, qv8, rv8⟩ := q3
  replace rv8 : (m 86 3).toInt ≤ (m4 86 3).toInt ∧ (m4 86 3).toInt ≤ (m4 86 2).toInt ∧ (m4 86 2).toInt = (m 86 2).toInt ∧ (RSX (FA (tC m) 6 (m 86 3).toInt) v8.toInt (m4 86 3).toInt (m4 86 4).toInt) ∧ (m4 lb 7).toInt = (m lb 7).toInt := by have q_ := rv8; (try rw [z2] at q_); exact q_
  have K7c := K7
  have K7 := Kp.trans (K7.sub (fun _ _ q => q))
  show PV _ _ _ _ _ _ _ 5 [.ref 86, .int 0, pv_U, pv_U] [.int v8] _
  have k5 := rv8.2.2.2.1
  refine pv_if_ne (M := mX7_readTerm) (tgt := 10) dX7_readTerm_5 8 rfl (by decide) (fun c10 => ?_) (fun c10 => ?_)
  · have c10 := iv_ne (X := v8.toInt) (Y := 0) c10 rfl (by decide)
    have kF0 := RSX_ok k5 (by omega)
    have kF1 := FA_le 6 (m 86 3).toInt (by rw [kF0])
    rw [kF0] at kF1
    refine pv_iconst (M := mX7_readTerm) (v := 0) dX7_readTerm_10 11 rfl (by decide) ?_
    refine pv_istore_n (M := mX7_readTerm) 2 (lo2 := [.ref 86, .int 0, .int 0, pv_U]) dX7_readTerm_11 12 rfl rfl (by decide) rfl rfl ?_
    have lp20 : ∀ (fuel19 : Nat) (y14 : Int32) (m15 : Nat → Nat → Int32) (n16 : Nat → Nat → Int64), (0 ≤ y14.toInt) → (y14.toInt ≤ 160) → ((m15 86 3).toInt ≤ (m15 86 2).toInt) → ((m15 86 2).toInt = (m 86 2).toInt) → ((m15 lb 7).toInt = (m lb 7).toInt) → ((m 86 3).toInt + 1 + 2 * y14.toInt ≤ (m15 86 3).toInt) → (SU (tC m) 6 (m 86 3).toInt = LSu (tC m) 6 (m15 86 3).toInt) → IV BB m15 → fr wR7 m m15 → ((160 - y14.toInt) : Int).toNat < fuel19 → PV none g mX7_readTerm (sqI T BB wR7 r m 0 1 (fun m' v => (m 86 3).toInt ≤ (m' 86 3).toInt ∧ (m' 86 3).toInt ≤ (m' 86 2).toInt ∧ (m' 86 2).toInt = (m 86 2).toInt ∧ ((v.toInt = 0 ∨ (m 86 3).toInt + 1 ≤ (m' 86 3).toInt) ∧ TRX (SU (tC m) 6 (m 86 3).toInt) (LSu (tC m) 6) (fun a => isT (tC m a) = false) v.toInt (m' 86 3).toInt (m' 86 4).toInt) ∧ (m' lb 7).toInt = (m lb 7).toInt)) 24 0 0 12 [.ref 86, .int 0, .int y14, pv_U] [] (mk T m15 n16 r) := by
      intro fuel19
      induction fuel19 with
      | zero => intro y14 m15 n16 b22 b23 b24 b25 b26 b27 b28 I17 K18 z29; omega
      | succ fuel19 ih21 =>
        intro y14 m15 n16 b22 b23 b24 b25 b26 b27 b28 I17 K18 z29
        have z30 : 0 ≤ (m15 86 3).toInt ∧ (m15 86 3).toInt ≤ 160 := I17 86 3
        have z31 : 0 ≤ (m15 86 2).toInt ∧ (m15 86 2).toInt ≤ 160 := I17 86 2
        have kgs := (show SU (tC m) 6 (m 86 3).toInt = LSu (tC m) 6 (m15 86 3).toInt by assumption)
        have kt12 : tC m15 = tC m := tC_eq (K18 86 2 rfl) (fun j => K18 87 j rfl)
        refine pv_iload_n (M := mX7_readTerm) 2 dX7_readTerm_12 13 rfl rfl rfl ?_
        refine pv_sipush (M := mX7_readTerm) (v := 160) dX7_readTerm_13 16 rfl (by decide) ?_
        refine pv_icmp_ge (M := mX7_readTerm) (tgt := 66) dX7_readTerm_16 19 rfl (by decide) (fun c34 => ?_) (fun c34 => ?_)
        · have c34 := iv_le (X := 160) (Y := y14.toInt) c34 (by decide) rfl
          refine pv_iconst (M := mX7_readTerm) (v := 1) dX7_readTerm_66 67 rfl (by decide) ?_
          have z35 : (1 : Int32).toInt = 1 := by decide
          exact pv_iret (M := mX7_readTerm) dX7_readTerm_67 rfl rfl ⟨_, _, _, rfl, rfl, I17, K18, by decide, by decide, ⟨by omega, by omega, by omega, ⟨Or.inr (by omega), Or.inl ⟨by decide, kgs, by first | (exact (k23.resolve_left (fun q => by have q1 := q.1; omega)).2) | (exfalso; omega)⟩⟩, by omega⟩⟩
        · have c34 := iv_nle (X := 160) (Y := y14.toInt) c34 (by decide) rfl
          refine pv_aload_n (M := mX7_readTerm) 0 dX7_readTerm_19 20 rfl rfl rfl ?_
          refine pv_callv (M := mX7_readTerm) (as := []) (st := []) (kc2 := 0) (ks2 := 0) dX7_readTerm_20 wd654 YX7_timesAhead ⟨wd656, wd11⟩ (mk_get (tl86 hT)) rfl rfl (s_X7_timesAhead_vx g hT I17 R) rfl rfl (Nat.le_of_ble_eq_true rfl) (by decide) rfl rfl 23 rfl (fun rv h1 q36 => ?_)
          obtain ⟨v37, rfl, rfl, pv37, qv37, rv37⟩ := q36
          replace rv37 : (v37 = 0 ∨ (m15 86 3).toInt < (m15 86 2).toInt) ∧ ((v37.toInt = 1 ∧ isT (tC m15 (m15 86 3).toInt) = true) ∨ (v37.toInt = 0 ∧ isT (tC m15 (m15 86 3).toInt) = false)) := rv37
          show PV _ _ _ _ _ _ _ 23 [.ref 86, .int 0, .int y14, pv_U] [.int v37] _
          have k23 := rv37.2
          rw [kt12] at k23
          refine pv_if_eq (M := mX7_readTerm) (tgt := 66) dX7_readTerm_23 26 rfl (by decide) (fun c40 => ?_) (fun c40 => ?_)
          · have c40 := iv_eq (X := v37.toInt) (Y := 0) c40 rfl (by decide)
            refine pv_iconst (M := mX7_readTerm) (v := 1) dX7_readTerm_66 67 rfl (by decide) ?_
            have z41 : (1 : Int32).toInt = 1 := by decide
            exact pv_iret (M := mX7_readTerm) dX7_readTerm_67 rfl rfl ⟨_, _, _, rfl, rfl, I17, K18, by decide, by decide, ⟨by omega, by omega, by omega, ⟨Or.inr (by omega), Or.inl ⟨by decide, kgs, by first | (exact (k23.resolve_left (fun q => by have q1 := q.1; omega)).2) | (exfalso; omega)⟩⟩, by omega⟩⟩
          · have pc40 := rv37.1.resolve_left c40
            have c40 := iv_ne (X := v37.toInt) (Y := 0) c40 rfl (by decide)
            have kT := (k23.resolve_right (fun q => by have q1 := q.1; omega)).2
            refine pv_aload_n (M := mX7_readTerm) 0 dX7_readTerm_26 27 rfl rfl rfl ?_
            refine pv_callv (M := mX7_readTerm) (as := []) (st := []) (kc2 := 0) (ks2 := 0) dX7_readTerm_27 wd527 YX7_peek ⟨wd529, wd2⟩ (mk_get (tl86 hT)) rfl rfl (s_X7_peek_vx g hT I17 R) rfl rfl (Nat.le_of_ble_eq_true rfl) (by decide) rfl rfl 30 rfl (fun rv h1 q43 => ?_)
            obtain ⟨v44, rfl, rfl, pv44, qv44, rv44⟩ := q43
            replace rv44 : v44.toInt = tC m15 (m15 86 3).toInt ∧ (v44.toInt = -1 ∨ (m15 86 3).toInt < (m15 86 2).toInt) := rv44
            show PV _ _ _ _ _ _ _ 30 [.ref 86, .int 0, .int y14, pv_U] [.int v44] _
            refine pv_istore_n (M := mX7_readTerm) 3 (lo2 := [.ref 86, .int 0, .int y14, .int v44]) dX7_readTerm_30 31 rfl rfl (by decide) rfl rfl ?_
            refine pv_aload_n (M := mX7_readTerm) 0 dX7_readTerm_31 32 rfl rfl rfl ?_
            refine pv_dup (M := mX7_readTerm) dX7_readTerm_32 33 rfl rfl ?_
            refine iv_get (M := mX7_readTerm) (l1 := 0) (l2 := 160) dX7_readTerm_33 FX7 3 wd283 (by decide) (tl86 hT) rfl I17 rfl 36 rfl (fun v45 ev45 pv45 qv45 => ?_)
            have wv45 : v45.toInt = (m15 86 3).toInt := congrArg Int32.toInt ev45
            refine pv_iconst (M := mX7_readTerm) (v := 1) dX7_readTerm_36 37 rfl (by decide) ?_
            refine iv_iadd (M := mX7_readTerm) (X := v45.toInt) (Y := 1) dX7_readTerm_37 38 rfl rfl (by decide) (by omega) (by omega) (fun v46 ev46 => ?_)
            refine iv_put (M := mX7_readTerm) (l1 := 0) (l2 := 160) dX7_readTerm_38 FX7 3 wd283 (by decide) rfl (tl86 hT) rfl rfl rfl I17 rfl (by omega) (by omega) 41 rfl (fun m47 e50 I48 => ?_)
            have K49 := K18.set e50 (by decide)
            have w51 : (m47 86 3).toInt = v46.toInt := by rw [e50, up2_eq]
            have w52 : (m47 86 2).toInt = (m15 86 2).toInt := by rw [e50, up2_ne (by omega)]
            have w53 : (m47 86 4).toInt = (m15 86 4).toInt := by rw [e50, up2_ne (by omega)]
            have w54 : (m47 lb 7).toInt = (m15 lb 7).toInt := by rw [e50, up2_ne (by omega)]
            have kt41 : tC m47 = tC m := tC_eq (K49 86 2 rfl) (fun j => K49 87 j rfl)
            have kp41 : (m47 86 3).toInt = (m15 86 3).toInt + 1 := by omega
            refine pv_aload_n (M := mX7_readTerm) 0 dX7_readTerm_41 42 rfl rfl rfl ?_
            refine pv_iload_n (M := mX7_readTerm) 1 dX7_readTerm_42 43 rfl rfl rfl ?_
            have z57 : (0 : Int32).toInt = 0 := by decide
            refine pv_callv (M := mX7_readTerm) (as := [.int 0]) (st := []) (kc2 := 0) (ks2 := 0) dX7_readTerm_43 wd547 YX7_readFactor ⟨wd549, wd6⟩ (mk_get (tl86 hT)) rfl rfl (s_X7_readFactor_v0x g hT I48 R (by first | omega | assumption | exact (iv_rng _).2 | exact (iv_rng _).1 | decide) (TBC_eq hp1 kt41)) rfl rfl (Nat.le_of_ble_eq_true rfl) (by decide) rfl rfl 46 rfl (fun rv h1 q58 => ?_)
            obtain ⟨m59, n60, v63, rfl, rfl, I61, K62, pv63, qv63, rv63⟩ := q58
            replace rv63 : (m47 86 3).toInt ≤ (m59 86 3).toInt ∧ (m59 86 3).toInt ≤ (m59 86 2).toInt ∧ (m59 86 2).toInt = (m47 86 2).toInt ∧ (RSX (FA (tC m47) 6 (m47 86 3).toInt) v63.toInt (m59 86 3).toInt (m59 86 4).toInt) ∧ (m59 lb 7).toInt = (m47 lb 7).toInt := by have q_ := rv63; (try rw [z57] at q_); exact q_
            have K62c := K62
            have K62 := K49.trans (K62.sub (fun _ _ q => q))
            show PV _ _ _ _ _ _ _ 46 [.ref 86, .int 0, .int y14, .int v44] [.int v63] _
            have k46 := rv63.2.2.2.1
            rw [kt41, kp41] at k46
            refine pv_if_ne (M := mX7_readTerm) (tgt := 51) dX7_readTerm_46 49 rfl (by decide) (fun c66 => ?_) (fun c66 => ?_)
            · have c66 := iv_ne (X := v63.toInt) (Y := 0) c66 rfl (by decide)
              have kF4 := RSX_ok k46 (by omega)
              have kF5 := FA_le 6 ((m15 86 3).toInt + 1) (by rw [kF4])
              rw [kF4] at kF5
              refine pv_aload_n (M := mX7_readTerm) 0 dX7_readTerm_51 52 rfl rfl rfl ?_
              refine mv_get (M := mX7_readTerm) (v := .ref lb) dX7_readTerm_52 FX7 1 wd281 (by decide) (tl86 hT) rfl R.2.2.2.1 55 rfl ?_
              refine pv_iload_n (M := mX7_readTerm) 3 dX7_readTerm_55 56 rfl rfl rfl ?_
              refine pv_iconst (M := mX7_readTerm) (v := 0) dX7_readTerm_56 57 rfl (by decide) ?_
              have z70 : (0 : Int32).toInt = 0 := by decide
              refine pv_callv (M := mX7_readTerm) (as := [.int v44, .int 0]) (st := []) (kc2 := 0) (ks2 := 0) dX7_readTerm_57 wd567 YX6_emit ⟨wd568, wd569⟩ (mk_get R.2.2.2.2.2.2.1) rfl rfl (s_X6_emit_vx g hT I61 lb R.2.2.2.2.2 v44 0 (by decide) (by decide)) rfl rfl (Nat.le_of_ble_eq_true rfl) (by decide) rfl rfl 60 rfl (fun rv h1 q71 => ?_)
              obtain ⟨m72, n73, rfl, rfl, I74, K75, rm72⟩ := q71
              replace rm72 : (m72 lb 7).toInt = (m59 lb 7).toInt := rm72
              have K75c := K75
              have w76 : (m72 86 3).toInt = (m59 86 3).toInt := congrArg Int32.toInt (K75 86 3 (wr_out (by omega)))
              have w77 : (m72 86 2).toInt = (m59 86 2).toInt := congrArg Int32.toInt (K75 86 2 (wr_out (by omega)))
              have w78 : (m72 86 4).toInt = (m59 86 4).toInt := congrArg Int32.toInt (K75 86 4 (wr_out (by omega)))
              have K75 := K62.trans (K75.sub (by first | exact wR7_r (by omega) | exact wR7_wr))
              show PV _ _ _ _ _ _ _ 60 [.ref 86, .int 0, .int y14, .int v44] [] _
              refine iv_inc (M := mX7_readTerm) (C := 1) dX7_readTerm_60 63 rfl rfl (by decide) rfl rfl (by decide) (by omega) (by omega) (fun v79 ev79 => ?_)
              show PV _ _ _ _ _ _ _ 63 [.ref 86, .int 0, .int v79, .int v44] [] _
              refine pv_goto (M := mX7_readTerm) (tgt := 12) dX7_readTerm_63 (by decide) ?_
              refine pv_fg (lo2 := [.ref 86, .int 0, .int v79, pv_U]) ⟨Or.inr rfl, ⟨Or.inr rfl, ⟨Or.inr rfl, ⟨Or.inl rfl, trivial⟩⟩⟩⟩ ?_
              have kbs : SU (tC m) 6 (m 86 3).toInt = LSu (tC m) 6 (m72 86 3).toInt := by rw [kgs, LSu_ok kTX (by omega) (isT_S kT) kF4]; congr 1; omega
              exact ih21 v79 m72 n73 (by first | omega | assumption | exact (iv_rng _).2 | exact (iv_rng _).1 | decide) (by first | omega | assumption | exact (iv_rng _).2 | exact (iv_rng _).1 | decide) (by first | omega | assumption | (show (m72 86 3).toInt ≤ (m72 86 2).toInt; omega) | decide) (by first | omega | assumption | (show (m72 86 2).toInt = (m 86 2).toInt; omega) | decide) (by first | omega | assumption | (show (m72 lb 7).toInt = (m lb 7).toInt; omega) | decide) (by first | omega | assumption | (show (m 86 3).toInt + 1 + 2 * v79.toInt ≤ (m72 86 3).toInt; omega) | decide) kbs I74 K75 (by omega)
            · have c66 := iv_eq (X := v63.toInt) (Y := 0) c66 rfl (by decide)
              refine pv_iconst (M := mX7_readTerm) (v := 0) dX7_readTerm_49 50 rfl (by decide) ?_
              have z81 : (0 : Int32).toInt = 0 := by decide
              exact pv_iret (M := mX7_readTerm) dX7_readTerm_50 rfl rfl ⟨_, _, _, rfl, rfl, I61, K62, by decide, by decide, ⟨by omega, by omega, by omega, ⟨Or.inl (by decide), Or.inr ⟨by decide, by rw [kgs]; exact LSu_fl kTX (by omega) (isT_S kT) (RSX_fl k46 (by omega))⟩⟩, by omega⟩⟩
    have z82 : (0 : Int32).toInt = 0 := by decide
    exact lp20 (((160 - 0) : Int).toNat + 1) 0 m4 n5 (by first | omega | assumption | exact (iv_rng _).2 | exact (iv_rng _).1 | decide) (by first | omega | assumption | exact (iv_rng _).2 | exact (iv_rng _).1 | decide) (by first | omega | assumption | (show (m4 86 3).toInt ≤ (m4 86 2).toInt; omega) | decide) (by first | omega | assumption | (show (m4 86 2).toInt = (m 86 2).toInt; omega) | decide) (by first | omega | assumption | (show (m4 lb 7).toInt = (m lb 7).toInt; omega) | decide) (by first | omega | assumption | (show (m 86 3).toInt + 1 + 2 * 0 ≤ (m4 86 3).toInt; omega) | decide) (SU_ok kF0) I6 K7 (by omega)
  · have c10 := iv_eq (X := v8.toInt) (Y := 0) c10 rfl (by decide)
    refine pv_iconst (M := mX7_readTerm) (v := 0) dX7_readTerm_8 9 rfl (by decide) ?_
    have z83 : (0 : Int32).toInt = 0 := by decide
    exact pv_iret (M := mX7_readTerm) dX7_readTerm_9 rfl rfl ⟨_, _, _, rfl, rfl, I6, K7, by decide, by decide, ⟨by omega, by omega, by omega, ⟨Or.inl (by decide), Or.inr ⟨by decide, SU_fl (RSX_fl k5 (by omega))⟩⟩, by omega⟩⟩

set_option maxHeartbeats 2000000 in
set_option maxRecDepth 20000 in
theorem s_X7_readSum_v0x (g : pv_G) {T : List mv_T} {m : Nat → Nat → Int32} {n : Nat → Nat → Int64} {r : Nat → Value} {la lb : Nat} (hT : TX T) (I : IV BB m) (R : RX T r la lb) (hp0 : (m 86 3).toInt ≤ (m 86 2).toInt) (hp1 : TBC m) : PM g mX7_readSum yX7_readSum (sqI T BB wR7 r m 0 1 (fun m' v => (m 86 3).toInt ≤ (m' 86 3).toInt ∧ (m' 86 3).toInt ≤ (m' 86 2).toInt ∧ (m' 86 2).toInt = (m 86 2).toInt ∧ (RSX (SU (tC m) 6 (m 86 3).toInt) v.toInt (m' 86 3).toInt (m' 86 4).toInt) ∧ (m' lb 7).toInt = (m lb 7).toInt)) 25 0 0 [.ref 86, .int 0] (mk T m n r) := by
  have Kp : fr wR7 m m := fr.rf
  have R0 := R
  have zR := R.2.2.2.2.1.1
  have zR2 := R.2.2.2.2.2.1
  have z133 : 0 ≤ (m 86 3).toInt ∧ (m 86 3).toInt ≤ 160 := I 86 3
  have z134 : 0 ≤ (m 86 2).toInt ∧ (m 86 2).toInt ≤ 160 := I 86 2
  refine PM.of 2 (lo := [.ref 86, .int 0, pv_U, pv_U]) rfl (by decide) rfl rfl (Nat.le_of_ble_eq_true rfl) ?_
  have kTX := TXT_C I
  refine pv_aload_n (M := mX7_readSum) 0 dX7_readSum_0 1 rfl rfl rfl ?_
  refine pv_iload_n (M := mX7_readSum) 1 dX7_readSum_1 2 rfl rfl rfl ?_
  have z2 : (0 : Int32).toInt = 0 := by decide
  refine pv_callv (M := mX7_readSum) (as := [.int 0]) (st := []) (kc2 := 0) (ks2 := 0) dX7_readSum_2 wd543 YX7_readTerm ⟨wd545, wd5⟩ (mk_get (tl86 hT)) rfl rfl (s_X7_readTerm_v0x g hT I R (by first | omega | assumption | exact (iv_rng _).2 | exact (iv_rng _).1 | decide) hp1) rfl rfl (Nat.le_of_ble_eq_true rfl) (by decide) rfl rfl 5 rfl (fun rv h1 q3 => ?_)
  obtain ⟨m4, n5, v8, rfl, rfl, I6, K7, pv8, qv8, rv8⟩ := q3
  replace rv8 : (m 86 3).toInt ≤ (m4 86 3).toInt ∧ (m4 86 3).toInt ≤ (m4 86 2).toInt ∧ (m4 86 2).toInt = (m 86 2).toInt ∧ ((v8.toInt = 0 ∨ (m 86 3).toInt + 1 ≤ (m4 86 3).toInt) ∧ TRX (SU (tC m) 6 (m 86 3).toInt) (LSu (tC m) 6) (fun a => isT (tC m a) = false) v8.toInt (m4 86 3).toInt (m4 86 4).toInt) ∧ (m4 lb 7).toInt = (m lb 7).toInt := by have q_ := rv8; (try rw [z2] at q_); exact q_
  have K7c := K7
  have K7 := Kp.trans (K7.sub (fun _ _ q => q))
  show PV _ _ _ _ _ _ _ 5 [.ref 86, .int 0, pv_U, pv_U] [.int v8] _
  have k5 := rv8.2.2.2.1.2
  have k5p := rv8.2.2.2.1.1
  refine pv_if_ne (M := mX7_readSum) (tgt := 10) dX7_readSum_5 8 rfl (by decide) (fun c11 => ?_) (fun c11 => ?_)
  · have c11 := iv_ne (X := v8.toInt) (Y := 0) c11 rfl (by decide)
    refine pv_iconst (M := mX7_readSum) (v := 0) dX7_readSum_10 11 rfl (by decide) ?_
    refine pv_istore_n (M := mX7_readSum) 2 (lo2 := [.ref 86, .int 0, .int 0, pv_U]) dX7_readSum_11 12 rfl rfl (by decide) rfl rfl ?_
    have lp18 : ∀ (fuel17 : Nat) (y12 : Int32) (m13 : Nat → Nat → Int32) (n14 : Nat → Nat → Int64), (0 ≤ y12.toInt) → (y12.toInt ≤ 160) → ((m13 86 3).toInt ≤ (m13 86 2).toInt) → ((m13 86 2).toInt = (m 86 2).toInt) → ((m13 lb 7).toInt = (m lb 7).toInt) → ((m 86 3).toInt + 1 + 2 * y12.toInt ≤ (m13 86 3).toInt) → (SU (tC m) 6 (m 86 3).toInt = LSu (tC m) 6 (m13 86 3).toInt) → (isT (tC m (m13 86 3).toInt) = false) → IV BB m13 → fr wR7 m m13 → ((160 - y12.toInt) : Int).toNat < fuel17 → PV none g mX7_readSum (sqI T BB wR7 r m 0 1 (fun m' v => (m 86 3).toInt ≤ (m' 86 3).toInt ∧ (m' 86 3).toInt ≤ (m' 86 2).toInt ∧ (m' 86 2).toInt = (m 86 2).toInt ∧ (RSX (SU (tC m) 6 (m 86 3).toInt) v.toInt (m' 86 3).toInt (m' 86 4).toInt) ∧ (m' lb 7).toInt = (m lb 7).toInt)) 25 0 0 12 [.ref 86, .int 0, .int y12, pv_U] [] (mk T m13 n14 r) := by
      intro fuel17
      induction fuel17 with
      | zero => intro y12 m13 n14 b20 b21 b22 b23 b24 b25 b26 b27 I15 K16 z28; omega
      | succ fuel17 ih19 =>
        intro y12 m13 n14 b20 b21 b22 b23 b24 b25 b26 b27 I15 K16 z28
        have z29 : 0 ≤ (m13 86 3).toInt ∧ (m13 86 3).toInt ≤ 160 := I15 86 3
        have z30 : 0 ≤ (m13 86 2).toInt ∧ (m13 86 2).toInt ≤ 160 := I15 86 2
        have kgs := (show SU (tC m) 6 (m 86 3).toInt = LSu (tC m) 6 (m13 86 3).toInt by assumption)
        have kgt := (show isT (tC m (m13 86 3).toInt) = false by assumption)
        have kt12 : tC m13 = tC m := tC_eq (K16 86 2 rfl) (fun j => K16 87 j rfl)
        refine pv_iload_n (M := mX7_readSum) 2 dX7_readSum_12 13 rfl rfl rfl ?_
        refine pv_sipush (M := mX7_readSum) (v := 160) dX7_readSum_13 16 rfl (by decide) ?_
        refine pv_icmp_ge (M := mX7_readSum) (tgt := 77) dX7_readSum_16 19 rfl (by decide) (fun c34 => ?_) (fun c34 => ?_)
        · have c34 := iv_le (X := 160) (Y := y12.toInt) c34 (by decide) rfl
          refine pv_iconst (M := mX7_readSum) (v := 1) dX7_readSum_77 78 rfl (by decide) ?_
          have z35 : (1 : Int32).toInt = 1 := by decide
          exact pv_iret (M := mX7_readSum) dX7_readSum_78 rfl rfl ⟨_, _, _, rfl, rfl, I15, K16, by decide, by decide, ⟨by omega, by omega, by omega, (by first | exact Or.inl ⟨by decide, by rw [kgs]; exact LSu_no (isS_n kgt (by omega) (by omega))⟩ | (exfalso; omega)), by omega⟩⟩
        · have c34 := iv_nle (X := 160) (Y := y12.toInt) c34 (by decide) rfl
          refine pv_aload_n (M := mX7_readSum) 0 dX7_readSum_19 20 rfl rfl rfl ?_
          refine pv_callv (M := mX7_readSum) (as := []) (st := []) (kc2 := 0) (ks2 := 0) dX7_readSum_20 wd527 YX7_peek ⟨wd529, wd2⟩ (mk_get (tl86 hT)) rfl rfl (s_X7_peek_vx g hT I15 R) rfl rfl (Nat.le_of_ble_eq_true rfl) (by decide) rfl rfl 23 rfl (fun rv h1 q36 => ?_)
          obtain ⟨v37, rfl, rfl, pv37, qv37, rv37⟩ := q36
          replace rv37 : v37.toInt = tC m13 (m13 86 3).toInt ∧ (v37.toInt = -1 ∨ (m13 86 3).toInt < (m13 86 2).toInt) := rv37
          show PV _ _ _ _ _ _ _ 23 [.ref 86, .int 0, .int y12, pv_U] [.int v37] _
          have k23 := rv37.1
          have k23b := rv37.2
          rw [kt12] at k23
          refine pv_bipush (M := mX7_readSum) (v := 43) dX7_readSum_23 25 rfl (by decide) ?_
          refine pv_icmp_eq (M := mX7_readSum) (tgt := 37) dX7_readSum_25 28 rfl (by decide) (fun c41 => ?_) (fun c41 => ?_)
          · have c41 := iv_eq (X := v37.toInt) (Y := 43) c41 rfl (by decide)
            have kS : isS (tC m (m13 86 3).toInt) = true := isS_y (by omega)
            refine pv_aload_n (M := mX7_readSum) 0 dX7_readSum_37 38 rfl rfl rfl ?_
            refine pv_callv (M := mX7_readSum) (as := []) (st := []) (kc2 := 0) (ks2 := 0) dX7_readSum_38 wd527 YX7_peek ⟨wd529, wd2⟩ (mk_get (tl86 hT)) rfl rfl (s_X7_peek_vx g hT I15 R) rfl rfl (Nat.le_of_ble_eq_true rfl) (by decide) rfl rfl 41 rfl (fun rv h1 q43 => ?_)
            obtain ⟨v44, rfl, rfl, pv44, qv44, rv44⟩ := q43
            replace rv44 : v44.toInt = tC m13 (m13 86 3).toInt ∧ (v44.toInt = -1 ∨ (m13 86 3).toInt < (m13 86 2).toInt) := rv44
            show PV _ _ _ _ _ _ _ 41 [.ref 86, .int 0, .int y12, pv_U] [.int v44] _
            refine pv_istore_n (M := mX7_readSum) 3 (lo2 := [.ref 86, .int 0, .int y12, .int v44]) dX7_readSum_41 42 rfl rfl (by decide) rfl rfl ?_
            refine pv_aload_n (M := mX7_readSum) 0 dX7_readSum_42 43 rfl rfl rfl ?_
            refine pv_dup (M := mX7_readSum) dX7_readSum_43 44 rfl rfl ?_
            refine iv_get (M := mX7_readSum) (l1 := 0) (l2 := 160) dX7_readSum_44 FX7 3 wd283 (by decide) (tl86 hT) rfl I15 rfl 47 rfl (fun v45 ev45 pv45 qv45 => ?_)
            have wv45 : v45.toInt = (m13 86 3).toInt := congrArg Int32.toInt ev45
            refine pv_iconst (M := mX7_readSum) (v := 1) dX7_readSum_47 48 rfl (by decide) ?_
            refine iv_iadd (M := mX7_readSum) (X := v45.toInt) (Y := 1) dX7_readSum_48 49 rfl rfl (by decide) (by omega) (by omega) (fun v46 ev46 => ?_)
            refine iv_put (M := mX7_readSum) (l1 := 0) (l2 := 160) dX7_readSum_49 FX7 3 wd283 (by decide) rfl (tl86 hT) rfl rfl rfl I15 rfl (by omega) (by omega) 52 rfl (fun m47 e50 I48 => ?_)
            have K49 := K16.set e50 (by decide)
            have w51 : (m47 86 3).toInt = v46.toInt := by rw [e50, up2_eq]
            have w52 : (m47 86 2).toInt = (m13 86 2).toInt := by rw [e50, up2_ne (by omega)]
            have w53 : (m47 86 4).toInt = (m13 86 4).toInt := by rw [e50, up2_ne (by omega)]
            have w54 : (m47 lb 7).toInt = (m13 lb 7).toInt := by rw [e50, up2_ne (by omega)]
            have kt52 : tC m47 = tC m := tC_eq (K49 86 2 rfl) (fun j => K49 87 j rfl)
            have kp52 : (m47 86 3).toInt = (m13 86 3).toInt + 1 := by omega
            refine pv_aload_n (M := mX7_readSum) 0 dX7_readSum_52 53 rfl rfl rfl ?_
            refine pv_iload_n (M := mX7_readSum) 1 dX7_readSum_53 54 rfl rfl rfl ?_
            have z57 : (0 : Int32).toInt = 0 := by decide
            refine pv_callv (M := mX7_readSum) (as := [.int 0]) (st := []) (kc2 := 0) (ks2 := 0) dX7_readSum_54 wd543 YX7_readTerm ⟨wd545, wd5⟩ (mk_get (tl86 hT)) rfl rfl (s_X7_readTerm_v0x g hT I48 R (by first | omega | assumption | exact (iv_rng _).2 | exact (iv_rng _).1 | decide) (TBC_eq hp1 kt52)) rfl rfl (Nat.le_of_ble_eq_true rfl) (by decide) rfl rfl 57 rfl (fun rv h1 q58 => ?_)
            obtain ⟨m59, n60, v63, rfl, rfl, I61, K62, pv63, qv63, rv63⟩ := q58
            replace rv63 : (m47 86 3).toInt ≤ (m59 86 3).toInt ∧ (m59 86 3).toInt ≤ (m59 86 2).toInt ∧ (m59 86 2).toInt = (m47 86 2).toInt ∧ ((v63.toInt = 0 ∨ (m47 86 3).toInt + 1 ≤ (m59 86 3).toInt) ∧ TRX (SU (tC m47) 6 (m47 86 3).toInt) (LSu (tC m47) 6) (fun a => isT (tC m47 a) = false) v63.toInt (m59 86 3).toInt (m59 86 4).toInt) ∧ (m59 lb 7).toInt = (m47 lb 7).toInt := by have q_ := rv63; (try rw [z57] at q_); exact q_
            have K62c := K62
            have K62 := K49.trans (K62.sub (fun _ _ q => q))
            show PV _ _ _ _ _ _ _ 57 [.ref 86, .int 0, .int y12, .int v44] [.int v63] _
            have k57 := rv63.2.2.2.1.2
            have k57p := rv63.2.2.2.1.1
            rw [kt52, kp52] at k57
            refine pv_if_ne (M := mX7_readSum) (tgt := 62) dX7_readSum_57 60 rfl (by decide) (fun c67 => ?_) (fun c67 => ?_)
            · have c67 := iv_ne (X := v63.toInt) (Y := 0) c67 rfl (by decide)
              have kT6 := TRX_ok k57 (by omega)
              refine pv_aload_n (M := mX7_readSum) 0 dX7_readSum_62 63 rfl rfl rfl ?_
              refine mv_get (M := mX7_readSum) (v := .ref lb) dX7_readSum_63 FX7 1 wd281 (by decide) (tl86 hT) rfl R.2.2.2.1 66 rfl ?_
              refine pv_iload_n (M := mX7_readSum) 3 dX7_readSum_66 67 rfl rfl rfl ?_
              refine pv_iconst (M := mX7_readSum) (v := 0) dX7_readSum_67 68 rfl (by decide) ?_
              have z69 : (0 : Int32).toInt = 0 := by decide
              refine pv_callv (M := mX7_readSum) (as := [.int v44, .int 0]) (st := []) (kc2 := 0) (ks2 := 0) dX7_readSum_68 wd567 YX6_emit ⟨wd568, wd569⟩ (mk_get R.2.2.2.2.2.2.1) rfl rfl (s_X6_emit_vx g hT I61 lb R.2.2.2.2.2 v44 0 (by decide) (by decide)) rfl rfl (Nat.le_of_ble_eq_true rfl) (by decide) rfl rfl 71 rfl (fun rv h1 q70 => ?_)
              obtain ⟨m71, n72, rfl, rfl, I73, K74, rm71⟩ := q70
              replace rm71 : (m71 lb 7).toInt = (m59 lb 7).toInt := rm71
              have K74c := K74
              have w75 : (m71 86 3).toInt = (m59 86 3).toInt := congrArg Int32.toInt (K74 86 3 (wr_out (by omega)))
              have w76 : (m71 86 2).toInt = (m59 86 2).toInt := congrArg Int32.toInt (K74 86 2 (wr_out (by omega)))
              have w77 : (m71 86 4).toInt = (m59 86 4).toInt := congrArg Int32.toInt (K74 86 4 (wr_out (by omega)))
              have K74 := K62.trans (K74.sub (by first | exact wR7_r (by omega) | exact wR7_wr))
              show PV _ _ _ _ _ _ _ 71 [.ref 86, .int 0, .int y12, .int v44] [] _
              refine iv_inc (M := mX7_readSum) (C := 1) dX7_readSum_71 74 rfl rfl (by decide) rfl rfl (by decide) (by omega) (by omega) (fun v78 ev78 => ?_)
              show PV _ _ _ _ _ _ _ 74 [.ref 86, .int 0, .int v78, .int v44] [] _
              refine pv_goto (M := mX7_readSum) (tgt := 12) dX7_readSum_74 (by decide) ?_
              refine pv_fg (lo2 := [.ref 86, .int 0, .int v78, pv_U]) ⟨Or.inr rfl, ⟨Or.inr rfl, ⟨Or.inr rfl, ⟨Or.inl rfl, trivial⟩⟩⟩⟩ ?_
              have kb3 : (m71 86 3).toInt = (m59 86 3).toInt := by omega
              have kbs : SU (tC m) 6 (m 86 3).toInt = LSu (tC m) 6 (m71 86 3).toInt := by rw [kgs, LSu_su kTX (by omega) kS, kT6.1]; congr 1; omega
              have kbt : isT (tC m (m71 86 3).toInt) = false := by rw [kb3]; exact kT6.2
              exact ih19 v78 m71 n72 (by first | omega | assumption | exact (iv_rng _).2 | exact (iv_rng _).1 | decide) (by first | omega | assumption | exact (iv_rng _).2 | exact (iv_rng _).1 | decide) (by first | omega | assumption | (show (m71 86 3).toInt ≤ (m71 86 2).toInt; omega) | decide) (by first | omega | assumption | (show (m71 86 2).toInt = (m 86 2).toInt; omega) | decide) (by first | omega | assumption | (show (m71 lb 7).toInt = (m lb 7).toInt; omega) | decide) (by first | omega | assumption | (show (m 86 3).toInt + 1 + 2 * v78.toInt ≤ (m71 86 3).toInt; omega) | decide) kbs kbt I73 K74 (by omega)
            · have c67 := iv_eq (X := v63.toInt) (Y := 0) c67 rfl (by decide)
              refine pv_iconst (M := mX7_readSum) (v := 0) dX7_readSum_60 61 rfl (by decide) ?_
              have z82 : (0 : Int32).toInt = 0 := by decide
              exact pv_iret (M := mX7_readSum) dX7_readSum_61 rfl rfl ⟨_, _, _, rfl, rfl, I61, K62, by decide, by decide, ⟨by omega, by omega, by omega, Or.inr ⟨by decide, by rw [kgs, LSu_su kTX (by omega) kS]; exact TRX_fl k57 (by omega)⟩, by omega⟩⟩
          · have c41 := iv_ne (X := v37.toInt) (Y := 43) c41 rfl (by decide)
            refine pv_aload_n (M := mX7_readSum) 0 dX7_readSum_28 29 rfl rfl rfl ?_
            refine pv_callv (M := mX7_readSum) (as := []) (st := []) (kc2 := 0) (ks2 := 0) dX7_readSum_29 wd527 YX7_peek ⟨wd529, wd2⟩ (mk_get (tl86 hT)) rfl rfl (s_X7_peek_vx g hT I15 R) rfl rfl (Nat.le_of_ble_eq_true rfl) (by decide) rfl rfl 32 rfl (fun rv h1 q83 => ?_)
            obtain ⟨v84, rfl, rfl, pv84, qv84, rv84⟩ := q83
            replace rv84 : v84.toInt = tC m13 (m13 86 3).toInt ∧ (v84.toInt = -1 ∨ (m13 86 3).toInt < (m13 86 2).toInt) := rv84
            show PV _ _ _ _ _ _ _ 32 [.ref 86, .int 0, .int y12, pv_U] [.int v84] _
            have k32 := rv84.1
            have k32b := rv84.2
            rw [kt12] at k32
            refine pv_bipush (M := mX7_readSum) (v := 45) dX7_readSum_32 34 rfl (by decide) ?_
            refine pv_icmp_ne (M := mX7_readSum) (tgt := 77) dX7_readSum_34 37 rfl (by decide) (fun c88 => ?_) (fun c88 => ?_)
            · have c88 := iv_ne (X := v84.toInt) (Y := 45) c88 rfl (by decide)
              refine pv_iconst (M := mX7_readSum) (v := 1) dX7_readSum_77 78 rfl (by decide) ?_
              have z89 : (1 : Int32).toInt = 1 := by decide
              exact pv_iret (M := mX7_readSum) dX7_readSum_78 rfl rfl ⟨_, _, _, rfl, rfl, I15, K16, by decide, by decide, ⟨by omega, by omega, by omega, (by first | exact Or.inl ⟨by decide, by rw [kgs]; exact LSu_no (isS_n kgt (by omega) (by omega))⟩ | (exfalso; omega)), by omega⟩⟩
            · have c88 := iv_eq (X := v84.toInt) (Y := 45) c88 rfl (by decide)
              have kS : isS (tC m (m13 86 3).toInt) = true := isS_y (by omega)
              refine pv_aload_n (M := mX7_readSum) 0 dX7_readSum_37 38 rfl rfl rfl ?_
              refine pv_callv (M := mX7_readSum) (as := []) (st := []) (kc2 := 0) (ks2 := 0) dX7_readSum_38 wd527 YX7_peek ⟨wd529, wd2⟩ (mk_get (tl86 hT)) rfl rfl (s_X7_peek_vx g hT I15 R) rfl rfl (Nat.le_of_ble_eq_true rfl) (by decide) rfl rfl 41 rfl (fun rv h1 q91 => ?_)
              obtain ⟨v92, rfl, rfl, pv92, qv92, rv92⟩ := q91
              replace rv92 : v92.toInt = tC m13 (m13 86 3).toInt ∧ (v92.toInt = -1 ∨ (m13 86 3).toInt < (m13 86 2).toInt) := rv92
              show PV _ _ _ _ _ _ _ 41 [.ref 86, .int 0, .int y12, pv_U] [.int v92] _
              refine pv_istore_n (M := mX7_readSum) 3 (lo2 := [.ref 86, .int 0, .int y12, .int v92]) dX7_readSum_41 42 rfl rfl (by decide) rfl rfl ?_
              refine pv_aload_n (M := mX7_readSum) 0 dX7_readSum_42 43 rfl rfl rfl ?_
              refine pv_dup (M := mX7_readSum) dX7_readSum_43 44 rfl rfl ?_
              refine iv_get (M := mX7_readSum) (l1 := 0) (l2 := 160) dX7_readSum_44 FX7 3 wd283 (by decide) (tl86 hT) rfl I15 rfl 47 rfl (fun v93 ev93 pv93 qv93 => ?_)
              have wv93 : v93.toInt = (m13 86 3).toInt := congrArg Int32.toInt ev93
              refine pv_iconst (M := mX7_readSum) (v := 1) dX7_readSum_47 48 rfl (by decide) ?_
              refine iv_iadd (M := mX7_readSum) (X := v93.toInt) (Y := 1) dX7_readSum_48 49 rfl rfl (by decide) (by omega) (by omega) (fun v94 ev94 => ?_)
              refine iv_put (M := mX7_readSum) (l1 := 0) (l2 := 160) dX7_readSum_49 FX7 3 wd283 (by decide) rfl (tl86 hT) rfl rfl rfl I15 rfl (by omega) (by omega) 52 rfl (fun m95 e98 I96 => ?_)
              have K97 := K16.set e98 (by decide)
              have w99 : (m95 86 3).toInt = v94.toInt := by rw [e98, up2_eq]
              have w100 : (m95 86 2).toInt = (m13 86 2).toInt := by rw [e98, up2_ne (by omega)]
              have w101 : (m95 86 4).toInt = (m13 86 4).toInt := by rw [e98, up2_ne (by omega)]
              have w102 : (m95 lb 7).toInt = (m13 lb 7).toInt := by rw [e98, up2_ne (by omega)]
              have kt52 : tC m95 = tC m := tC_eq (K97 86 2 rfl) (fun j => K97 87 j rfl)
              have kp52 : (m95 86 3).toInt = (m13 86 3).toInt + 1 := by omega
              refine pv_aload_n (M := mX7_readSum) 0 dX7_readSum_52 53 rfl rfl rfl ?_
              refine pv_iload_n (M := mX7_readSum) 1 dX7_readSum_53 54 rfl rfl rfl ?_
              have z105 : (0 : Int32).toInt = 0 := by decide
              refine pv_callv (M := mX7_readSum) (as := [.int 0]) (st := []) (kc2 := 0) (ks2 := 0) dX7_readSum_54 wd543 YX7_readTerm ⟨wd545, wd5⟩ (mk_get (tl86 hT)) rfl rfl (s_X7_readTerm_v0x g hT I96 R (by first | omega | assumption | exact (iv_rng _).2 | exact (iv_rng _).1 | decide) (TBC_eq hp1 kt52)) rfl rfl (Nat.le_of_ble_eq_true rfl) (by decide) rfl rfl 57 rfl (fun rv h1 q106 => ?_)
              obtain ⟨m107, n108, v111, rfl, rfl, I109, K110, pv111, qv111, rv111⟩ := q106
              replace rv111 : (m95 86 3).toInt ≤ (m107 86 3).toInt ∧ (m107 86 3).toInt ≤ (m107 86 2).toInt ∧ (m107 86 2).toInt = (m95 86 2).toInt ∧ ((v111.toInt = 0 ∨ (m95 86 3).toInt + 1 ≤ (m107 86 3).toInt) ∧ TRX (SU (tC m95) 6 (m95 86 3).toInt) (LSu (tC m95) 6) (fun a => isT (tC m95 a) = false) v111.toInt (m107 86 3).toInt (m107 86 4).toInt) ∧ (m107 lb 7).toInt = (m95 lb 7).toInt := by have q_ := rv111; (try rw [z105] at q_); exact q_
              have K110c := K110
              have K110 := K97.trans (K110.sub (fun _ _ q => q))
              show PV _ _ _ _ _ _ _ 57 [.ref 86, .int 0, .int y12, .int v92] [.int v111] _
              have k57 := rv111.2.2.2.1.2
              have k57p := rv111.2.2.2.1.1
              rw [kt52, kp52] at k57
              refine pv_if_ne (M := mX7_readSum) (tgt := 62) dX7_readSum_57 60 rfl (by decide) (fun c115 => ?_) (fun c115 => ?_)
              · have c115 := iv_ne (X := v111.toInt) (Y := 0) c115 rfl (by decide)
                have kT6 := TRX_ok k57 (by omega)
                refine pv_aload_n (M := mX7_readSum) 0 dX7_readSum_62 63 rfl rfl rfl ?_
                refine mv_get (M := mX7_readSum) (v := .ref lb) dX7_readSum_63 FX7 1 wd281 (by decide) (tl86 hT) rfl R.2.2.2.1 66 rfl ?_
                refine pv_iload_n (M := mX7_readSum) 3 dX7_readSum_66 67 rfl rfl rfl ?_
                refine pv_iconst (M := mX7_readSum) (v := 0) dX7_readSum_67 68 rfl (by decide) ?_
                have z117 : (0 : Int32).toInt = 0 := by decide
                refine pv_callv (M := mX7_readSum) (as := [.int v92, .int 0]) (st := []) (kc2 := 0) (ks2 := 0) dX7_readSum_68 wd567 YX6_emit ⟨wd568, wd569⟩ (mk_get R.2.2.2.2.2.2.1) rfl rfl (s_X6_emit_vx g hT I109 lb R.2.2.2.2.2 v92 0 (by decide) (by decide)) rfl rfl (Nat.le_of_ble_eq_true rfl) (by decide) rfl rfl 71 rfl (fun rv h1 q118 => ?_)
                obtain ⟨m119, n120, rfl, rfl, I121, K122, rm119⟩ := q118
                replace rm119 : (m119 lb 7).toInt = (m107 lb 7).toInt := rm119
                have K122c := K122
                have w123 : (m119 86 3).toInt = (m107 86 3).toInt := congrArg Int32.toInt (K122 86 3 (wr_out (by omega)))
                have w124 : (m119 86 2).toInt = (m107 86 2).toInt := congrArg Int32.toInt (K122 86 2 (wr_out (by omega)))
                have w125 : (m119 86 4).toInt = (m107 86 4).toInt := congrArg Int32.toInt (K122 86 4 (wr_out (by omega)))
                have K122 := K110.trans (K122.sub (by first | exact wR7_r (by omega) | exact wR7_wr))
                show PV _ _ _ _ _ _ _ 71 [.ref 86, .int 0, .int y12, .int v92] [] _
                refine iv_inc (M := mX7_readSum) (C := 1) dX7_readSum_71 74 rfl rfl (by decide) rfl rfl (by decide) (by omega) (by omega) (fun v126 ev126 => ?_)
                show PV _ _ _ _ _ _ _ 74 [.ref 86, .int 0, .int v126, .int v92] [] _
                refine pv_goto (M := mX7_readSum) (tgt := 12) dX7_readSum_74 (by decide) ?_
                refine pv_fg (lo2 := [.ref 86, .int 0, .int v126, pv_U]) ⟨Or.inr rfl, ⟨Or.inr rfl, ⟨Or.inr rfl, ⟨Or.inl rfl, trivial⟩⟩⟩⟩ ?_
                have kb3 : (m119 86 3).toInt = (m107 86 3).toInt := by omega
                have kbs : SU (tC m) 6 (m 86 3).toInt = LSu (tC m) 6 (m119 86 3).toInt := by rw [kgs, LSu_su kTX (by omega) kS, kT6.1]; congr 1; omega
                have kbt : isT (tC m (m119 86 3).toInt) = false := by rw [kb3]; exact kT6.2
                exact ih19 v126 m119 n120 (by first | omega | assumption | exact (iv_rng _).2 | exact (iv_rng _).1 | decide) (by first | omega | assumption | exact (iv_rng _).2 | exact (iv_rng _).1 | decide) (by first | omega | assumption | (show (m119 86 3).toInt ≤ (m119 86 2).toInt; omega) | decide) (by first | omega | assumption | (show (m119 86 2).toInt = (m 86 2).toInt; omega) | decide) (by first | omega | assumption | (show (m119 lb 7).toInt = (m lb 7).toInt; omega) | decide) (by first | omega | assumption | (show (m 86 3).toInt + 1 + 2 * v126.toInt ≤ (m119 86 3).toInt; omega) | decide) kbs kbt I121 K122 (by omega)
              · have c115 := iv_eq (X := v111.toInt) (Y := 0) c115 rfl (by decide)
                refine pv_iconst (M := mX7_readSum) (v := 0) dX7_readSum_60 61 rfl (by decide) ?_
                have z130 : (0 : Int32).toInt = 0 := by decide
                exact pv_iret (M := mX7_readSum) dX7_readSum_61 rfl rfl ⟨_, _, _, rfl, rfl, I109, K110, by decide, by decide, ⟨by omega, by omega, by omega, Or.inr ⟨by decide, by rw [kgs, LSu_su kTX (by omega) kS]; exact TRX_fl k57 (by omega)⟩, by omega⟩⟩
    have z131 : (0 : Int32).toInt = 0 := by decide
    exact lp18 (((160 - 0) : Int).toNat + 1) 0 m4 n5 (by first | omega | assumption | exact (iv_rng _).2 | exact (iv_rng _).1 | decide) (by first | omega | assumption | exact (iv_rng _).2 | exact (iv_rng _).1 | decide) (by first | omega | assumption | (show (m4 86 3).toInt ≤ (m4 86 2).toInt; omega) | decide) (by first | omega | assumption | (show (m4 86 2).toInt = (m 86 2).toInt; omega) | decide) (by first | omega | assumption | (show (m4 lb 7).toInt = (m lb 7).toInt; omega) | decide) (by first | omega | assumption | (show (m 86 3).toInt + 1 + 2 * 0 ≤ (m4 86 3).toInt; omega) | decide) (TRX_ok k5 (by omega)).1 (TRX_ok k5 (by omega)).2 I6 K7 (by omega)
  · have c11 := iv_eq (X := v8.toInt) (Y := 0) c11 rfl (by decide)
    refine pv_iconst (M := mX7_readSum) (v := 0) dX7_readSum_8 9 rfl (by decide) ?_
    have z132 : (0 : Int32).toInt = 0 := by decide
    exact pv_iret (M := mX7_readSum) dX7_readSum_9 rfl rfl ⟨_, _, _, rfl, rfl, I6, K7, by decide, by decide, ⟨by omega, by omega, by omega, Or.inr ⟨by decide, TRX_fl k5 (by omega)⟩, by omega⟩⟩
