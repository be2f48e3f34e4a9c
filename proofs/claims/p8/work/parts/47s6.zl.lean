set_option maxHeartbeats 2000000 in
set_option maxRecDepth 20000 in
theorem s_X6_clear_vz (g : pv_G) {T : List mv_T} {m : Nat → Nat → Int32} {n : Nat → Nat → Int64} {r : Nat → Value} (hT : TX T) (I : IV BB m) (aT : Nat) (haT : LawAt T aT) : PM g mX6_clear yX6_clear (sqV T BB (wl [(aT, (aT + 8), none)]) r m (fun m' => (m' aT 7).toInt = 0 ∧ (m' aT 2).toInt = 0)) 1 0 0 [.ref aT] (mk T m n r) := by
  have Kp : fr (wl [(aT, (aT + 8), none)]) m m := fr.rf
  have zwT := haT.1
  refine PM.of 0 (lo := [.ref aT]) rfl (by decide) rfl rfl (Nat.le_of_ble_eq_true rfl) ?_
  refine pv_aload_n (M := mX6_clear) 0 dX6_clear_0 1 rfl rfl rfl ?_
  refine pv_iconst (M := mX6_clear) (v := 0) dX6_clear_1 2 rfl (by decide) ?_
  refine iv_put (M := mX6_clear) (l1 := 0) (l2 := 160) dX6_clear_2 FX6 2 wd235 (by decide) rfl haT.2.1 rfl rfl rfl I (law_b2 haT) (by decide) (by decide) 5 rfl (fun m1 e4 I2 => ?_)
  have K3 := Kp.set e4 (wl_r (by omega) (by omega))
  have w5 : (m1 aT 2).toInt = 0 := by rw [e4, up2_eq] <;> rfl
  have w6 : (m1 aT 7).toInt = (m aT 7).toInt := by rw [e4, up2_ne (by omega)]
  have w7 : (m1 aT 10).toInt = (m aT 10).toInt := by rw [e4, up2_ne (by omega)]
  refine pv_aload_n (M := mX6_clear) 0 dX6_clear_5 6 rfl rfl rfl ?_
  refine pv_iconst (M := mX6_clear) (v := 0) dX6_clear_6 7 rfl (by decide) ?_
  refine iv_put (M := mX6_clear) (l1 := 0) (l2 := 12) dX6_clear_7 FX6 7 wd240 (by decide) rfl haT.2.1 rfl rfl rfl I2 (law_b7 haT) (by decide) (by decide) 10 rfl (fun m8 e11 I9 => ?_)
  have K10 := K3.set e11 (wl_r (by omega) (by omega))
  have w12 : (m8 aT 2).toInt = (m1 aT 2).toInt := by rw [e11, up2_ne (by omega)]
  have w13 : (m8 aT 7).toInt = 0 := by rw [e11, up2_eq] <;> rfl
  have w14 : (m8 aT 10).toInt = (m1 aT 10).toInt := by rw [e11, up2_ne (by omega)]
  exact pv_vret (M := mX6_clear) dX6_clear_10 rfl ⟨_, _, rfl, rfl, I9, K10, ⟨by omega, by omega⟩⟩

set_option maxHeartbeats 2000000 in
set_option maxRecDepth 20000 in
theorem s_X6_beginClause_vz (g : pv_G) {T : List mv_T} {m : Nat → Nat → Int32} {n : Nat → Nat → Int64} {r : Nat → Value} (hT : TX T) (I : IV BB m) (aT : Nat) (haT : LawAt T aT) (x0 : Int32) (hp0 : (m aT 7).toInt < 12) : PM g mX6_beginClause yX6_beginClause (sqV T BB (wl [(aT, (aT + 8), none)]) r m (fun m' => (m' aT 7).toInt = (m aT 7).toInt ∧ BGC aT m m' (m aT 7).toInt.toNat x0.toInt)) 1 0 0 [.ref aT, .int x0] (mk T m n r) := by
  have Kp : fr (wl [(aT, (aT + 8), none)]) m m := fr.rf
  have zwT := haT.1
  refine PM.of 0 (lo := [.ref aT, .int x0]) rfl (by decide) rfl rfl (Nat.le_of_ble_eq_true rfl) ?_
  refine pv_aload_n (M := mX6_beginClause) 0 dX6_beginClause_0 1 rfl rfl rfl ?_
  refine iv_get (M := mX6_beginClause) (l1 := 0) (l2 := 12) dX6_beginClause_1 FX6 7 wd240 (by decide) haT.2.1 rfl I (law_b7 haT) 4 rfl (fun v1 ev1 pv1 qv1 => ?_)
  have wv1 : v1.toInt = (m aT 7).toInt := congrArg Int32.toInt ev1
  refine pv_bipush (M := mX6_beginClause) (v := 12) dX6_beginClause_4 6 rfl (by decide) ?_
  refine pv_icmp_ge (M := mX6_beginClause) (tgt := 32) dX6_beginClause_6 9 rfl (by decide) (fun c2 => ?_) (fun c2 => ?_)
  · have c2 := iv_le (X := 12) (Y := v1.toInt) c2 (by decide) rfl
    exact pv_vret (M := mX6_beginClause) dX6_beginClause_32 rfl ⟨_, _, rfl, rfl, I, Kp, (by first | exact ⟨by omega, BGC_of noE (by omega) noE (by omega) k31⟩ | (exfalso; omega))⟩
  · have c2 := iv_nle (X := 12) (Y := v1.toInt) c2 (by decide) rfl
    refine pv_aload_n (M := mX6_beginClause) 0 dX6_beginClause_9 10 rfl rfl rfl ?_
    refine mv_get (M := mX6_beginClause) (v := .ref (aT + 3)) dX6_beginClause_10 FX6 3 wd236 (by decide) haT.2.1 rfl rfl 13 rfl ?_
    refine pv_aload_n (M := mX6_beginClause) 0 dX6_beginClause_13 14 rfl rfl rfl ?_
    refine iv_get (M := mX6_beginClause) (l1 := 0) (l2 := 12) dX6_beginClause_14 FX6 7 wd240 (by decide) haT.2.1 rfl I (law_b7 haT) 17 rfl (fun v3 ev3 pv3 qv3 => ?_)
    have wv3 : v3.toInt = (m aT 7).toInt := congrArg Int32.toInt ev3
    refine pv_iload_n (M := mX6_beginClause) 1 dX6_beginClause_17 18 rfl rfl rfl ?_
    refine iv_iast (M := mX6_beginClause) (X := v3.toInt) (l1 := (-2147483648)) (l2 := 2147483647) dX6_beginClause_18 (law_a3 haT) rfl (by omega) (by omega) I (law_c3 haT) (iv_rng x0).1 (iv_rng x0).2 19 rfl (fun m4 e7 I5 => ?_)
    have K6 := Kp.set e7 (wl_r (by omega) (by omega))
    have w8 : (m4 aT 2).toInt = (m aT 2).toInt := by rw [e7, up2_ne (by omega)]
    have w9 : (m4 aT 7).toInt = (m aT 7).toInt := by rw [e7, up2_ne (by omega)]
    have w10 : (m4 aT 10).toInt = (m aT 10).toInt := by rw [e7, up2_ne (by omega)]
    refine pv_aload_n (M := mX6_beginClause) 0 dX6_beginClause_19 20 rfl rfl rfl ?_
    refine mv_get (M := mX6_beginClause) (v := .ref (aT + 4)) dX6_beginClause_20 FX6 4 wd237 (by decide) haT.2.1 rfl rfl 23 rfl ?_
    refine pv_aload_n (M := mX6_beginClause) 0 dX6_beginClause_23 24 rfl rfl rfl ?_
    refine iv_get (M := mX6_beginClause) (l1 := 0) (l2 := 12) dX6_beginClause_24 FX6 7 wd240 (by decide) haT.2.1 rfl I5 (law_b7 haT) 27 rfl (fun v11 ev11 pv11 qv11 => ?_)
    have wv11 : v11.toInt = (m4 aT 7).toInt := congrArg Int32.toInt ev11
    refine pv_aload_n (M := mX6_beginClause) 0 dX6_beginClause_27 28 rfl rfl rfl ?_
    refine iv_get (M := mX6_beginClause) (l1 := 0) (l2 := 160) dX6_beginClause_28 FX6 2 wd235 (by decide) haT.2.1 rfl I5 (law_b2 haT) 31 rfl (fun v12 ev12 pv12 qv12 => ?_)
    have wv12 : v12.toInt = (m4 aT 2).toInt := congrArg Int32.toInt ev12
    have k31 := ev12
    refine iv_iast (M := mX6_beginClause) (X := v11.toInt) (l1 := 0) (l2 := 160) dX6_beginClause_31 (law_a4 haT) rfl (by omega) (by omega) I5 (law_c4 haT) (by omega) (by omega) 32 rfl (fun m14 e17 I15 => ?_)
    have K16 := K6.set e17 (wl_r (by omega) (by omega))
    have w18 : (m14 aT 2).toInt = (m4 aT 2).toInt := by rw [e17, up2_ne (by omega)]
    have w19 : (m14 aT 7).toInt = (m4 aT 7).toInt := by rw [e17, up2_ne (by omega)]
    have w20 : (m14 aT 10).toInt = (m4 aT 10).toInt := by rw [e17, up2_ne (by omega)]
    exact pv_vret (M := mX6_beginClause) dX6_beginClause_32 rfl ⟨_, _, rfl, rfl, I15, K16, (by first | exact ⟨by omega, BGC_of e7 (by omega) e17 (by omega) k31⟩ | (exfalso; omega))⟩

set_option maxHeartbeats 2000000 in
set_option maxRecDepth 20000 in
theorem s_X6_beginCondition_vz (g : pv_G) {T : List mv_T} {m : Nat → Nat → Int32} {n : Nat → Nat → Int64} {r : Nat → Value} (hT : TX T) (I : IV BB m) (aT : Nat) (haT : LawAt T aT) (hp0 : (m aT 7).toInt < 12) : PM g mX6_beginCondition yX6_beginCondition (sqV T BB (wl [(aT, (aT + 8), none)]) r m (fun m' => (m' aT 7).toInt = (m aT 7).toInt ∧ BCC aT m m' (m aT 7).toInt.toNat)) 1 0 0 [.ref aT] (mk T m n r) := by
  have Kp : fr (wl [(aT, (aT + 8), none)]) m m := fr.rf
  have zwT := haT.1
  refine PM.of 0 (lo := [.ref aT]) rfl (by decide) rfl rfl (Nat.le_of_ble_eq_true rfl) ?_
  refine pv_aload_n (M := mX6_beginCondition) 0 dX6_beginCondition_0 1 rfl rfl rfl ?_
  refine iv_get (M := mX6_beginCondition) (l1 := 0) (l2 := 12) dX6_beginCondition_1 FX6 7 wd240 (by decide) haT.2.1 rfl I (law_b7 haT) 4 rfl (fun v1 ev1 pv1 qv1 => ?_)
  have wv1 : v1.toInt = (m aT 7).toInt := congrArg Int32.toInt ev1
  refine pv_bipush (M := mX6_beginCondition) (v := 12) dX6_beginCondition_4 6 rfl (by decide) ?_
  refine pv_icmp_ge (M := mX6_beginCondition) (tgt := 22) dX6_beginCondition_6 9 rfl (by decide) (fun c2 => ?_) (fun c2 => ?_)
  · have c2 := iv_le (X := 12) (Y := v1.toInt) c2 (by decide) rfl
    exact pv_vret (M := mX6_beginCondition) dX6_beginCondition_22 rfl ⟨_, _, rfl, rfl, I, Kp, (by first | exact ⟨by omega, BCC_of noE (by omega) k21⟩ | (exfalso; omega))⟩
  · have c2 := iv_nle (X := 12) (Y := v1.toInt) c2 (by decide) rfl
    refine pv_aload_n (M := mX6_beginCondition) 0 dX6_beginCondition_9 10 rfl rfl rfl ?_
    refine mv_get (M := mX6_beginCondition) (v := .ref (aT + 5)) dX6_beginCondition_10 FX6 5 wd238 (by decide) haT.2.1 rfl rfl 13 rfl ?_
    refine pv_aload_n (M := mX6_beginCondition) 0 dX6_beginCondition_13 14 rfl rfl rfl ?_
    refine iv_get (M := mX6_beginCondition) (l1 := 0) (l2 := 12) dX6_beginCondition_14 FX6 7 wd240 (by decide) haT.2.1 rfl I (law_b7 haT) 17 rfl (fun v3 ev3 pv3 qv3 => ?_)
    have wv3 : v3.toInt = (m aT 7).toInt := congrArg Int32.toInt ev3
    refine pv_aload_n (M := mX6_beginCondition) 0 dX6_beginCondition_17 18 rfl rfl rfl ?_
    refine iv_get (M := mX6_beginCondition) (l1 := 0) (l2 := 160) dX6_beginCondition_18 FX6 2 wd235 (by decide) haT.2.1 rfl I (law_b2 haT) 21 rfl (fun v4 ev4 pv4 qv4 => ?_)
    have wv4 : v4.toInt = (m aT 2).toInt := congrArg Int32.toInt ev4
    have k21 := ev4
    refine iv_iast (M := mX6_beginCondition) (X := v3.toInt) (l1 := 0) (l2 := 160) dX6_beginCondition_21 (law_a5 haT) rfl (by omega) (by omega) I (law_c5 haT) (by omega) (by omega) 22 rfl (fun m6 e9 I7 => ?_)
    have K8 := Kp.set e9 (wl_r (by omega) (by omega))
    have w10 : (m6 aT 2).toInt = (m aT 2).toInt := by rw [e9, up2_ne (by omega)]
    have w11 : (m6 aT 7).toInt = (m aT 7).toInt := by rw [e9, up2_ne (by omega)]
    have w12 : (m6 aT 10).toInt = (m aT 10).toInt := by rw [e9, up2_ne (by omega)]
    exact pv_vret (M := mX6_beginCondition) dX6_beginCondition_22 rfl ⟨_, _, rfl, rfl, I7, K8, (by first | exact ⟨by omega, BCC_of e9 (by omega) k21⟩ | (exfalso; omega))⟩

set_option maxHeartbeats 2000000 in
set_option maxRecDepth 20000 in
theorem s_X6_endClause_vz (g : pv_G) {T : List mv_T} {m : Nat → Nat → Int32} {n : Nat → Nat → Int64} {r : Nat → Value} (hT : TX T) (I : IV BB m) (aT : Nat) (haT : LawAt T aT) (hp0 : (m aT 7).toInt < 12) : PM g mX6_endClause yX6_endClause (sqV T BB (wl [(aT, (aT + 8), none)]) r m (fun m' => (m' aT 7).toInt = (m aT 7).toInt + 1 ∧ ECC aT m m' (m aT 7).toInt.toNat)) 1 0 0 [.ref aT] (mk T m n r) := by
  have Kp : fr (wl [(aT, (aT + 8), none)]) m m := fr.rf
  have zwT := haT.1
  refine PM.of 0 (lo := [.ref aT]) rfl (by decide) rfl rfl (Nat.le_of_ble_eq_true rfl) ?_
  refine pv_aload_n (M := mX6_endClause) 0 dX6_endClause_0 1 rfl rfl rfl ?_
  refine iv_get (M := mX6_endClause) (l1 := 0) (l2 := 12) dX6_endClause_1 FX6 7 wd240 (by decide) haT.2.1 rfl I (law_b7 haT) 4 rfl (fun v1 ev1 pv1 qv1 => ?_)
  have wv1 : v1.toInt = (m aT 7).toInt := congrArg Int32.toInt ev1
  refine pv_bipush (M := mX6_endClause) (v := 12) dX6_endClause_4 6 rfl (by decide) ?_
  refine pv_icmp_ge (M := mX6_endClause) (tgt := 32) dX6_endClause_6 9 rfl (by decide) (fun c2 => ?_) (fun c2 => ?_)
  · have c2 := iv_le (X := 12) (Y := v1.toInt) c2 (by decide) rfl
    exact pv_vret (M := mX6_endClause) dX6_endClause_32 rfl ⟨_, _, rfl, rfl, I, Kp, (by first | exact ⟨by omega, ECC_of noE (by omega) k21 noE⟩ | (exfalso; omega))⟩
  · have c2 := iv_nle (X := 12) (Y := v1.toInt) c2 (by decide) rfl
    refine pv_aload_n (M := mX6_endClause) 0 dX6_endClause_9 10 rfl rfl rfl ?_
    refine mv_get (M := mX6_endClause) (v := .ref (aT + 6)) dX6_endClause_10 FX6 6 wd239 (by decide) haT.2.1 rfl rfl 13 rfl ?_
    refine pv_aload_n (M := mX6_endClause) 0 dX6_endClause_13 14 rfl rfl rfl ?_
    refine iv_get (M := mX6_endClause) (l1 := 0) (l2 := 12) dX6_endClause_14 FX6 7 wd240 (by decide) haT.2.1 rfl I (law_b7 haT) 17 rfl (fun v3 ev3 pv3 qv3 => ?_)
    have wv3 : v3.toInt = (m aT 7).toInt := congrArg Int32.toInt ev3
    refine pv_aload_n (M := mX6_endClause) 0 dX6_endClause_17 18 rfl rfl rfl ?_
    refine iv_get (M := mX6_endClause) (l1 := 0) (l2 := 160) dX6_endClause_18 FX6 2 wd235 (by decide) haT.2.1 rfl I (law_b2 haT) 21 rfl (fun v4 ev4 pv4 qv4 => ?_)
    have wv4 : v4.toInt = (m aT 2).toInt := congrArg Int32.toInt ev4
    have k21 := ev4
    refine iv_iast (M := mX6_endClause) (X := v3.toInt) (l1 := 0) (l2 := 160) dX6_endClause_21 (law_a6 haT) rfl (by omega) (by omega) I (law_c6 haT) (by omega) (by omega) 22 rfl (fun m6 e9 I7 => ?_)
    have K8 := Kp.set e9 (wl_r (by omega) (by omega))
    have w10 : (m6 aT 2).toInt = (m aT 2).toInt := by rw [e9, up2_ne (by omega)]
    have w11 : (m6 aT 7).toInt = (m aT 7).toInt := by rw [e9, up2_ne (by omega)]
    have w12 : (m6 aT 10).toInt = (m aT 10).toInt := by rw [e9, up2_ne (by omega)]
    refine pv_aload_n (M := mX6_endClause) 0 dX6_endClause_22 23 rfl rfl rfl ?_
    refine pv_dup (M := mX6_endClause) dX6_endClause_23 24 rfl rfl ?_
    refine iv_get (M := mX6_endClause) (l1 := 0) (l2 := 12) dX6_endClause_24 FX6 7 wd240 (by decide) haT.2.1 rfl I7 (law_b7 haT) 27 rfl (fun v13 ev13 pv13 qv13 => ?_)
    have wv13 : v13.toInt = (m6 aT 7).toInt := congrArg Int32.toInt ev13
    refine pv_iconst (M := mX6_endClause) (v := 1) dX6_endClause_27 28 rfl (by decide) ?_
    refine iv_iadd (M := mX6_endClause) (X := v13.toInt) (Y := 1) dX6_endClause_28 29 rfl rfl (by decide) (by omega) (by omega) (fun v14 ev14 => ?_)
    refine iv_put (M := mX6_endClause) (l1 := 0) (l2 := 12) dX6_endClause_29 FX6 7 wd240 (by decide) rfl haT.2.1 rfl rfl rfl I7 (law_b7 haT) (by omega) (by omega) 32 rfl (fun m15 e18 I16 => ?_)
    have K17 := K8.set e18 (wl_r (by omega) (by omega))
    have w19 : (m15 aT 2).toInt = (m6 aT 2).toInt := by rw [e18, up2_ne (by omega)]
    have w20 : (m15 aT 7).toInt = v14.toInt := by rw [e18, up2_eq]
    have w21 : (m15 aT 10).toInt = (m6 aT 10).toInt := by rw [e18, up2_ne (by omega)]
    exact pv_vret (M := mX6_endClause) dX6_endClause_32 rfl ⟨_, _, rfl, rfl, I16, K17, (by first | exact ⟨by omega, ECC_of e9 (by omega) k21 e18⟩ | (exfalso; omega))⟩

set_option maxHeartbeats 2000000 in
set_option maxRecDepth 20000 in
theorem s_X7_readClause_vz (g : pv_G) {T : List mv_T} {m : Nat → Nat → Int32} {n : Nat → Nat → Int64} {r : Nat → Value} {la lb : Nat} (hT : TX T) (I : IV BB m) (R : RX T r la lb) (x0 : Int32) (hl0 : 0 ≤ x0.toInt) (hh0 : x0.toInt ≤ 13) (hp0 : (m 86 3).toInt ≤ (m 86 2).toInt) (hp1 : TBC m) (hp2 : (m lb 7).toInt = x0.toInt) (hp3 : (m lb 2).toInt ≤ (m 86 3).toInt) : PM g mX7_readClause yX7_readClause (sqI T BB (wQ lb) r m 0 1 (fun m' v => (m 86 3).toInt ≤ (m' 86 3).toInt ∧ (m' 86 3).toInt ≤ (m' 86 2).toInt ∧ (m' 86 2).toInt = (m 86 2).toInt ∧ (RSX (CLA (tC m) x0.toInt (m 86 3).toInt) v.toInt (m' 86 3).toInt (m' 86 4).toInt) ∧ (v.toInt ≠ 0 → (m' lb 7).toInt = x0.toInt + 1 ∧ x0.toInt < 12) ∧ IFZ v.toInt (CLZ (tC m) lb x0.toInt.toNat m m' (m 86 3).toInt (m' 86 3).toInt))) 26 0 0 [.ref 86, .int x0] (mk T m n r) := by
  have Kp : fr (wQ lb) m m := fr.rf
  have R0 := R
  have zR := R.2.2.2.2.1.1
  have zR2 := R.2.2.2.2.2.1
  have z271 : 0 ≤ (m 86 3).toInt ∧ (m 86 3).toInt ≤ 160 := I 86 3
  have z272 : 0 ≤ (m 86 2).toInt ∧ (m 86 2).toInt ≤ 160 := I 86 2
  refine PM.of 1 (lo := [.ref 86, .int x0, pv_U]) rfl (by decide) rfl rfl (Nat.le_of_ble_eq_true rfl) ?_
  refine pv_aload_n (M := mX7_readClause) 0 dX7_readClause_0 1 rfl rfl rfl ?_
  refine pv_callv (M := mX7_readClause) (as := []) (st := []) (kc2 := 0) (ks2 := 0) dX7_readClause_1 wd527 YX7_peek ⟨wd529, wd2⟩ (mk_get (tl86 hT)) rfl rfl (s_X7_peek_vx g hT I R) rfl rfl (Nat.le_of_ble_eq_true rfl) (by decide) rfl rfl 4 rfl (fun rv h1 q1 => ?_)
  obtain ⟨v2, rfl, rfl, pv2, qv2, rv2⟩ := q1
  replace rv2 : v2.toInt = tC m (m 86 3).toInt ∧ (v2.toInt = -1 ∨ (m 86 3).toInt < (m 86 2).toInt) := rv2
  show PV _ _ _ _ _ _ _ 4 [.ref 86, .int x0, pv_U] [.int v2] _
  have k4 := rv2.1
  have k4b := rv2.2
  refine pv_istore_n (M := mX7_readClause) 2 (lo2 := [.ref 86, .int x0, .int v2]) dX7_readClause_4 5 rfl rfl (by decide) rfl rfl ?_
  refine pv_iload_n (M := mX7_readClause) 2 dX7_readClause_5 6 rfl rfl rfl ?_
  refine pv_bipush (M := mX7_readClause) (v := 110) dX7_readClause_6 8 rfl (by decide) ?_
  refine pv_icmp_eq (M := mX7_readClause) (tgt := 23) dX7_readClause_8 11 rfl (by decide) (fun c5 => ?_) (fun c5 => ?_)
  · have c5 := iv_eq (X := v2.toInt) (Y := 110) c5 rfl (by decide)
    refine pv_iload_n (M := mX7_readClause) 1 dX7_readClause_23 24 rfl rfl rfl ?_
    refine pv_bipush (M := mX7_readClause) (v := 12) dX7_readClause_24 26 rfl (by decide) ?_
    refine pv_icmp_lt (M := mX7_readClause) (tgt := 35) dX7_readClause_26 29 rfl (by decide) (fun c6 => ?_) (fun c6 => ?_)
    · have c6 := iv_lt (X := x0.toInt) (Y := 12) c6 rfl (by decide)
      refine pv_aload_n (M := mX7_readClause) 0 dX7_readClause_35 36 rfl rfl rfl ?_
      refine pv_dup (M := mX7_readClause) dX7_readClause_36 37 rfl rfl ?_
      refine iv_get (M := mX7_readClause) (l1 := 0) (l2 := 160) dX7_readClause_37 FX7 3 wd283 (by decide) (tl86 hT) rfl I rfl 40 rfl (fun v7 ev7 pv7 qv7 => ?_)
      have wv7 : v7.toInt = (m 86 3).toInt := congrArg Int32.toInt ev7
      refine pv_iconst (M := mX7_readClause) (v := 1) dX7_readClause_40 41 rfl (by decide) ?_
      refine iv_iadd (M := mX7_readClause) (X := v7.toInt) (Y := 1) dX7_readClause_41 42 rfl rfl (by decide) (by omega) (by omega) (fun v8 ev8 => ?_)
      refine iv_put (M := mX7_readClause) (l1 := 0) (l2 := 160) dX7_readClause_42 FX7 3 wd283 (by decide) rfl (tl86 hT) rfl rfl rfl I rfl (by omega) (by omega) 45 rfl (fun m9 e12 I10 => ?_)
      have K11 := Kp.set e12 (by first | rfl | decide)
      have w13 : (m9 86 3).toInt = v8.toInt := by rw [e12, up2_eq]
      have w14 : (m9 86 2).toInt = (m 86 2).toInt := by rw [e12, up2_ne (by omega)]
      have w15 : (m9 86 4).toInt = (m 86 4).toInt := by rw [e12, up2_ne (by omega)]
      have w16 : (m9 lb 7).toInt = (m lb 7).toInt := by rw [e12, up2_ne (by omega)]
      have w17 : (m9 lb 2).toInt = (m lb 2).toInt := by rw [e12, up2_ne (by omega)]
      have klB := I lb 2
      rw [law_b2 R.2.2.2.2.2] at klB
      have klb0 : 0 ≤ (m lb 2).toInt := klB.1
      have ke1 : ∀ a j, a ≠ 86 → m9 a j = m a j := fun a j q => by rw [e12, up2_ne (by omega)]
      refine pv_aload_n (M := mX7_readClause) 0 dX7_readClause_45 46 rfl rfl rfl ?_
      refine mv_get (M := mX7_readClause) (v := .ref lb) dX7_readClause_46 FX7 1 wd281 (by decide) (tl86 hT) rfl R.2.2.2.1 49 rfl ?_
      refine pv_iload_n (M := mX7_readClause) 2 dX7_readClause_49 50 rfl rfl rfl ?_
      refine pv_callv (M := mX7_readClause) (as := [.int v2]) (st := []) (kc2 := 0) (ks2 := 0) dX7_readClause_50 wd535 YX6_beginClause ⟨wd536, wd537⟩ (mk_get R.2.2.2.2.2.2.1) rfl rfl (s_X6_beginClause_vz g hT I10 lb R.2.2.2.2.2 v2 (by first | omega | assumption | exact (iv_rng _).2 | exact (iv_rng _).1 | decide)) rfl rfl (Nat.le_of_ble_eq_true rfl) (by decide) rfl rfl 53 rfl (fun rv h1 q22 => ?_)
      obtain ⟨m23, n24, rfl, rfl, I25, K26, rm23⟩ := q22
      replace rm23 : (m23 lb 7).toInt = (m9 lb 7).toInt ∧ BGC lb m9 m23 (m9 lb 7).toInt.toNat v2.toInt := rm23
      have K26c := K26
      have w27 : (m23 86 3).toInt = (m9 86 3).toInt := congrArg Int32.toInt (K26 86 3 (wr_out (by omega)))
      have w28 : (m23 86 2).toInt = (m9 86 2).toInt := congrArg Int32.toInt (K26 86 2 (wr_out (by omega)))
      have w29 : (m23 86 4).toInt = (m9 86 4).toInt := congrArg Int32.toInt (K26 86 4 (wr_out (by omega)))
      have K26 := K11.trans (K26.sub (by first | exact wQ_wZ | exact wQ_86 | exact wQ_r (by omega) (by omega)))
      show PV _ _ _ _ _ _ _ 53 [.ref 86, .int x0, .int v2] [] _
      have kb1 := rm23.2
      have kl7 : (m9 lb 7).toInt.toNat = x0.toInt.toNat := by omega
      rw [kl7] at kb1
      have kl2 : (m23 lb 2).toInt = (m lb 2).toInt := by rw [kb1.2.2 lb 2 (by omega), ke1 lb 2 (by omega)]
      refine pv_iload_n (M := mX7_readClause) 2 dX7_readClause_53 54 rfl rfl rfl ?_
      refine pv_bipush (M := mX7_readClause) (v := 112) dX7_readClause_54 56 rfl (by decide) ?_
      refine pv_icmp_ne (M := mX7_readClause) (tgt := 69) dX7_readClause_56 59 rfl (by decide) (fun c34 => ?_) (fun c34 => ?_)
      · have c34 := iv_ne (X := v2.toInt) (Y := 112) c34 rfl (by decide)
        have kt69 : tC m23 = tC m := tC_fq zR2 K26
        have k69 : CLA (tC m) x0.toInt (m 86 3).toInt = CND (tC m) (m23 86 3).toInt := by first | exact CLA_p (by omega) (by omega) (RSX_ok k64 (by omega)) | (rw [CLA_n (by omega) (by omega), show (m 86 3).toInt + 1 = (m23 86 3).toInt by omega])
        have kf3b : fr (wZ lb) m23 m23 := by first | exact kf3 | exact fr.rf
        have kCQ : CQP (tC m) (m 86 3).toInt = (m23 86 3).toInt := by unfold CQP; first | (rw [if_neg (by omega)]; omega) | (rw [if_pos (by omega), RSX_ok k64 (by omega)])
        have ks2 : (tC m (m 86 3).toInt = 112 ∧ CDS lb m23 m23 15 (CDP (tC m) (m 86 3).toInt) ((m23 86 3).toInt - ((m 86 3).toInt + 1)) ∧ (m23 86 3).toInt - ((m 86 3).toInt + 1) + (m 86 3).toInt + 1 ≤ CQP (tC m) (m 86 3).toInt) ∨ (tC m (m 86 3).toInt = 110 ∧ m23 = m23) := by first | exact Or.inr ⟨by omega, rfl⟩ | exact Or.inl ⟨by omega, IFZ.get k64z (by omega), by omega⟩
        have kl3 : (m23 lb 2).toInt ≤ (m23 86 3).toInt := by first | omega | (have q := CDS_b (IFZ.get k64z (by omega)); omega)
        refine pv_aload_n (M := mX7_readClause) 0 dX7_readClause_69 70 rfl rfl rfl ?_
        refine mv_get (M := mX7_readClause) (v := .ref lb) dX7_readClause_70 FX7 1 wd281 (by decide) (tl86 hT) rfl R.2.2.2.1 73 rfl ?_
        refine pv_callv (M := mX7_readClause) (as := []) (st := []) (kc2 := 0) (ks2 := 0) dX7_readClause_73 wd658 YX6_beginCondition ⟨wd659, wd660⟩ (mk_get R.2.2.2.2.2.2.1) rfl rfl (s_X6_beginCondition_vz g hT I25 lb R.2.2.2.2.2 (by first | omega | assumption | exact (iv_rng _).2 | exact (iv_rng _).1 | decide)) rfl rfl (Nat.le_of_ble_eq_true rfl) (by decide) rfl rfl 76 rfl (fun rv h1 q41 => ?_)
        obtain ⟨m42, n43, rfl, rfl, I44, K45, rm42⟩ := q41
        replace rm42 : (m42 lb 7).toInt = (m23 lb 7).toInt ∧ BCC lb m23 m42 (m23 lb 7).toInt.toNat := rm42
        have K45c := K45
        have w46 : (m42 86 3).toInt = (m23 86 3).toInt := congrArg Int32.toInt (K45 86 3 (wr_out (by omega)))
        have w47 : (m42 86 2).toInt = (m23 86 2).toInt := congrArg Int32.toInt (K45 86 2 (wr_out (by omega)))
        have w48 : (m42 86 4).toInt = (m23 86 4).toInt := congrArg Int32.toInt (K45 86 4 (wr_out (by omega)))
        have K45 := K26.trans (K45.sub (by first | exact wQ_wZ | exact wQ_86 | exact wQ_r (by omega) (by omega)))
        show PV _ _ _ _ _ _ _ 76 [.ref 86, .int x0, .int v2] [] _
        have kt76 : tC m42 = tC m := tC_fq zR2 K45
        have kp76 : (m42 86 3).toInt = (m23 86 3).toInt := by omega
        have kb4 := rm42.2
        have kl8 : (m23 lb 7).toInt.toNat = x0.toInt.toNat := by omega
        rw [kl8] at kb4
        have kl4 : (m42 lb 2).toInt = (m23 lb 2).toInt := by rw [kb4.2 lb 2 (by omega)]
        refine pv_aload_n (M := mX7_readClause) 0 dX7_readClause_76 77 rfl rfl rfl ?_
        refine pv_bipush (M := mX7_readClause) (v := 40) dX7_readClause_77 79 rfl (by decide) ?_
        have z55 : (40 : Int32).toInt = 40 := by decide
        refine pv_callv (M := mX7_readClause) (as := [.int 40]) (st := []) (kc2 := 0) (ks2 := 0) dX7_readClause_79 wd555 YX7_pass ⟨wd557, wd8⟩ (mk_get (tl86 hT)) rfl rfl (s_X7_pass_vz g hT I44 R 40 (by decide) (by decide) (by first | omega | assumption | exact (iv_rng _).2 | exact (iv_rng _).1 | decide)) rfl rfl (Nat.le_of_ble_eq_true rfl) (by decide) rfl rfl 82 rfl (fun rv h1 q56 => ?_)
        obtain ⟨m57, n58, v61, rfl, rfl, I59, K60, pv61, qv61, rv61⟩ := q56
        replace rv61 : (m42 86 3).toInt ≤ (m57 86 3).toInt ∧ (m57 86 3).toInt ≤ (m57 86 2).toInt ∧ (m57 86 2).toInt = (m42 86 2).toInt ∧ ((v61.toInt = 1 ∧ tC m42 (m42 86 3).toInt = (40 : Int) ∧ (m57 86 3).toInt = (m42 86 3).toInt + 1) ∨ (v61.toInt = 0 ∧ tC m42 (m42 86 3).toInt ≠ (40 : Int) ∧ (m57 86 4).toInt = -1000 - (m42 86 3).toInt ∧ (m57 86 3).toInt = (m42 86 3).toInt)) ∧ (m57 lb 7).toInt = (m42 lb 7).toInt := by have q_ := rv61; (try rw [z55] at q_); exact q_
        have K60c := K60
        have w62 : (m57 86 2).toInt = (m42 86 2).toInt := congrArg Int32.toInt (K60 86 2 rfl)
        have K60 := K45.trans (K60.sub (by first | exact wQ_wZ | exact wQ_86 | exact wQ_r (by omega) (by omega)))
        show PV _ _ _ _ _ _ _ 82 [.ref 86, .int x0, .int v2] [.int v61] _
        have k82 := rv61.2.2.2.1
        rw [kt76, kp76] at k82
        have ks3 : SAML lb m42 m57 := SAML.fz zR2 K60c
        have ks3f : fr (wZ lb) m42 m57 := (K60c).sub wZ_86
        have kl5 : (m57 lb 2).toInt = (m42 lb 2).toInt := congrArg Int32.toInt ks3.1
        refine pv_if_eq (M := mX7_readClause) (tgt := 102) dX7_readClause_82 85 rfl (by decide) (fun c68 => ?_) (fun c68 => ?_)
        · have c68 := iv_eq (X := v61.toInt) (Y := 0) c68 rfl (by decide)
          refine pv_iconst (M := mX7_readClause) (v := 0) dX7_readClause_102 103 rfl (by decide) ?_
          have z69 : (0 : Int32).toInt = 0 := by decide
          exact pv_iret (M := mX7_readClause) dX7_readClause_103 rfl rfl ⟨_, _, _, rfl, rfl, I59, K60, by decide, by decide, ⟨by omega, by omega, by omega, (by first | exact Or.inr ⟨by decide, FLT_of (a := 1) (p := (m23 86 3).toInt) (by rw [k69]; exact if_neg (by omega)) (by decide) (by omega)⟩ | exact Or.inr ⟨by decide, FLT_of (a := 1) (p := (m23 86 3).toInt) (by rw [k69, CND_o k40, k93, bnd_ok]; exact if_neg (by omega)) (by decide) (by omega)⟩ | exact Or.inr ⟨by decide, by rw [k69, CND_o k40]; exact FLT_b (RSX_fl k90 (by omega))⟩), fun q => by omega, IFZ.no (by first | decide | omega)⟩⟩
        · have c68 := iv_ne (X := v61.toInt) (Y := 0) c68 rfl (by decide)
          have kt85 : tC m57 = tC m := tC_fq zR2 K60
          have kp85 : (m57 86 3).toInt = (m23 86 3).toInt + 1 := by omega
          have k40 : tC m (m23 86 3).toInt = 40 := by omega
          refine pv_aload_n (M := mX7_readClause) 0 dX7_readClause_85 86 rfl rfl rfl ?_
          refine pv_iconst (M := mX7_readClause) (v := 1) dX7_readClause_86 87 rfl (by decide) ?_
          have z73 : (1 : Int32).toInt = 1 := by decide
          refine pv_callv (M := mX7_readClause) (as := [.int 1]) (st := []) (kc2 := 0) (ks2 := 0) dX7_readClause_87 wd662 YX7_readCondition ⟨wd664, wd12⟩ (mk_get (tl86 hT)) rfl rfl (s_X7_readCondition_v1z g hT I59 R (by first | omega | assumption | exact (iv_rng _).2 | exact (iv_rng _).1 | decide) (TBC_eq hp1 kt85) (by first | omega | assumption | exact (iv_rng _).2 | exact (iv_rng _).1 | decide)) rfl rfl (Nat.le_of_ble_eq_true rfl) (by decide) rfl rfl 90 rfl (fun rv h1 q74 => ?_)
          obtain ⟨m75, n76, v79, rfl, rfl, I77, K78, pv79, qv79, rv79⟩ := q74
          replace rv79 : (m57 86 3).toInt ≤ (m75 86 3).toInt ∧ (m75 86 3).toInt ≤ (m75 86 2).toInt ∧ (m75 86 2).toInt = (m57 86 2).toInt ∧ (RSX (CN (tC m57) 5 (m57 86 3).toInt) v79.toInt (m75 86 3).toInt (m75 86 4).toInt) ∧ (m75 lb 7).toInt = (m57 lb 7).toInt ∧ IFZ v79.toInt (CDS lb m57 m75 14 (CND_ (tC m57) 5 (m57 86 3).toInt) ((m75 86 3).toInt - (m57 86 3).toInt)) := by have q_ := rv79; (try rw [z73] at q_); exact q_
          have K78c := K78
          have K78 := K60.trans (K78.sub (by first | exact wQ_wZ | exact wQ_86 | exact wQ_r (by omega) (by omega)))
          show PV _ _ _ _ _ _ _ 90 [.ref 86, .int x0, .int v2] [.int v79] _
          have k90 := rv79.2.2.2.1
          rw [kt85, kp85] at k90
          have k90z := rv79.2.2.2.2.2
          rw [kt85, kp85] at k90z
          have kf6 : fr (wZ lb) m57 m75 := K78c
          refine pv_if_eq (M := mX7_readClause) (tgt := 102) dX7_readClause_90 93 rfl (by decide) (fun c85 => ?_) (fun c85 => ?_)
          · have c85 := iv_eq (X := v79.toInt) (Y := 0) c85 rfl (by decide)
            refine pv_iconst (M := mX7_readClause) (v := 0) dX7_readClause_102 103 rfl (by decide) ?_
            have z86 : (0 : Int32).toInt = 0 := by decide
            exact pv_iret (M := mX7_readClause) dX7_readClause_103 rfl rfl ⟨_, _, _, rfl, rfl, I77, K78, by decide, by decide, ⟨by omega, by omega, by omega, (by first | exact Or.inr ⟨by decide, FLT_of (a := 1) (p := (m23 86 3).toInt) (by rw [k69]; exact if_neg (by omega)) (by decide) (by omega)⟩ | exact Or.inr ⟨by decide, FLT_of (a := 1) (p := (m23 86 3).toInt) (by rw [k69, CND_o k40, k93, bnd_ok]; exact if_neg (by omega)) (by decide) (by omega)⟩ | exact Or.inr ⟨by decide, by rw [k69, CND_o k40]; exact FLT_b (RSX_fl k90 (by omega))⟩), fun q => by omega, IFZ.no (by first | decide | omega)⟩⟩
          · have c85 := iv_ne (X := v79.toInt) (Y := 0) c85 rfl (by decide)
            have k93 := RSX_ok k90 (by omega)
            have kt93 : tC m75 = tC m := tC_fq zR2 K78
            have k93z := IFZ.get k90z (by omega)
            rw [← kCQ] at k93z
            have k93b := CDS_b k93z
            refine pv_aload_n (M := mX7_readClause) 0 dX7_readClause_93 94 rfl rfl rfl ?_
            refine pv_bipush (M := mX7_readClause) (v := 41) dX7_readClause_94 96 rfl (by decide) ?_
            have z92 : (41 : Int32).toInt = 41 := by decide
            refine pv_callv (M := mX7_readClause) (as := [.int 41]) (st := []) (kc2 := 0) (ks2 := 0) dX7_readClause_96 wd555 YX7_pass ⟨wd557, wd8⟩ (mk_get (tl86 hT)) rfl rfl (s_X7_pass_vz g hT I77 R 41 (by decide) (by decide) (by first | omega | assumption | exact (iv_rng _).2 | exact (iv_rng _).1 | decide)) rfl rfl (Nat.le_of_ble_eq_true rfl) (by decide) rfl rfl 99 rfl (fun rv h1 q93 => ?_)
            obtain ⟨m94, n95, v98, rfl, rfl, I96, K97, pv98, qv98, rv98⟩ := q93
            replace rv98 : (m75 86 3).toInt ≤ (m94 86 3).toInt ∧ (m94 86 3).toInt ≤ (m94 86 2).toInt ∧ (m94 86 2).toInt = (m75 86 2).toInt ∧ ((v98.toInt = 1 ∧ tC m75 (m75 86 3).toInt = (41 : Int) ∧ (m94 86 3).toInt = (m75 86 3).toInt + 1) ∨ (v98.toInt = 0 ∧ tC m75 (m75 86 3).toInt ≠ (41 : Int) ∧ (m94 86 4).toInt = -1000 - (m75 86 3).toInt ∧ (m94 86 3).toInt = (m75 86 3).toInt)) ∧ (m94 lb 7).toInt = (m75 lb 7).toInt := by have q_ := rv98; (try rw [z92] at q_); exact q_
            have K97c := K97
            have w99 : (m94 86 2).toInt = (m75 86 2).toInt := congrArg Int32.toInt (K97 86 2 rfl)
            have K97 := K78.trans (K97.sub (by first | exact wQ_wZ | exact wQ_86 | exact wQ_r (by omega) (by omega)))
            show PV _ _ _ _ _ _ _ 99 [.ref 86, .int x0, .int v2] [.int v98] _
            have k99 := rv98.2.2.2.1
            rw [kt93] at k99
            have ks5 : SAML lb m75 m94 := SAML.fz zR2 K97c
            have ks5f : fr (wZ lb) m75 m94 := (K97c).sub wZ_86
            refine pv_if_ne (M := mX7_readClause) (tgt := 104) dX7_readClause_99 102 rfl (by decide) (fun c104 => ?_) (fun c104 => ?_)
            · have c104 := iv_ne (X := v98.toInt) (Y := 0) c104 rfl (by decide)
              refine pv_aload_n (M := mX7_readClause) 0 dX7_readClause_104 105 rfl rfl rfl ?_
              refine mv_get (M := mX7_readClause) (v := .ref lb) dX7_readClause_105 FX7 1 wd281 (by decide) (tl86 hT) rfl R.2.2.2.1 108 rfl ?_
              refine pv_callv (M := mX7_readClause) (as := []) (st := []) (kc2 := 0) (ks2 := 0) dX7_readClause_108 wd683 YX6_endClause ⟨wd684, wd685⟩ (mk_get R.2.2.2.2.2.2.1) rfl rfl (s_X6_endClause_vz g hT I96 lb R.2.2.2.2.2 (by first | omega | assumption | exact (iv_rng _).2 | exact (iv_rng _).1 | decide)) rfl rfl (Nat.le_of_ble_eq_true rfl) (by decide) rfl rfl 111 rfl (fun rv h1 q105 => ?_)
              obtain ⟨m106, n107, rfl, rfl, I108, K109, rm106⟩ := q105
              replace rm106 : (m106 lb 7).toInt = (m94 lb 7).toInt + 1 ∧ ECC lb m94 m106 (m94 lb 7).toInt.toNat := rm106
              have K109c := K109
              have w110 : (m106 86 3).toInt = (m94 86 3).toInt := congrArg Int32.toInt (K109 86 3 (wr_out (by omega)))
              have w111 : (m106 86 2).toInt = (m94 86 2).toInt := congrArg Int32.toInt (K109 86 2 (wr_out (by omega)))
              have w112 : (m106 86 4).toInt = (m94 86 4).toInt := congrArg Int32.toInt (K109 86 4 (wr_out (by omega)))
              have K109 := K97.trans (K109.sub (by first | exact wQ_wZ | exact wQ_86 | exact wQ_r (by omega) (by omega)))
              show PV _ _ _ _ _ _ _ 111 [.ref 86, .int x0, .int v2] [] _
              have kb8 := rm106.2
              have kl9 : (m94 lb 7).toInt.toNat = x0.toInt.toNat := by omega
              rw [kl9] at kb8
              refine pv_iconst (M := mX7_readClause) (v := 1) dX7_readClause_111 112 rfl (by decide) ?_
              have z116 : (1 : Int32).toInt = 1 := by decide
              exact pv_iret (M := mX7_readClause) dX7_readClause_112 rfl rfl ⟨_, _, _, rfl, rfl, I108, K109, by decide, by decide, ⟨by omega, by omega, by omega, Or.inl ⟨by decide, by rw [k69, CND_o k40, k93, bnd_ok]; exact (if_pos (by omega)).trans (by rw [show (m75 86 3).toInt + 1 = (m106 86 3).toInt by omega])⟩, fun q => by omega, IFZ.is (CLZ_of (kd := tC m (m 86 3).toInt) zR2 (by omega) (by omega) rfl (by omega) ke1 (by rw [kb1.1]; omega) kb1.2.1 kb1.2.2 kf3b ks2 kb4.1 kb4.2 ks3 ks3f k93z kf6 ks5 ks5f kb8.1 kb8.2 (by omega))⟩⟩
            · have c104 := iv_eq (X := v98.toInt) (Y := 0) c104 rfl (by decide)
              refine pv_iconst (M := mX7_readClause) (v := 0) dX7_readClause_102 103 rfl (by decide) ?_
              have z117 : (0 : Int32).toInt = 0 := by decide
              exact pv_iret (M := mX7_readClause) dX7_readClause_103 rfl rfl ⟨_, _, _, rfl, rfl, I96, K97, by decide, by decide, ⟨by omega, by omega, by omega, (by first | exact Or.inr ⟨by decide, FLT_of (a := 1) (p := (m23 86 3).toInt) (by rw [k69]; exact if_neg (by omega)) (by decide) (by omega)⟩ | exact Or.inr ⟨by decide, FLT_of (a := 1) (p := (m75 86 3).toInt) (by rw [k69, CND_o k40, k93, bnd_ok]; exact if_neg (by omega)) (by decide) (by omega)⟩ | exact Or.inr ⟨by decide, by rw [k69, CND_o k40]; exact FLT_b (RSX_fl k90 (by omega))⟩), fun q => by omega, IFZ.no (by first | decide | omega)⟩⟩
      · have c34 := iv_eq (X := v2.toInt) (Y := 112) c34 rfl (by decide)
        omega
    · have c6 := iv_nlt (X := x0.toInt) (Y := 12) c6 rfl (by decide)
      refine pv_aload_n (M := mX7_readClause) 0 dX7_readClause_29 30 rfl rfl rfl ?_
      refine pv_iconst (M := mX7_readClause) (v := 4) dX7_readClause_30 31 rfl (by decide) ?_
      have z118 : (4 : Int32).toInt = 4 := by decide
      refine pv_callv (M := mX7_readClause) (as := [.int 4]) (st := []) (kc2 := 0) (ks2 := 0) dX7_readClause_31 wd531 YX7_fail ⟨wd533, wd3⟩ (mk_get (tl86 hT)) rfl rfl (s_X7_fail_vz g hT I R 4 (by decide) (by decide) (by first | omega | assumption | exact (iv_rng _).2 | exact (iv_rng _).1 | decide)) rfl rfl (Nat.le_of_ble_eq_true rfl) (by decide) rfl rfl 34 rfl (fun rv h1 q119 => ?_)
      obtain ⟨m120, n121, v124, rfl, rfl, I122, K123, pv124, qv124, rv124⟩ := q119
      replace rv124 : (m 86 3).toInt ≤ (m120 86 3).toInt ∧ (m120 86 3).toInt ≤ (m120 86 2).toInt ∧ (m120 86 2).toInt = (m 86 2).toInt ∧ (v124.toInt = 0 ∧ (m120 86 3).toInt = (m 86 3).toInt ∧ (m120 86 4).toInt = -1000 * (4 : Int) - (m 86 3).toInt) ∧ (m120 lb 7).toInt = (m lb 7).toInt := by have q_ := rv124; (try rw [z118] at q_); exact q_
      have K123c := K123
      have w125 : (m120 86 2).toInt = (m 86 2).toInt := congrArg Int32.toInt (K123 86 2 rfl)
      have K123 := Kp.trans (K123.sub (by first | exact wQ_wZ | exact wQ_86 | exact wQ_r (by omega) (by omega)))
      show PV _ _ _ _ _ _ _ 34 [.ref 86, .int x0, .int v2] [.int v124] _
      exact pv_iret (M := mX7_readClause) dX7_readClause_34 rfl (iv_nz (by omega) (by omega)) ⟨_, _, _, rfl, rfl, I122, K123, by omega, by omega, ⟨by omega, by omega, by omega, Or.inr ⟨by omega, CLA_4 (by omega) (by omega) (by omega)⟩, fun q => by omega, IFZ.no (by first | decide | omega)⟩⟩
  · have c5 := iv_ne (X := v2.toInt) (Y := 110) c5 rfl (by decide)
    refine pv_iload_n (M := mX7_readClause) 2 dX7_readClause_11 12 rfl rfl rfl ?_
    refine pv_bipush (M := mX7_readClause) (v := 112) dX7_readClause_12 14 rfl (by decide) ?_
    refine pv_icmp_eq (M := mX7_readClause) (tgt := 23) dX7_readClause_14 17 rfl (by decide) (fun c126 => ?_) (fun c126 => ?_)
    · have c126 := iv_eq (X := v2.toInt) (Y := 112) c126 rfl (by decide)
      refine pv_iload_n (M := mX7_readClause) 1 dX7_readClause_23 24 rfl rfl rfl ?_
      refine pv_bipush (M := mX7_readClause) (v := 12) dX7_readClause_24 26 rfl (by decide) ?_
      refine pv_icmp_lt (M := mX7_readClause) (tgt := 35) dX7_readClause_26 29 rfl (by decide) (fun c127 => ?_) (fun c127 => ?_)
      · have c127 := iv_lt (X := x0.toInt) (Y := 12) c127 rfl (by decide)
        refine pv_aload_n (M := mX7_readClause) 0 dX7_readClause_35 36 rfl rfl rfl ?_
        refine pv_dup (M := mX7_readClause) dX7_readClause_36 37 rfl rfl ?_
        refine iv_get (M := mX7_readClause) (l1 := 0) (l2 := 160) dX7_readClause_37 FX7 3 wd283 (by decide) (tl86 hT) rfl I rfl 40 rfl (fun v128 ev128 pv128 qv128 => ?_)
        have wv128 : v128.toInt = (m 86 3).toInt := congrArg Int32.toInt ev128
        refine pv_iconst (M := mX7_readClause) (v := 1) dX7_readClause_40 41 rfl (by decide) ?_
        refine iv_iadd (M := mX7_readClause) (X := v128.toInt) (Y := 1) dX7_readClause_41 42 rfl rfl (by decide) (by omega) (by omega) (fun v129 ev129 => ?_)
        refine iv_put (M := mX7_readClause) (l1 := 0) (l2 := 160) dX7_readClause_42 FX7 3 wd283 (by decide) rfl (tl86 hT) rfl rfl rfl I rfl (by omega) (by omega) 45 rfl (fun m130 e133 I131 => ?_)
        have K132 := Kp.set e133 (by first | rfl | decide)
        have w134 : (m130 86 3).toInt = v129.toInt := by rw [e133, up2_eq]
        have w135 : (m130 86 2).toInt = (m 86 2).toInt := by rw [e133, up2_ne (by omega)]
        have w136 : (m130 86 4).toInt = (m 86 4).toInt := by rw [e133, up2_ne (by omega)]
        have w137 : (m130 lb 7).toInt = (m lb 7).toInt := by rw [e133, up2_ne (by omega)]
        have w138 : (m130 lb 2).toInt = (m lb 2).toInt := by rw [e133, up2_ne (by omega)]
        have klB := I lb 2
        rw [law_b2 R.2.2.2.2.2] at klB
        have klb0 : 0 ≤ (m lb 2).toInt := klB.1
        have ke1 : ∀ a j, a ≠ 86 → m130 a j = m a j := fun a j q => by rw [e133, up2_ne (by omega)]
        refine pv_aload_n (M := mX7_readClause) 0 dX7_readClause_45 46 rfl rfl rfl ?_
        refine mv_get (M := mX7_readClause) (v := .ref lb) dX7_readClause_46 FX7 1 wd281 (by decide) (tl86 hT) rfl R.2.2.2.1 49 rfl ?_
        refine pv_iload_n (M := mX7_readClause) 2 dX7_readClause_49 50 rfl rfl rfl ?_
        refine pv_callv (M := mX7_readClause) (as := [.int v2]) (st := []) (kc2 := 0) (ks2 := 0) dX7_readClause_50 wd535 YX6_beginClause ⟨wd536, wd537⟩ (mk_get R.2.2.2.2.2.2.1) rfl rfl (s_X6_beginClause_vz g hT I131 lb R.2.2.2.2.2 v2 (by first | omega | assumption | exact (iv_rng _).2 | exact (iv_rng _).1 | decide)) rfl rfl (Nat.le_of_ble_eq_true rfl) (by decide) rfl rfl 53 rfl (fun rv h1 q143 => ?_)
        obtain ⟨m144, n145, rfl, rfl, I146, K147, rm144⟩ := q143
        replace rm144 : (m144 lb 7).toInt = (m130 lb 7).toInt ∧ BGC lb m130 m144 (m130 lb 7).toInt.toNat v2.toInt := rm144
        have K147c := K147
        have w148 : (m144 86 3).toInt = (m130 86 3).toInt := congrArg Int32.toInt (K147 86 3 (wr_out (by omega)))
        have w149 : (m144 86 2).toInt = (m130 86 2).toInt := congrArg Int32.toInt (K147 86 2 (wr_out (by omega)))
        have w150 : (m144 86 4).toInt = (m130 86 4).toInt := congrArg Int32.toInt (K147 86 4 (wr_out (by omega)))
        have K147 := K132.trans (K147.sub (by first | exact wQ_wZ | exact wQ_86 | exact wQ_r (by omega) (by omega)))
        show PV _ _ _ _ _ _ _ 53 [.ref 86, .int x0, .int v2] [] _
        have kb1 := rm144.2
        have kl7 : (m130 lb 7).toInt.toNat = x0.toInt.toNat := by omega
        rw [kl7] at kb1
        have kl2 : (m144 lb 2).toInt = (m lb 2).toInt := by rw [kb1.2.2 lb 2 (by omega), ke1 lb 2 (by omega)]
        refine pv_iload_n (M := mX7_readClause) 2 dX7_readClause_53 54 rfl rfl rfl ?_
        refine pv_bipush (M := mX7_readClause) (v := 112) dX7_readClause_54 56 rfl (by decide) ?_
        refine pv_icmp_ne (M := mX7_readClause) (tgt := 69) dX7_readClause_56 59 rfl (by decide) (fun c155 => ?_) (fun c155 => ?_)
        · have c155 := iv_ne (X := v2.toInt) (Y := 112) c155 rfl (by decide)
          omega
        · have c155 := iv_eq (X := v2.toInt) (Y := 112) c155 rfl (by decide)
          have kt59 : tC m144 = tC m := tC_fq zR2 K147
          have kp59 : (m144 86 3).toInt = (m 86 3).toInt + 1 := by omega
          refine pv_aload_n (M := mX7_readClause) 0 dX7_readClause_59 60 rfl rfl rfl ?_
          refine pv_iconst (M := mX7_readClause) (v := 0) dX7_readClause_60 61 rfl (by decide) ?_
          have z158 : (0 : Int32).toInt = 0 := by decide
          refine pv_callv (M := mX7_readClause) (as := [.int 0]) (st := []) (kc2 := 0) (ks2 := 0) dX7_readClause_61 wd539 YX7_readSum ⟨wd541, wd4⟩ (mk_get (tl86 hT)) rfl rfl (s_X7_readSum_v0z g hT I146 R (by first | omega | assumption | exact (iv_rng _).2 | exact (iv_rng _).1 | decide) (TBC_eq hp1 kt59) (by first | omega | assumption | exact (iv_rng _).2 | exact (iv_rng _).1 | decide)) rfl rfl (Nat.le_of_ble_eq_true rfl) (by decide) rfl rfl 64 rfl (fun rv h1 q159 => ?_)
          obtain ⟨m160, n161, v164, rfl, rfl, I162, K163, pv164, qv164, rv164⟩ := q159
          replace rv164 : (m144 86 3).toInt ≤ (m160 86 3).toInt ∧ (m160 86 3).toInt ≤ (m160 86 2).toInt ∧ (m160 86 2).toInt = (m144 86 2).toInt ∧ (RSX (SU (tC m144) 6 (m144 86 3).toInt) v164.toInt (m160 86 3).toInt (m160 86 4).toInt) ∧ (m160 lb 7).toInt = (m144 lb 7).toInt ∧ IFZ v164.toInt (CDS lb m144 m160 15 (SUD (tC m144) 6 (m144 86 3).toInt) ((m160 86 3).toInt - (m144 86 3).toInt)) := by have q_ := rv164; (try rw [z158] at q_); exact q_
          have K163c := K163
          have K163 := K147.trans (K163.sub (by first | exact wQ_wZ | exact wQ_86 | exact wQ_r (by omega) (by omega)))
          show PV _ _ _ _ _ _ _ 64 [.ref 86, .int x0, .int v2] [.int v164] _
          have k64 := rv164.2.2.2.1
          rw [kt59, kp59] at k64
          have k64z := rv164.2.2.2.2.2
          rw [kt59, kp59] at k64z
          have kf3 : fr (wZ lb) m144 m160 := K163c
          refine pv_if_ne (M := mX7_readClause) (tgt := 69) dX7_readClause_64 67 rfl (by decide) (fun c170 => ?_) (fun c170 => ?_)
          · have c170 := iv_ne (X := v164.toInt) (Y := 0) c170 rfl (by decide)
            have kt69 : tC m160 = tC m := tC_fq zR2 K163
            have k69 : CLA (tC m) x0.toInt (m 86 3).toInt = CND (tC m) (m160 86 3).toInt := by first | exact CLA_p (by omega) (by omega) (RSX_ok k64 (by omega)) | (rw [CLA_n (by omega) (by omega), show (m 86 3).toInt + 1 = (m160 86 3).toInt by omega])
            have kf3b : fr (wZ lb) m144 m160 := by first | exact kf3 | exact fr.rf
            have kCQ : CQP (tC m) (m 86 3).toInt = (m160 86 3).toInt := by unfold CQP; first | (rw [if_neg (by omega)]; omega) | (rw [if_pos (by omega), RSX_ok k64 (by omega)])
            have ks2 : (tC m (m 86 3).toInt = 112 ∧ CDS lb m144 m160 15 (CDP (tC m) (m 86 3).toInt) ((m160 86 3).toInt - ((m 86 3).toInt + 1)) ∧ (m160 86 3).toInt - ((m 86 3).toInt + 1) + (m 86 3).toInt + 1 ≤ CQP (tC m) (m 86 3).toInt) ∨ (tC m (m 86 3).toInt = 110 ∧ m160 = m144) := by first | exact Or.inr ⟨by omega, rfl⟩ | exact Or.inl ⟨by omega, IFZ.get k64z (by omega), by omega⟩
            have kl3 : (m160 lb 2).toInt ≤ (m160 86 3).toInt := by first | omega | (have q := CDS_b (IFZ.get k64z (by omega)); omega)
            refine pv_aload_n (M := mX7_readClause) 0 dX7_readClause_69 70 rfl rfl rfl ?_
            refine mv_get (M := mX7_readClause) (v := .ref lb) dX7_readClause_70 FX7 1 wd281 (by decide) (tl86 hT) rfl R.2.2.2.1 73 rfl ?_
            refine pv_callv (M := mX7_readClause) (as := []) (st := []) (kc2 := 0) (ks2 := 0) dX7_readClause_73 wd658 YX6_beginCondition ⟨wd659, wd660⟩ (mk_get R.2.2.2.2.2.2.1) rfl rfl (s_X6_beginCondition_vz g hT I162 lb R.2.2.2.2.2 (by first | omega | assumption | exact (iv_rng _).2 | exact (iv_rng _).1 | decide)) rfl rfl (Nat.le_of_ble_eq_true rfl) (by decide) rfl rfl 76 rfl (fun rv h1 q177 => ?_)
            obtain ⟨m178, n179, rfl, rfl, I180, K181, rm178⟩ := q177
            replace rm178 : (m178 lb 7).toInt = (m160 lb 7).toInt ∧ BCC lb m160 m178 (m160 lb 7).toInt.toNat := rm178
            have K181c := K181
            have w182 : (m178 86 3).toInt = (m160 86 3).toInt := congrArg Int32.toInt (K181 86 3 (wr_out (by omega)))
            have w183 : (m178 86 2).toInt = (m160 86 2).toInt := congrArg Int32.toInt (K181 86 2 (wr_out (by omega)))
            have w184 : (m178 86 4).toInt = (m160 86 4).toInt := congrArg Int32.toInt (K181 86 4 (wr_out (by omega)))
            have K181 := K163.trans (K181.sub (by first | exact wQ_wZ | exact wQ_86 | exact wQ_r (by omega) (by omega)))
            show PV _ _ _ _ _ _ _ 76 [.ref 86, .int x0, .int v2] [] _
            have kt76 : tC m178 = tC m := tC_fq zR2 K181
            have kp76 : (m178 86 3).toInt = (m160 86 3).toInt := by omega
            have kb4 := rm178.2
            have kl8 : (m160 lb 7).toInt.toNat = x0.toInt.toNat := by omega
            rw [kl8] at kb4
            have kl4 : (m178 lb 2).toInt = (m160 lb 2).toInt := by rw [kb4.2 lb 2 (by omega)]
            refine pv_aload_n (M := mX7_readClause) 0 dX7_readClause_76 77 rfl rfl rfl ?_
            refine pv_bipush (M := mX7_readClause) (v := 40) dX7_readClause_77 79 rfl (by decide) ?_
            have z191 : (40 : Int32).toInt = 40 := by decide
            refine pv_callv (M := mX7_readClause) (as := [.int 40]) (st := []) (kc2 := 0) (ks2 := 0) dX7_readClause_79 wd555 YX7_pass ⟨wd557, wd8⟩ (mk_get (tl86 hT)) rfl rfl (s_X7_pass_vz g hT I180 R 40 (by decide) (by decide) (by first | omega | assumption | exact (iv_rng _).2 | exact (iv_rng _).1 | decide)) rfl rfl (Nat.le_of_ble_eq_true rfl) (by decide) rfl rfl 82 rfl (fun rv h1 q192 => ?_)
            obtain ⟨m193, n194, v197, rfl, rfl, I195, K196, pv197, qv197, rv197⟩ := q192
            replace rv197 : (m178 86 3).toInt ≤ (m193 86 3).toInt ∧ (m193 86 3).toInt ≤ (m193 86 2).toInt ∧ (m193 86 2).toInt = (m178 86 2).toInt ∧ ((v197.toInt = 1 ∧ tC m178 (m178 86 3).toInt = (40 : Int) ∧ (m193 86 3).toInt = (m178 86 3).toInt + 1) ∨ (v197.toInt = 0 ∧ tC m178 (m178 86 3).toInt ≠ (40 : Int) ∧ (m193 86 4).toInt = -1000 - (m178 86 3).toInt ∧ (m193 86 3).toInt = (m178 86 3).toInt)) ∧ (m193 lb 7).toInt = (m178 lb 7).toInt := by have q_ := rv197; (try rw [z191] at q_); exact q_
            have K196c := K196
            have w198 : (m193 86 2).toInt = (m178 86 2).toInt := congrArg Int32.toInt (K196 86 2 rfl)
            have K196 := K181.trans (K196.sub (by first | exact wQ_wZ | exact wQ_86 | exact wQ_r (by omega) (by omega)))
            show PV _ _ _ _ _ _ _ 82 [.ref 86, .int x0, .int v2] [.int v197] _
            have k82 := rv197.2.2.2.1
            rw [kt76, kp76] at k82
            have ks3 : SAML lb m178 m193 := SAML.fz zR2 K196c
            have ks3f : fr (wZ lb) m178 m193 := (K196c).sub wZ_86
            have kl5 : (m193 lb 2).toInt = (m178 lb 2).toInt := congrArg Int32.toInt ks3.1
            refine pv_if_eq (M := mX7_readClause) (tgt := 102) dX7_readClause_82 85 rfl (by decide) (fun c204 => ?_) (fun c204 => ?_)
            · have c204 := iv_eq (X := v197.toInt) (Y := 0) c204 rfl (by decide)
              refine pv_iconst (M := mX7_readClause) (v := 0) dX7_readClause_102 103 rfl (by decide) ?_
              have z205 : (0 : Int32).toInt = 0 := by decide
              exact pv_iret (M := mX7_readClause) dX7_readClause_103 rfl rfl ⟨_, _, _, rfl, rfl, I195, K196, by decide, by decide, ⟨by omega, by omega, by omega, (by first | exact Or.inr ⟨by decide, FLT_of (a := 1) (p := (m160 86 3).toInt) (by rw [k69]; exact if_neg (by omega)) (by decide) (by omega)⟩ | exact Or.inr ⟨by decide, FLT_of (a := 1) (p := (m160 86 3).toInt) (by rw [k69, CND_o k40, k93, bnd_ok]; exact if_neg (by omega)) (by decide) (by omega)⟩ | exact Or.inr ⟨by decide, by rw [k69, CND_o k40]; exact FLT_b (RSX_fl k90 (by omega))⟩), fun q => by omega, IFZ.no (by first | decide | omega)⟩⟩
            · have c204 := iv_ne (X := v197.toInt) (Y := 0) c204 rfl (by decide)
              have kt85 : tC m193 = tC m := tC_fq zR2 K196
              have kp85 : (m193 86 3).toInt = (m160 86 3).toInt + 1 := by omega
              have k40 : tC m (m160 86 3).toInt = 40 := by omega
              refine pv_aload_n (M := mX7_readClause) 0 dX7_readClause_85 86 rfl rfl rfl ?_
              refine pv_iconst (M := mX7_readClause) (v := 1) dX7_readClause_86 87 rfl (by decide) ?_
              have z209 : (1 : Int32).toInt = 1 := by decide
              refine pv_callv (M := mX7_readClause) (as := [.int 1]) (st := []) (kc2 := 0) (ks2 := 0) dX7_readClause_87 wd662 YX7_readCondition ⟨wd664, wd12⟩ (mk_get (tl86 hT)) rfl rfl (s_X7_readCondition_v1z g hT I195 R (by first | omega | assumption | exact (iv_rng _).2 | exact (iv_rng _).1 | decide) (TBC_eq hp1 kt85) (by first | omega | assumption | exact (iv_rng _).2 | exact (iv_rng _).1 | decide)) rfl rfl (Nat.le_of_ble_eq_true rfl) (by decide) rfl rfl 90 rfl (fun rv h1 q210 => ?_)
              obtain ⟨m211, n212, v215, rfl, rfl, I213, K214, pv215, qv215, rv215⟩ := q210
              replace rv215 : (m193 86 3).toInt ≤ (m211 86 3).toInt ∧ (m211 86 3).toInt ≤ (m211 86 2).toInt ∧ (m211 86 2).toInt = (m193 86 2).toInt ∧ (RSX (CN (tC m193) 5 (m193 86 3).toInt) v215.toInt (m211 86 3).toInt (m211 86 4).toInt) ∧ (m211 lb 7).toInt = (m193 lb 7).toInt ∧ IFZ v215.toInt (CDS lb m193 m211 14 (CND_ (tC m193) 5 (m193 86 3).toInt) ((m211 86 3).toInt - (m193 86 3).toInt)) := by have q_ := rv215; (try rw [z209] at q_); exact q_
              have K214c := K214
              have K214 := K196.trans (K214.sub (by first | exact wQ_wZ | exact wQ_86 | exact wQ_r (by omega) (by omega)))
              show PV _ _ _ _ _ _ _ 90 [.ref 86, .int x0, .int v2] [.int v215] _
              have k90 := rv215.2.2.2.1
              rw [kt85, kp85] at k90
              have k90z := rv215.2.2.2.2.2
              rw [kt85, kp85] at k90z
              have kf6 : fr (wZ lb) m193 m211 := K214c
              refine pv_if_eq (M := mX7_readClause) (tgt := 102) dX7_readClause_90 93 rfl (by decide) (fun c221 => ?_) (fun c221 => ?_)
              · have c221 := iv_eq (X := v215.toInt) (Y := 0) c221 rfl (by decide)
                refine pv_iconst (M := mX7_readClause) (v := 0) dX7_readClause_102 103 rfl (by decide) ?_
                have z222 : (0 : Int32).toInt = 0 := by decide
                exact pv_iret (M := mX7_readClause) dX7_readClause_103 rfl rfl ⟨_, _, _, rfl, rfl, I213, K214, by decide, by decide, ⟨by omega, by omega, by omega, (by first | exact Or.inr ⟨by decide, FLT_of (a := 1) (p := (m160 86 3).toInt) (by rw [k69]; exact if_neg (by omega)) (by decide) (by omega)⟩ | exact Or.inr ⟨by decide, FLT_of (a := 1) (p := (m160 86 3).toInt) (by rw [k69, CND_o k40, k93, bnd_ok]; exact if_neg (by omega)) (by decide) (by omega)⟩ | exact Or.inr ⟨by decide, by rw [k69, CND_o k40]; exact FLT_b (RSX_fl k90 (by omega))⟩), fun q => by omega, IFZ.no (by first | decide | omega)⟩⟩
              · have c221 := iv_ne (X := v215.toInt) (Y := 0) c221 rfl (by decide)
                have k93 := RSX_ok k90 (by omega)
                have kt93 : tC m211 = tC m := tC_fq zR2 K214
                have k93z := IFZ.get k90z (by omega)
                rw [← kCQ] at k93z
                have k93b := CDS_b k93z
                refine pv_aload_n (M := mX7_readClause) 0 dX7_readClause_93 94 rfl rfl rfl ?_
                refine pv_bipush (M := mX7_readClause) (v := 41) dX7_readClause_94 96 rfl (by decide) ?_
                have z228 : (41 : Int32).toInt = 41 := by decide
                refine pv_callv (M := mX7_readClause) (as := [.int 41]) (st := []) (kc2 := 0) (ks2 := 0) dX7_readClause_96 wd555 YX7_pass ⟨wd557, wd8⟩ (mk_get (tl86 hT)) rfl rfl (s_X7_pass_vz g hT I213 R 41 (by decide) (by decide) (by first | omega | assumption | exact (iv_rng _).2 | exact (iv_rng _).1 | decide)) rfl rfl (Nat.le_of_ble_eq_true rfl) (by decide) rfl rfl 99 rfl (fun rv h1 q229 => ?_)
                obtain ⟨m230, n231, v234, rfl, rfl, I232, K233, pv234, qv234, rv234⟩ := q229
                replace rv234 : (m211 86 3).toInt ≤ (m230 86 3).toInt ∧ (m230 86 3).toInt ≤ (m230 86 2).toInt ∧ (m230 86 2).toInt = (m211 86 2).toInt ∧ ((v234.toInt = 1 ∧ tC m211 (m211 86 3).toInt = (41 : Int) ∧ (m230 86 3).toInt = (m211 86 3).toInt + 1) ∨ (v234.toInt = 0 ∧ tC m211 (m211 86 3).toInt ≠ (41 : Int) ∧ (m230 86 4).toInt = -1000 - (m211 86 3).toInt ∧ (m230 86 3).toInt = (m211 86 3).toInt)) ∧ (m230 lb 7).toInt = (m211 lb 7).toInt := by have q_ := rv234; (try rw [z228] at q_); exact q_
                have K233c := K233
                have w235 : (m230 86 2).toInt = (m211 86 2).toInt := congrArg Int32.toInt (K233 86 2 rfl)
                have K233 := K214.trans (K233.sub (by first | exact wQ_wZ | exact wQ_86 | exact wQ_r (by omega) (by omega)))
                show PV _ _ _ _ _ _ _ 99 [.ref 86, .int x0, .int v2] [.int v234] _
                have k99 := rv234.2.2.2.1
                rw [kt93] at k99
                have ks5 : SAML lb m211 m230 := SAML.fz zR2 K233c
                have ks5f : fr (wZ lb) m211 m230 := (K233c).sub wZ_86
                refine pv_if_ne (M := mX7_readClause) (tgt := 104) dX7_readClause_99 102 rfl (by decide) (fun c240 => ?_) (fun c240 => ?_)
                · have c240 := iv_ne (X := v234.toInt) (Y := 0) c240 rfl (by decide)
                  refine pv_aload_n (M := mX7_readClause) 0 dX7_readClause_104 105 rfl rfl rfl ?_
                  refine mv_get (M := mX7_readClause) (v := .ref lb) dX7_readClause_105 FX7 1 wd281 (by decide) (tl86 hT) rfl R.2.2.2.1 108 rfl ?_
                  refine pv_callv (M := mX7_readClause) (as := []) (st := []) (kc2 := 0) (ks2 := 0) dX7_readClause_108 wd683 YX6_endClause ⟨wd684, wd685⟩ (mk_get R.2.2.2.2.2.2.1) rfl rfl (s_X6_endClause_vz g hT I232 lb R.2.2.2.2.2 (by first | omega | assumption | exact (iv_rng _).2 | exact (iv_rng _).1 | decide)) rfl rfl (Nat.le_of_ble_eq_true rfl) (by decide) rfl rfl 111 rfl (fun rv h1 q241 => ?_)
                  obtain ⟨m242, n243, rfl, rfl, I244, K245, rm242⟩ := q241
                  replace rm242 : (m242 lb 7).toInt = (m230 lb 7).toInt + 1 ∧ ECC lb m230 m242 (m230 lb 7).toInt.toNat := rm242
                  have K245c := K245
                  have w246 : (m242 86 3).toInt = (m230 86 3).toInt := congrArg Int32.toInt (K245 86 3 (wr_out (by omega)))
                  have w247 : (m242 86 2).toInt = (m230 86 2).toInt := congrArg Int32.toInt (K245 86 2 (wr_out (by omega)))
                  have w248 : (m242 86 4).toInt = (m230 86 4).toInt := congrArg Int32.toInt (K245 86 4 (wr_out (by omega)))
                  have K245 := K233.trans (K245.sub (by first | exact wQ_wZ | exact wQ_86 | exact wQ_r (by omega) (by omega)))
                  show PV _ _ _ _ _ _ _ 111 [.ref 86, .int x0, .int v2] [] _
                  have kb8 := rm242.2
                  have kl9 : (m230 lb 7).toInt.toNat = x0.toInt.toNat := by omega
                  rw [kl9] at kb8
                  refine pv_iconst (M := mX7_readClause) (v := 1) dX7_readClause_111 112 rfl (by decide) ?_
                  have z252 : (1 : Int32).toInt = 1 := by decide
                  exact pv_iret (M := mX7_readClause) dX7_readClause_112 rfl rfl ⟨_, _, _, rfl, rfl, I244, K245, by decide, by decide, ⟨by omega, by omega, by omega, Or.inl ⟨by decide, by rw [k69, CND_o k40, k93, bnd_ok]; exact (if_pos (by omega)).trans (by rw [show (m211 86 3).toInt + 1 = (m242 86 3).toInt by omega])⟩, fun q => by omega, IFZ.is (CLZ_of (kd := tC m (m 86 3).toInt) zR2 (by omega) (by omega) rfl (by omega) ke1 (by rw [kb1.1]; omega) kb1.2.1 kb1.2.2 kf3b ks2 kb4.1 kb4.2 ks3 ks3f k93z kf6 ks5 ks5f kb8.1 kb8.2 (by omega))⟩⟩
                · have c240 := iv_eq (X := v234.toInt) (Y := 0) c240 rfl (by decide)
                  refine pv_iconst (M := mX7_readClause) (v := 0) dX7_readClause_102 103 rfl (by decide) ?_
                  have z253 : (0 : Int32).toInt = 0 := by decide
                  exact pv_iret (M := mX7_readClause) dX7_readClause_103 rfl rfl ⟨_, _, _, rfl, rfl, I232, K233, by decide, by decide, ⟨by omega, by omega, by omega, (by first | exact Or.inr ⟨by decide, FLT_of (a := 1) (p := (m160 86 3).toInt) (by rw [k69]; exact if_neg (by omega)) (by decide) (by omega)⟩ | exact Or.inr ⟨by decide, FLT_of (a := 1) (p := (m211 86 3).toInt) (by rw [k69, CND_o k40, k93, bnd_ok]; exact if_neg (by omega)) (by decide) (by omega)⟩ | exact Or.inr ⟨by decide, by rw [k69, CND_o k40]; exact FLT_b (RSX_fl k90 (by omega))⟩), fun q => by omega, IFZ.no (by first | decide | omega)⟩⟩
          · have c170 := iv_eq (X := v164.toInt) (Y := 0) c170 rfl (by decide)
            refine pv_iconst (M := mX7_readClause) (v := 0) dX7_readClause_67 68 rfl (by decide) ?_
            have z254 : (0 : Int32).toInt = 0 := by decide
            exact pv_iret (M := mX7_readClause) dX7_readClause_68 rfl rfl ⟨_, _, _, rfl, rfl, I162, K163, by decide, by decide, ⟨by omega, by omega, by omega, Or.inr ⟨by decide, CLA_pf (by omega) (by omega) (RSX_fl k64 (by omega))⟩, fun q => by omega, IFZ.no (by first | decide | omega)⟩⟩
      · have c127 := iv_nlt (X := x0.toInt) (Y := 12) c127 rfl (by decide)
        refine pv_aload_n (M := mX7_readClause) 0 dX7_readClause_29 30 rfl rfl rfl ?_
        refine pv_iconst (M := mX7_readClause) (v := 4) dX7_readClause_30 31 rfl (by decide) ?_
        have z255 : (4 : Int32).toInt = 4 := by decide
        refine pv_callv (M := mX7_readClause) (as := [.int 4]) (st := []) (kc2 := 0) (ks2 := 0) dX7_readClause_31 wd531 YX7_fail ⟨wd533, wd3⟩ (mk_get (tl86 hT)) rfl rfl (s_X7_fail_vz g hT I R 4 (by decide) (by decide) (by first | omega | assumption | exact (iv_rng _).2 | exact (iv_rng _).1 | decide)) rfl rfl (Nat.le_of_ble_eq_true rfl) (by decide) rfl rfl 34 rfl (fun rv h1 q256 => ?_)
        obtain ⟨m257, n258, v261, rfl, rfl, I259, K260, pv261, qv261, rv261⟩ := q256
        replace rv261 : (m 86 3).toInt ≤ (m257 86 3).toInt ∧ (m257 86 3).toInt ≤ (m257 86 2).toInt ∧ (m257 86 2).toInt = (m 86 2).toInt ∧ (v261.toInt = 0 ∧ (m257 86 3).toInt = (m 86 3).toInt ∧ (m257 86 4).toInt = -1000 * (4 : Int) - (m 86 3).toInt) ∧ (m257 lb 7).toInt = (m lb 7).toInt := by have q_ := rv261; (try rw [z255] at q_); exact q_
        have K260c := K260
        have w262 : (m257 86 2).toInt = (m 86 2).toInt := congrArg Int32.toInt (K260 86 2 rfl)
        have K260 := Kp.trans (K260.sub (by first | exact wQ_wZ | exact wQ_86 | exact wQ_r (by omega) (by omega)))
        show PV _ _ _ _ _ _ _ 34 [.ref 86, .int x0, .int v2] [.int v261] _
        exact pv_iret (M := mX7_readClause) dX7_readClause_34 rfl (iv_nz (by omega) (by omega)) ⟨_, _, _, rfl, rfl, I259, K260, by omega, by omega, ⟨by omega, by omega, by omega, Or.inr ⟨by omega, CLA_4 (by omega) (by omega) (by omega)⟩, fun q => by omega, IFZ.no (by first | decide | omega)⟩⟩
    · have c126 := iv_ne (X := v2.toInt) (Y := 112) c126 rfl (by decide)
      refine pv_aload_n (M := mX7_readClause) 0 dX7_readClause_17 18 rfl rfl rfl ?_
      refine pv_iconst (M := mX7_readClause) (v := 1) dX7_readClause_18 19 rfl (by decide) ?_
      have z263 : (1 : Int32).toInt = 1 := by decide
      refine pv_callv (M := mX7_readClause) (as := [.int 1]) (st := []) (kc2 := 0) (ks2 := 0) dX7_readClause_19 wd531 YX7_fail ⟨wd533, wd3⟩ (mk_get (tl86 hT)) rfl rfl (s_X7_fail_vz g hT I R 1 (by decide) (by decide) (by first | omega | assumption | exact (iv_rng _).2 | exact (iv_rng _).1 | decide)) rfl rfl (Nat.le_of_ble_eq_true rfl) (by decide) rfl rfl 22 rfl (fun rv h1 q264 => ?_)
      obtain ⟨m265, n266, v269, rfl, rfl, I267, K268, pv269, qv269, rv269⟩ := q264
      replace rv269 : (m 86 3).toInt ≤ (m265 86 3).toInt ∧ (m265 86 3).toInt ≤ (m265 86 2).toInt ∧ (m265 86 2).toInt = (m 86 2).toInt ∧ (v269.toInt = 0 ∧ (m265 86 3).toInt = (m 86 3).toInt ∧ (m265 86 4).toInt = -1000 * (1 : Int) - (m 86 3).toInt) ∧ (m265 lb 7).toInt = (m lb 7).toInt := by have q_ := rv269; (try rw [z263] at q_); exact q_
      have K268c := K268
      have w270 : (m265 86 2).toInt = (m 86 2).toInt := congrArg Int32.toInt (K268 86 2 rfl)
      have K268 := Kp.trans (K268.sub (by first | exact wQ_wZ | exact wQ_86 | exact wQ_r (by omega) (by omega)))
      show PV _ _ _ _ _ _ _ 22 [.ref 86, .int x0, .int v2] [.int v269] _
      exact pv_iret (M := mX7_readClause) dX7_readClause_22 rfl (iv_nz (by omega) (by omega)) ⟨_, _, _, rfl, rfl, I267, K268, by omega, by omega, ⟨by omega, by omega, by omega, Or.inr ⟨by omega, CLA_1 (by omega) (by omega) (by omega)⟩, fun q => by omega, IFZ.no (by first | decide | omega)⟩⟩

set_option maxHeartbeats 2000000 in
set_option maxRecDepth 20000 in
theorem s_X7_read_vz (g : pv_G) {T : List mv_T} {m : Nat → Nat → Int32} {n : Nat → Nat → Int64} {r : Nat → Value} {la lb : Nat} (hT : TX T) (I : IV BB m) (R : RX T r la lb) (x1 : Int32) (hl1 : 0 ≤ x1.toInt) (hh1 : x1.toInt ≤ 200) (hp0 : 1 ≤ x1.toInt) (hp1 : x1.toInt ≤ 160) : PM g mX7_read yX7_read (sqI T BB (wR lb) r m (-2147483648) 2147483647 (fun m' v => v.toInt = LWA (tK (m 2) x1.toInt) x1.toInt 14 0 0 ∧ RDZ (tK (m 2) x1.toInt) lb m' v.toInt)) 27 0 0 [.ref 86, .ref 2, .int x1] (mk T m n r) := by
  have Kp : fr (wR lb) m m := fr.rf
  have R0 := R
  have zR := R.2.2.2.2.1.1
  have zR2 := R.2.2.2.2.2.1
  have z151 : 0 ≤ (m 86 3).toInt ∧ (m 86 3).toInt ≤ 160 := I 86 3
  have z152 : 0 ≤ (m 86 2).toInt ∧ (m 86 2).toInt ≤ 160 := I 86 2
  refine PM.of 2 (lo := [.ref 86, .ref 2, .int x1, pv_U, pv_U]) rfl (by decide) rfl rfl (Nat.le_of_ble_eq_true rfl) ?_
  refine pv_aload_n (M := mX7_read) 0 dX7_read_0 1 rfl rfl rfl ?_
  refine pv_iconst (M := mX7_read) (v := 0) dX7_read_1 2 rfl (by decide) ?_
  refine pv_iload_n (M := mX7_read) 2 dX7_read_2 3 rfl rfl rfl ?_
  refine pv_aload_n (M := mX7_read) 1 dX7_read_3 4 rfl rfl rfl ?_
  refine pv_alen (M := mX7_read) (v := 200) dX7_read_4 (mk_get (tl2 hT)) (by decide) (show Int32.ofNat 200 = 200 by decide) 5 rfl ?_
  refine pv_sipush (M := mX7_read) (v := 160) dX7_read_5 8 rfl (by decide) ?_
  refine iv_min (M := mX7_read) (X := 200) (Y := 160) dX7_read_8 wd512 Wmmin (Nat.le_of_ble_eq_true rfl) (by decide) (by decide) (by decide) 11 rfl (fun v2 ev2 fv2 gv2 => ?_)
  refine iv_min (M := mX7_read) (X := x1.toInt) (Y := v2.toInt) dX7_read_11 wd512 Wmmin (Nat.le_of_ble_eq_true rfl) (by decide) rfl rfl 14 rfl (fun v3 ev3 fv3 gv3 => ?_)
  refine iv_max (M := mX7_read) (X := 0) (Y := v3.toInt) dX7_read_14 wd515 Wmmax (Nat.le_of_ble_eq_true rfl) (by decide) (by decide) rfl 17 rfl (fun v4 ev4 fv4 gv4 => ?_)
  refine iv_put (M := mX7_read) (l1 := 0) (l2 := 160) dX7_read_17 FX7 2 wd282 (by decide) rfl (tl86 hT) rfl rfl rfl I rfl (by omega) (by omega) 20 rfl (fun m5 e8 I6 => ?_)
  have K7 := Kp.set e8 (by first | rfl | decide)
  have w9 : (m5 86 3).toInt = (m 86 3).toInt := by rw [e8, up2_ne (by omega)]
  have w10 : (m5 86 2).toInt = v4.toInt := by rw [e8, up2_eq]
  have w11 : (m5 86 4).toInt = (m 86 4).toInt := by rw [e8, up2_ne (by omega)]
  have w12 : (m5 lb 7).toInt = (m lb 7).toInt := by rw [e8, up2_ne (by omega)]
  have w13 : (m5 lb 2).toInt = (m lb 2).toInt := by rw [e8, up2_ne (by omega)]
  have k20 : ∀ j, m5 2 j = m 2 j := fun j => by rw [e8, up2_ne (by omega)]
  refine pv_aload_n (M := mX7_read) 1 dX7_read_20 21 rfl rfl rfl ?_
  refine pv_iconst (M := mX7_read) (v := 0) dX7_read_21 22 rfl (by decide) ?_
  refine pv_aload_n (M := mX7_read) 0 dX7_read_22 23 rfl rfl rfl ?_
  refine mv_get (M := mX7_read) (v := .ref 87) dX7_read_23 FX7 0 wd280 (by decide) (tl86 hT) rfl rfl 26 rfl ?_
  refine pv_iconst (M := mX7_read) (v := 0) dX7_read_26 27 rfl (by decide) ?_
  refine pv_aload_n (M := mX7_read) 0 dX7_read_27 28 rfl rfl rfl ?_
  refine iv_get (M := mX7_read) (l1 := 0) (l2 := 160) dX7_read_28 FX7 2 wd282 (by decide) (tl86 hT) rfl I6 rfl 31 rfl (fun v15 ev15 pv15 qv15 => ?_)
  have wv15 : v15.toInt = (m5 86 2).toInt := congrArg Int32.toInt ev15
  refine iv_copyx (M := mX7_read) (X := 0) (Y := 0) (Z := v15.toInt) dX7_read_31 wd516 Wnat Wcst Wcin (tl2 hT) (tl87 hT) (by decide) (by decide) rfl (by omega) (by omega) (by omega) (by omega) (by omega) (Nat.le_of_ble_eq_true rfl) (by decide) I6 (fun _ => rfl) (fun _ => rfl) (by omega) (by omega) 34 rfl (fun m16 e19 rm16 I17 => ?_)
  have K18 := K7.trans (fr_off e19 (fun _ => (by first | rfl | decide)))
  have w20 : (m16 86 3).toInt = (m5 86 3).toInt := by rw [e19 86 (by omega)]
  have w21 : (m16 86 2).toInt = (m5 86 2).toInt := by rw [e19 86 (by omega)]
  have w22 : (m16 86 4).toInt = (m5 86 4).toInt := by rw [e19 86 (by omega)]
  have w23 : (m16 lb 7).toInt = (m5 lb 7).toInt := by rw [e19 lb (by omega)]
  have w24 : (m16 lb 2).toInt = (m5 lb 2).toInt := by rw [e19 lb (by omega)]
  have k34 := rm16
  refine pv_aload_n (M := mX7_read) 0 dX7_read_34 35 rfl rfl rfl ?_
  refine mv_get (M := mX7_read) (v := .ref lb) dX7_read_35 FX7 1 wd281 (by decide) (tl86 hT) rfl R.2.2.2.1 38 rfl ?_
  refine pv_callv (M := mX7_read) (as := []) (st := []) (kc2 := 0) (ks2 := 0) dX7_read_38 wd519 YX6_clear ⟨wd520, wd521⟩ (mk_get R.2.2.2.2.2.2.1) rfl rfl (s_X6_clear_vz g hT I17 lb R.2.2.2.2.2) rfl rfl (Nat.le_of_ble_eq_true rfl) (by decide) rfl rfl 41 rfl (fun rv h1 q26 => ?_)
  obtain ⟨m27, n28, rfl, rfl, I29, K30, rm27⟩ := q26
  replace rm27 : (m27 lb 7).toInt = 0 ∧ (m27 lb 2).toInt = 0 := rm27
  have K30c := K30
  have w31 : (m27 86 3).toInt = (m16 86 3).toInt := congrArg Int32.toInt (K30 86 3 (wr_out (by omega)))
  have w32 : (m27 86 2).toInt = (m16 86 2).toInt := congrArg Int32.toInt (K30 86 2 (wr_out (by omega)))
  have w33 : (m27 86 4).toInt = (m16 86 4).toInt := congrArg Int32.toInt (K30 86 4 (wr_out (by omega)))
  have K30 := K18.trans (K30.sub (by first | exact wR_wQ | exact wR_86 | exact wR_r (by omega) (by omega) | exact wR_l))
  show PV _ _ _ _ _ _ _ 41 [.ref 86, .ref 2, .int x1, pv_U, pv_U] [] _
  refine pv_aload_n (M := mX7_read) 0 dX7_read_41 42 rfl rfl rfl ?_
  refine pv_iconst (M := mX7_read) (v := 0) dX7_read_42 43 rfl (by decide) ?_
  refine iv_put (M := mX7_read) (l1 := 0) (l2 := 160) dX7_read_43 FX7 3 wd283 (by decide) rfl (tl86 hT) rfl rfl rfl I29 rfl (by decide) (by decide) 46 rfl (fun m34 e37 I35 => ?_)
  have K36 := K30.set e37 (by first | rfl | decide)
  have w38 : (m34 86 3).toInt = 0 := by rw [e37, up2_eq] <;> rfl
  have w39 : (m34 86 2).toInt = (m27 86 2).toInt := by rw [e37, up2_ne (by omega)]
  have w40 : (m34 86 4).toInt = (m27 86 4).toInt := by rw [e37, up2_ne (by omega)]
  have w41 : (m34 lb 7).toInt = (m27 lb 7).toInt := by rw [e37, up2_ne (by omega)]
  have w42 : (m34 lb 2).toInt = (m27 lb 2).toInt := by rw [e37, up2_ne (by omega)]
  have k43 : (m34 86 3).toInt = 0 := by omega
  refine pv_aload_n (M := mX7_read) 0 dX7_read_46 47 rfl rfl rfl ?_
  refine pv_iconst (M := mX7_read) (v := 0) dX7_read_47 48 rfl (by decide) ?_
  refine iv_put (M := mX7_read) (l1 := (-2147483648)) (l2 := 2147483647) dX7_read_48 FX7 4 wd284 (by decide) rfl (tl86 hT) rfl rfl rfl I35 rfl (by decide) (by decide) 51 rfl (fun m44 e47 I45 => ?_)
  have K46 := K36.set e47 (by first | rfl | decide)
  have w48 : (m44 86 3).toInt = (m34 86 3).toInt := by rw [e47, up2_ne (by omega)]
  have w49 : (m44 86 2).toInt = (m34 86 2).toInt := by rw [e47, up2_ne (by omega)]
  have w50 : (m44 86 4).toInt = 0 := by rw [e47, up2_eq] <;> rfl
  have w51 : (m44 lb 7).toInt = (m34 lb 7).toInt := by rw [e47, up2_ne (by omega)]
  have w52 : (m44 lb 2).toInt = (m34 lb 2).toInt := by rw [e47, up2_ne (by omega)]
  have kt0 : tC m44 = (tK (m 2) x1.toInt) := tC_K (by omega) (by omega) (fun j hj => by rw [e47, up2_ne (by omega), e37, up2_ne (by omega), K30c 87 j (wr_out (by omega)), k34 j]; unfold va_cpy; rw [if_pos (by omega), k20]; congr 1; omega)
  have k43 : (m44 86 3).toInt = 0 := by omega
  refine pv_iconst (M := mX7_read) (v := 1) dX7_read_51 52 rfl (by decide) ?_
  refine pv_istore_n (M := mX7_read) 3 (lo2 := [.ref 86, .ref 2, .int x1, .int 1, pv_U]) dX7_read_52 53 rfl rfl (by decide) rfl rfl ?_
  refine pv_iconst (M := mX7_read) (v := 0) dX7_read_53 54 rfl (by decide) ?_
  refine pv_istore (M := mX7_read) (lo2 := [.ref 86, .ref 2, .int x1, .int 1, .int 0]) dX7_read_54 56 rfl (by decide) rfl rfl ?_
  have lp62 : ∀ (fuel61 : Nat) (y55 : Int32) (y56 : Int32) (m57 : Nat → Nat → Int32) (n58 : Nat → Nat → Int64), (0 ≤ y55.toInt) → (y55.toInt ≤ 1) → (0 ≤ y56.toInt) → (y56.toInt ≤ 12) → ((m57 86 3).toInt ≤ (m57 86 2).toInt) → ((m57 86 2).toInt = x1.toInt) → ((m57 lb 7).toInt = y56.toInt) → (tC m57 = (tK (m 2) x1.toInt)) → ((y55).toInt ≠ 0 → LWA (tK (m 2) x1.toInt) x1.toInt 14 0 0 = LWA (tK (m 2) x1.toInt) x1.toInt (14 - y56.toInt).toNat y56.toInt (m57 86 3).toInt) → ((y55).toInt = 0 → LWA (tK (m 2) x1.toInt) x1.toInt 14 0 0 = y56.toInt) → ((m57 lb 2).toInt ≤ (m57 86 3).toInt) → (LAWc m57 lb (tK (m 2) x1.toInt) y56.toInt.toNat) → (IFZ (y55).toInt ((m57 86 3).toInt = cps (tK (m 2) x1.toInt) y56.toInt.toNat)) → IV BB m57 → fr (wR lb) m m57 → ((12 - y56.toInt) : Int).toNat < fuel61 → PV none g mX7_read (sqI T BB (wR lb) r m (-2147483648) 2147483647 (fun m' v => v.toInt = LWA (tK (m 2) x1.toInt) x1.toInt 14 0 0 ∧ RDZ (tK (m 2) x1.toInt) lb m' v.toInt)) 27 0 0 56 [.ref 86, .ref 2, .int x1, .int y55, .int y56] [] (mk T m57 n58 r) := by
    intro fuel61
    induction fuel61 with
    | zero => intro y55 y56 m57 n58 b64 b65 b66 b67 b68 b69 b70 b71 b72 b73 b74 b75 b76 I59 K60 z77; omega
    | succ fuel61 ih63 =>
      intro y55 y56 m57 n58 b64 b65 b66 b67 b68 b69 b70 b71 b72 b73 b74 b75 b76 I59 K60 z77
      have z78 : 0 ≤ (m57 86 3).toInt ∧ (m57 86 3).toInt ≤ 160 := I59 86 3
      have z79 : 0 ≤ (m57 86 2).toInt ∧ (m57 86 2).toInt ≤ 160 := I59 86 2
      have kgt := (show tC m57 = (tK (m 2) x1.toInt) by assumption)
      have kg1 := (show (y55).toInt ≠ 0 → LWA (tK (m 2) x1.toInt) x1.toInt 14 0 0 = LWA (tK (m 2) x1.toInt) x1.toInt (14 - y56.toInt).toNat y56.toInt (m57 86 3).toInt by assumption)
      have kg0 := (show (y55).toInt = 0 → LWA (tK (m 2) x1.toInt) x1.toInt 14 0 0 = y56.toInt by assumption)
      have kTB : TBC m57 := TBC_K I kgt
      have kgl := (show LAWc m57 lb (tK (m 2) x1.toInt) y56.toInt.toNat by assumption)
      have kgp := (show IFZ (y55).toInt ((m57 86 3).toInt = cps (tK (m 2) x1.toInt) y56.toInt.toNat) by assumption)
      have kg6 : ∀ c, 0 ≤ (m57 (lb + 6) c).toInt := fun c => by have q := I59 (lb + 6) c; rw [law_c6 R.2.2.2.2.2] at q; exact q.1
      refine pv_iload (M := mX7_read) dX7_read_56 58 rfl rfl ?_
      refine pv_bipush (M := mX7_read) (v := 12) dX7_read_58 60 rfl (by decide) ?_
      refine pv_icmp_gt (M := mX7_read) (tgt := 122) dX7_read_60 63 rfl (by decide) (fun c87 => ?_) (fun c87 => ?_)
      · have c87 := iv_lt (X := 12) (Y := y56.toInt) c87 (by decide) rfl
        omega
      · have c87 := iv_nlt (X := 12) (Y := y56.toInt) c87 (by decide) rfl
        refine pv_iload_n (M := mX7_read) 3 dX7_read_63 64 rfl rfl rfl ?_
        refine pv_if_eq (M := mX7_read) (tgt := 122) dX7_read_64 67 rfl (by decide) (fun c88 => ?_) (fun c88 => ?_)
        · have c88 := iv_eq (X := y55.toInt) (Y := 0) c88 rfl (by decide)
          refine pv_aload_n (M := mX7_read) 0 dX7_read_122 123 rfl rfl rfl ?_
          refine mv_get (M := mX7_read) (v := .ref lb) dX7_read_123 FX7 1 wd281 (by decide) (tl86 hT) rfl R.2.2.2.1 126 rfl ?_
          refine iv_get (M := mX7_read) (l1 := 0) (l2 := 12) dX7_read_126 FX6 7 wd241 (by decide) R.2.2.2.2.2.2.1 rfl I59 (law_b7 R.2.2.2.2.2) 129 rfl (fun v89 ev89 pv89 qv89 => ?_)
          have wv89 : v89.toInt = (m57 lb 7).toInt := congrArg Int32.toInt ev89
          have k129 : v89.toInt = (m57 lb 7).toInt := congrArg Int32.toInt ev89
          exact pv_iret (M := mX7_read) dX7_read_129 rfl rfl ⟨_, _, _, rfl, rfl, I59, K60, (iv_rng v89).1, (iv_rng v89).2, ⟨(show v89.toInt = LWA (tK (m 2) x1.toInt) x1.toInt 14 0 0 from by first | (rw [kg0 (by omega)]; omega) | (exfalso; omega)), fun _ => ⟨by rw [show v89.toInt.toNat = y56.toInt.toNat by omega]; exact kgl, by omega⟩⟩⟩
        · have c88 := iv_ne (X := y55.toInt) (Y := 0) c88 rfl (by decide)
          have kg1b := kg1 (by omega)
          have kgp2 := IFZ.get kgp (by omega)
          refine pv_aload_n (M := mX7_read) 0 dX7_read_67 68 rfl rfl rfl ?_
          refine pv_iload (M := mX7_read) dX7_read_68 70 rfl rfl ?_
          refine pv_callv (M := mX7_read) (as := [.int y56]) (st := []) (kc2 := 0) (ks2 := 0) dX7_read_70 wd523 YX7_readClause ⟨wd525, wd1⟩ (mk_get (tl86 hT)) rfl rfl (s_X7_readClause_vz g hT I59 R y56 (by omega) (by omega) (by first | omega | assumption | exact (iv_rng _).2 | exact (iv_rng _).1 | decide) kTB (by omega) (by first | omega | assumption | exact (iv_rng _).2 | exact (iv_rng _).1 | decide)) rfl rfl (Nat.le_of_ble_eq_true rfl) (by decide) rfl rfl 73 rfl (fun rv h1 q93 => ?_)
          obtain ⟨m94, n95, v98, rfl, rfl, I96, K97, pv98, qv98, rv98⟩ := q93
          replace rv98 : (m57 86 3).toInt ≤ (m94 86 3).toInt ∧ (m94 86 3).toInt ≤ (m94 86 2).toInt ∧ (m94 86 2).toInt = (m57 86 2).toInt ∧ (RSX (CLA (tC m57) y56.toInt (m57 86 3).toInt) v98.toInt (m94 86 3).toInt (m94 86 4).toInt) ∧ (v98.toInt ≠ 0 → (m94 lb 7).toInt = y56.toInt + 1 ∧ y56.toInt < 12) ∧ IFZ v98.toInt (CLZ (tC m57) lb y56.toInt.toNat m57 m94 (m57 86 3).toInt (m94 86 3).toInt) := rv98
          have K97c := K97
          have K97 := K60.trans (K97.sub (by first | exact wR_wQ | exact wR_86 | exact wR_r (by omega) (by omega) | exact wR_l))
          show PV _ _ _ _ _ _ _ 73 [.ref 86, .ref 2, .int x1, .int y55, .int y56] [.int v98] _
          have k73 := rv98.2.2.2.1
          have k73b := rv98.2.2.2.2.1
          have k73z := rv98.2.2.2.2.2
          rw [kgt] at k73 k73z
          have kt73 : tC m94 = (tK (m 2) x1.toInt) := (tC_fq zR2 K97c).trans kgt
          refine pv_if_ne (M := mX7_read) (tgt := 81) dX7_read_73 76 rfl (by decide) (fun c104 => ?_) (fun c104 => ?_)
          · have c104 := iv_ne (X := v98.toInt) (Y := 0) c104 rfl (by decide)
            have k81 := RSX_ok k73 (by omega)
            have k81b := k73b (by omega)
            have k81c : LWA (tK (m 2) x1.toInt) x1.toInt 14 0 0 = LWC (tK (m 2) x1.toInt) x1.toInt (13 - y56.toInt).toNat (y56.toInt + 1) (m94 86 3).toInt := by rw [kg1b, show (14 - y56.toInt).toNat = (13 - y56.toInt).toNat + 1 by omega, LWA_o k81]
            have k81z := IFZ.get k73z (by omega)
            have k81w : LAWc m94 lb (tK (m 2) x1.toInt) (y56.toInt.toNat + 1) := LAWc_s kgl k81z kgp2 rfl kg6
            have k81y := k81z.2.2
            refine pv_aload_n (M := mX7_read) 0 dX7_read_81 82 rfl rfl rfl ?_
            refine iv_get (M := mX7_read) (l1 := 0) (l2 := 160) dX7_read_82 FX7 3 wd283 (by decide) (tl86 hT) rfl I96 rfl 85 rfl (fun v111 ev111 pv111 qv111 => ?_)
            have wv111 : v111.toInt = (m94 86 3).toInt := congrArg Int32.toInt ev111
            refine pv_aload_n (M := mX7_read) 0 dX7_read_85 86 rfl rfl rfl ?_
            refine iv_get (M := mX7_read) (l1 := 0) (l2 := 160) dX7_read_86 FX7 2 wd282 (by decide) (tl86 hT) rfl I96 rfl 89 rfl (fun v112 ev112 pv112 qv112 => ?_)
            have wv112 : v112.toInt = (m94 86 2).toInt := congrArg Int32.toInt ev112
            refine pv_icmp_ge (M := mX7_read) (tgt := 96) dX7_read_89 92 rfl (by decide) (fun c113 => ?_) (fun c113 => ?_)
            · have c113 := iv_le (X := v112.toInt) (Y := v111.toInt) c113 rfl rfl
              refine pv_iconst (M := mX7_read) (v := 0) dX7_read_96 97 rfl (by decide) ?_
              refine pv_istore_n (M := mX7_read) 3 (lo2 := [.ref 86, .ref 2, .int x1, .int 0, .int y56]) dX7_read_97 98 rfl rfl (by decide) rfl rfl ?_
              refine pv_iload_n (M := mX7_read) 3 dX7_read_98 99 rfl rfl rfl ?_
              refine pv_if_eq (M := mX7_read) (tgt := 116) dX7_read_99 102 rfl (by decide) (fun _ => ?_) (fun q => absurd (by decide) q)
              refine iv_inc (M := mX7_read) (C := 1) dX7_read_116 119 rfl rfl (by decide) rfl rfl (by decide) (by omega) (by omega) (fun v115 ev115 => ?_)
              show PV _ _ _ _ _ _ _ 119 [.ref 86, .ref 2, .int x1, .int 0, .int v115] [] _
              refine pv_goto (M := mX7_read) (tgt := 56) dX7_read_119 (by decide) ?_
              have z116 : (0 : Int32).toInt = 0 := by decide
              have ktb : tC m94 = (tK (m 2) x1.toInt) := by first | exact kt108 | exact kt73
              have kb1 : ((0 : Int32)).toInt ≠ 0 → LWA (tK (m 2) x1.toInt) x1.toInt 14 0 0 = LWA (tK (m 2) x1.toInt) x1.toInt (14 - v115.toInt).toNat v115.toInt (m94 86 3).toInt := fun q => by first | (rw [k81c, LWC_y (by omega) (by omega), show (m94 86 3).toInt + 1 = (m94 86 3).toInt by omega, show (13 - y56.toInt).toNat = (14 - v115.toInt).toNat by omega, show y56.toInt + 1 = v115.toInt by omega]) | (exfalso; omega)
              have kb0 : ((0 : Int32)).toInt = 0 → LWA (tK (m 2) x1.toInt) x1.toInt 14 0 0 = v115.toInt := fun q => by first | (exfalso; omega) | (rw [k81c, LWC_e (by omega)]; omega)
              have kbl : LAWc m94 lb (tK (m 2) x1.toInt) v115.toInt.toNat := by rw [show v115.toInt.toNat = (y56.toInt).toNat + 1 by omega]; first | exact kw108 | exact k81w
              have kbp : IFZ ((0 : Int32)).toInt ((m94 86 3).toInt = cps (tK (m 2) x1.toInt) v115.toInt.toNat) := by first | exact IFZ.is (cps_s (c := (y56.toInt).toNat) (a := (m94 86 3).toInt) (by rw [show (((y56.toInt).toNat : Nat) : Int) = y56.toInt by omega]; exact k81) kgp2 (by omega) (by omega)) | exact IFZ.no (by omega)
              exact ih63 0 v115 m94 n95 (by first | omega | assumption | exact (iv_rng _).2 | exact (iv_rng _).1 | decide) (by first | omega | assumption | exact (iv_rng _).2 | exact (iv_rng _).1 | decide) (by first | omega | assumption | exact (iv_rng _).2 | exact (iv_rng _).1 | decide) (by first | omega | assumption | exact (iv_rng _).2 | exact (iv_rng _).1 | decide) (by first | omega | assumption | (show (m94 86 3).toInt ≤ (m94 86 2).toInt; omega) | decide) (by first | omega | assumption | (show (m94 86 2).toInt = x1.toInt; omega) | decide) (by first | omega | assumption | (show (m94 lb 7).toInt = v115.toInt; omega) | decide) ktb kb1 kb0 (by first | omega | assumption | (show (m94 lb 2).toInt ≤ (m94 86 3).toInt; omega) | decide) kbl kbp I96 K97 (by omega)
            · have c113 := iv_nle (X := v112.toInt) (Y := v111.toInt) c113 rfl rfl
              refine pv_iconst (M := mX7_read) (v := 1) dX7_read_92 93 rfl (by decide) ?_
              refine pv_goto (M := mX7_read) (tgt := 97) dX7_read_93 (by decide) ?_
              refine pv_istore_n (M := mX7_read) 3 (lo2 := [.ref 86, .ref 2, .int x1, .int 1, .int y56]) dX7_read_97 98 rfl rfl (by decide) rfl rfl ?_
              refine pv_iload_n (M := mX7_read) 3 dX7_read_98 99 rfl rfl rfl ?_
              refine pv_if_eq (M := mX7_read) (tgt := 116) dX7_read_99 102 rfl (by decide) (fun q => absurd q (by decide)) (fun _ => ?_)
              refine pv_aload_n (M := mX7_read) 0 dX7_read_102 103 rfl rfl rfl ?_
              refine pv_bipush (M := mX7_read) (v := 59) dX7_read_103 105 rfl (by decide) ?_
              have z123 : (59 : Int32).toInt = 59 := by decide
              refine pv_callv (M := mX7_read) (as := [.int 59]) (st := []) (kc2 := 0) (ks2 := 0) dX7_read_105 wd555 YX7_pass ⟨wd557, wd8⟩ (mk_get (tl86 hT)) rfl rfl (s_X7_pass_vz g hT I96 R 59 (by decide) (by decide) (by first | omega | assumption | exact (iv_rng _).2 | exact (iv_rng _).1 | decide)) rfl rfl (Nat.le_of_ble_eq_true rfl) (by decide) rfl rfl 108 rfl (fun rv h1 q124 => ?_)
              obtain ⟨m125, n126, v129, rfl, rfl, I127, K128, pv129, qv129, rv129⟩ := q124
              replace rv129 : (m94 86 3).toInt ≤ (m125 86 3).toInt ∧ (m125 86 3).toInt ≤ (m125 86 2).toInt ∧ (m125 86 2).toInt = (m94 86 2).toInt ∧ ((v129.toInt = 1 ∧ tC m94 (m94 86 3).toInt = (59 : Int) ∧ (m125 86 3).toInt = (m94 86 3).toInt + 1) ∨ (v129.toInt = 0 ∧ tC m94 (m94 86 3).toInt ≠ (59 : Int) ∧ (m125 86 4).toInt = -1000 - (m94 86 3).toInt ∧ (m125 86 3).toInt = (m94 86 3).toInt)) ∧ (m125 lb 7).toInt = (m94 lb 7).toInt := by have q_ := rv129; (try rw [z123] at q_); exact q_
              have K128c := K128
              have w130 : (m125 86 2).toInt = (m94 86 2).toInt := congrArg Int32.toInt (K128 86 2 rfl)
              have K128 := K97.trans (K128.sub (by first | exact wR_wQ | exact wR_86 | exact wR_r (by omega) (by omega) | exact wR_l))
              show PV _ _ _ _ _ _ _ 108 [.ref 86, .ref 2, .int x1, .int 1, .int y56] [.int v129] _
              have k108 := rv129.2.2.2.1
              rw [kt73] at k108
              have kt108 : tC m125 = (tK (m 2) x1.toInt) := (tC_eq (K128c 86 2 rfl) (fun j => K128c 87 j rfl)).trans kt73
              have ks108 : SAML lb m94 m125 := SAML.fz zR2 K128c
              have kl108 : (m125 lb 2).toInt = (m94 lb 2).toInt := congrArg Int32.toInt ks108.1
              have kw108 : LAWc m125 lb (tK (m 2) x1.toInt) (y56.toInt.toNat + 1) := LAWc_m k81w ks108.1 (fun a j h1 h2 => K128c a j (by unfold wz86; rw [beq_false_of_ne (show a ≠ 86 by omega)]; rfl))
              refine pv_if_ne (M := mX7_read) (tgt := 116) dX7_read_108 111 rfl (by decide) (fun c137 => ?_) (fun c137 => ?_)
              · have c137 := iv_ne (X := v129.toInt) (Y := 0) c137 rfl (by decide)
                refine iv_inc (M := mX7_read) (C := 1) dX7_read_116 119 rfl rfl (by decide) rfl rfl (by decide) (by omega) (by omega) (fun v138 ev138 => ?_)
                show PV _ _ _ _ _ _ _ 119 [.ref 86, .ref 2, .int x1, .int 1, .int v138] [] _
                refine pv_goto (M := mX7_read) (tgt := 56) dX7_read_119 (by decide) ?_
                have z139 : (1 : Int32).toInt = 1 := by decide
                have ktb : tC m125 = (tK (m 2) x1.toInt) := by first | exact kt108 | exact kt73
                have kb1 : ((1 : Int32)).toInt ≠ 0 → LWA (tK (m 2) x1.toInt) x1.toInt 14 0 0 = LWA (tK (m 2) x1.toInt) x1.toInt (14 - v138.toInt).toNat v138.toInt (m125 86 3).toInt := fun q => by first | (rw [k81c, LWC_y (by omega) (by omega), show (m94 86 3).toInt + 1 = (m125 86 3).toInt by omega, show (13 - y56.toInt).toNat = (14 - v138.toInt).toNat by omega, show y56.toInt + 1 = v138.toInt by omega]) | (exfalso; omega)
                have kb0 : ((1 : Int32)).toInt = 0 → LWA (tK (m 2) x1.toInt) x1.toInt 14 0 0 = v138.toInt := fun q => by first | (exfalso; omega) | (rw [k81c, LWC_e (by omega)]; omega)
                have kbl : LAWc m125 lb (tK (m 2) x1.toInt) v138.toInt.toNat := by rw [show v138.toInt.toNat = (y56.toInt).toNat + 1 by omega]; first | exact kw108 | exact k81w
                have kbp : IFZ ((1 : Int32)).toInt ((m125 86 3).toInt = cps (tK (m 2) x1.toInt) v138.toInt.toNat) := by first | exact IFZ.is (cps_s (c := (y56.toInt).toNat) (a := (m94 86 3).toInt) (by rw [show (((y56.toInt).toNat : Nat) : Int) = y56.toInt by omega]; exact k81) kgp2 (by omega) (by omega)) | exact IFZ.no (by omega)
                exact ih63 1 v138 m125 n126 (by first | omega | assumption | exact (iv_rng _).2 | exact (iv_rng _).1 | decide) (by first | omega | assumption | exact (iv_rng _).2 | exact (iv_rng _).1 | decide) (by first | omega | assumption | exact (iv_rng _).2 | exact (iv_rng _).1 | decide) (by first | omega | assumption | exact (iv_rng _).2 | exact (iv_rng _).1 | decide) (by first | omega | assumption | (show (m125 86 3).toInt ≤ (m125 86 2).toInt; omega) | decide) (by first | omega | assumption | (show (m125 86 2).toInt = x1.toInt; omega) | decide) (by first | omega | assumption | (show (m125 lb 7).toInt = v138.toInt; omega) | decide) ktb kb1 kb0 (by first | omega | assumption | (show (m125 lb 2).toInt ≤ (m125 86 3).toInt; omega) | decide) kbl kbp I127 K128 (by omega)
              · have c137 := iv_eq (X := v129.toInt) (Y := 0) c137 rfl (by decide)
                refine pv_aload_n (M := mX7_read) 0 dX7_read_111 112 rfl rfl rfl ?_
                refine iv_get (M := mX7_read) (l1 := (-2147483648)) (l2 := 2147483647) dX7_read_112 FX7 4 wd284 (by decide) (tl86 hT) rfl I127 rfl 115 rfl (fun v145 ev145 pv145 qv145 => ?_)
                have wv145 : v145.toInt = (m125 86 4).toInt := congrArg Int32.toInt ev145
                have k115 : v145.toInt = (m125 86 4).toInt := congrArg Int32.toInt ev145
                exact pv_iret (M := mX7_read) dX7_read_115 rfl rfl ⟨_, _, _, rfl, rfl, I127, K128, (iv_rng v145).1, (iv_rng v145).2, ⟨(show v145.toInt = LWA (tK (m 2) x1.toInt) x1.toInt 14 0 0 from by rw [k81c, LWC_n (f := (m125 86 4).toInt) (by omega) (by omega) (by omega)]; exact k115), RDZ_no (by omega)⟩⟩
          · have c104 := iv_eq (X := v98.toInt) (Y := 0) c104 rfl (by decide)
            refine pv_aload_n (M := mX7_read) 0 dX7_read_76 77 rfl rfl rfl ?_
            refine iv_get (M := mX7_read) (l1 := (-2147483648)) (l2 := 2147483647) dX7_read_77 FX7 4 wd284 (by decide) (tl86 hT) rfl I96 rfl 80 rfl (fun v147 ev147 pv147 qv147 => ?_)
            have wv147 : v147.toInt = (m94 86 4).toInt := congrArg Int32.toInt ev147
            have k80 : v147.toInt = (m94 86 4).toInt := congrArg Int32.toInt ev147
            exact pv_iret (M := mX7_read) dX7_read_80 rfl rfl ⟨_, _, _, rfl, rfl, I96, K97, (iv_rng v147).1, (iv_rng v147).2, ⟨(show v147.toInt = LWA (tK (m 2) x1.toInt) x1.toInt 14 0 0 from by rw [kg1b, show (14 - y56.toInt).toNat = (13 - y56.toInt).toNat + 1 by omega, LWA_f (RSX_fl k73 (by omega))]; exact k80), RDZ_no (by have q := FLT_neg (RSX_fl k73 (by omega)) CLA_ge (by omega); omega)⟩⟩
  have z149 : (1 : Int32).toInt = 1 := by decide
  have z150 : (0 : Int32).toInt = 0 := by decide
  exact lp62 (((12 - 0) : Int).toNat + 1) 1 0 m44 n28 (by first | omega | assumption | exact (iv_rng _).2 | exact (iv_rng _).1 | decide) (by first | omega | assumption | exact (iv_rng _).2 | exact (iv_rng _).1 | decide) (by first | omega | assumption | exact (iv_rng _).2 | exact (iv_rng _).1 | decide) (by first | omega | assumption | exact (iv_rng _).2 | exact (iv_rng _).1 | decide) (by first | omega | assumption | (show (m44 86 3).toInt ≤ (m44 86 2).toInt; omega) | decide) (by first | omega | assumption | (show (m44 86 2).toInt = x1.toInt; omega) | decide) (by first | omega | assumption | (show (m44 lb 7).toInt = 0; omega) | decide) kt0 (fun _ => by rw [k43, Int32.toInt_zero]; rfl) (fun q => absurd q (by decide)) (by first | omega | assumption | (show (m44 lb 2).toInt ≤ (m44 86 3).toInt; omega) | decide) (by rw [Int32.toInt_zero]; exact LAWc_0) (IFZ.is (by rw [k43, Int32.toInt_zero]; rfl)) I45 K46 (by omega)
