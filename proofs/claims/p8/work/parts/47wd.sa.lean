set_option maxHeartbeats 2000000 in
set_option maxRecDepth 20000 in
theorem s_X0_mark_va (g : pv_G) {T : List mv_T} {m : Nat → Nat → Int32} {n : Nat → Nat → Int64} {r : Nat → Value} (hT : TX T) (I : IV BB m) (aT : Nat) (haT : BlankAt T aT) (x0 : Int32) (x1 : Int32) (hl1 : 0 ≤ x1.toInt) (hh1 : x1.toInt ≤ 1) (hp0 : 0 ≤ x0.toInt) (hp1 : x0.toInt < (m (aT + 1) 1).toInt) : PM g mX0_mark yX0_mark (sqV T BB (wl [((aT + 6), (aT + 6), none)]) r m (fun m' => ∀ w, m' (aT + 6) w = if w = x0.toInt.toNat then x1 else m (aT + 6) w)) 1 0 0 [.ref aT, .int x0, .int x1] (mk T m n r) := by
  have Kp : fr (wl [((aT + 6), (aT + 6), none)]) m m := fr.rf
  have zbT := haT.2.2.2.2.2.2.2
  refine PM.of 0 (lo := [.ref aT, .int x0, .int x1]) rfl (by decide) rfl rfl (Nat.le_of_ble_eq_true rfl) ?_
  refine pv_iload_n (M := mX0_mark) 1 dX0_mark_0 1 rfl rfl rfl ?_
  refine pv_if_lt (M := mX0_mark) (tgt := 22) dX0_mark_1 4 rfl (by decide) (fun c1 => ?_) (fun c1 => ?_)
  · have c1 := iv_lt (X := x0.toInt) (Y := 0) c1 rfl (by decide)
    exact pv_vret (M := mX0_mark) dX0_mark_22 rfl ⟨_, _, rfl, rfl, I, Kp, (by first | (exfalso; omega) | exact fun w => by rw [noE]; exact up2_rw)⟩
  · have c1 := iv_nlt (X := x0.toInt) (Y := 0) c1 rfl (by decide)
    refine pv_iload_n (M := mX0_mark) 1 dX0_mark_4 5 rfl rfl rfl ?_
    refine pv_aload_n (M := mX0_mark) 0 dX0_mark_5 6 rfl rfl rfl ?_
    refine mv_get (M := mX0_mark) (v := .ref (aT + 1)) dX0_mark_6 FX0 0 wd207 (by decide) haT.1 rfl rfl 9 rfl ?_
    refine iv_get (M := mX0_mark) (l1 := 0) (l2 := 40) dX0_mark_9 FX8 1 wd195 (by decide) haT.2.1.1 rfl I haT.2.1.2.2.1 12 rfl (fun v2 ev2 pv2 qv2 => ?_)
    have wv2 : v2.toInt = (m (aT + 1) 1).toInt := congrArg Int32.toInt ev2
    refine pv_icmp_ge (M := mX0_mark) (tgt := 22) dX0_mark_12 15 rfl (by decide) (fun c3 => ?_) (fun c3 => ?_)
    · have c3 := iv_le (X := v2.toInt) (Y := x0.toInt) c3 rfl rfl
      exact pv_vret (M := mX0_mark) dX0_mark_22 rfl ⟨_, _, rfl, rfl, I, Kp, (by first | (exfalso; omega) | exact fun w => by rw [noE]; exact up2_rw)⟩
    · have c3 := iv_nle (X := v2.toInt) (Y := x0.toInt) c3 rfl rfl
      refine pv_aload_n (M := mX0_mark) 0 dX0_mark_15 16 rfl rfl rfl ?_
      refine mv_get (M := mX0_mark) (v := .ref (aT + 6)) dX0_mark_16 FX0 3 wd213 (by decide) haT.1 rfl rfl 19 rfl ?_
      refine pv_iload_n (M := mX0_mark) 1 dX0_mark_19 20 rfl rfl rfl ?_
      refine pv_iload_n (M := mX0_mark) 2 dX0_mark_20 21 rfl rfl rfl ?_
      refine iv_zast (M := mX0_mark) (X := x0.toInt) (l1 := 0) (l2 := 1) dX0_mark_21 haT.2.2.2.2.2.1 rfl (by omega) (by omega) I haT.2.2.2.2.2.2.1 (y := x1) (iv_nzz (by omega) (by omega)) (by omega) (by omega) 22 rfl (fun m4 e7 I5 => ?_)
      have K6 := Kp.set e7 (wl_r (by omega) (by omega))
      have w8 : (m4 (aT + 1) 1).toInt = (m (aT + 1) 1).toInt := by rw [e7, up2_ne (by omega)]
      exact pv_vret (M := mX0_mark) dX0_mark_22 rfl ⟨_, _, rfl, rfl, I5, K6, (by first | (exfalso; omega) | exact fun w => by rw [e7]; exact up2_rw)⟩

set_option maxHeartbeats 2000000 in
set_option maxRecDepth 20000 in
theorem s_X1_hasRoom_va (g : pv_G) {T : List mv_T} {m : Nat → Nat → Int32} {n : Nat → Nat → Int64} {r : Nat → Value} (hT : TX T) (I : IV BB m) (x0 : Int32) (hl0 : 0 ≤ x0.toInt) (hh0 : x0.toInt ≤ 1000) : PM g mX1_hasRoom yX1_hasRoom (sqP (mk T m n r) 0 1 (fun v => (v.toInt = 1 ∧ (m 97 6).toInt + x0.toInt ≤ 60) ∨ (v.toInt = 0 ∧ 60 < (m 97 6).toInt + x0.toInt))) 1 0 0 [.ref 97, .int x0] (mk T m n r) := by
  have Kp : fr (wl []) m m := fr.rf
  have z6 : 0 ≤ (m 97 6).toInt ∧ (m 97 6).toInt ≤ 60 := I 97 6
  refine PM.of 0 (lo := [.ref 97, .int x0]) rfl (by decide) rfl rfl (Nat.le_of_ble_eq_true rfl) ?_
  refine pv_aload_n (M := mX1_hasRoom) 0 dX1_hasRoom_0 1 rfl rfl rfl ?_
  refine iv_get (M := mX1_hasRoom) (l1 := 0) (l2 := 60) dX1_hasRoom_1 FX1 6 wd309 (by decide) (tl97 hT) rfl I rfl 4 rfl (fun v1 ev1 pv1 qv1 => ?_)
  have wv1 : v1.toInt = (m 97 6).toInt := congrArg Int32.toInt ev1
  refine pv_iload_n (M := mX1_hasRoom) 1 dX1_hasRoom_4 5 rfl rfl rfl ?_
  refine iv_iadd (M := mX1_hasRoom) (X := v1.toInt) (Y := x0.toInt) dX1_hasRoom_5 6 rfl rfl rfl (by omega) (by omega) (fun v2 ev2 => ?_)
  refine pv_bipush (M := mX1_hasRoom) (v := 60) dX1_hasRoom_6 8 rfl (by decide) ?_
  refine pv_icmp_gt (M := mX1_hasRoom) (tgt := 15) dX1_hasRoom_8 11 rfl (by decide) (fun c3 => ?_) (fun c3 => ?_)
  · have c3 := iv_lt (X := 60) (Y := v2.toInt) c3 (by decide) rfl
    refine pv_iconst (M := mX1_hasRoom) (v := 0) dX1_hasRoom_15 16 rfl (by decide) ?_
    have z4 : (0 : Int32).toInt = 0 := by decide
    exact pv_iret (M := mX1_hasRoom) dX1_hasRoom_16 rfl rfl ⟨_, rfl, rfl, by decide, by decide, (Or.inr ⟨by decide, by omega⟩)⟩
  · have c3 := iv_nlt (X := 60) (Y := v2.toInt) c3 (by decide) rfl
    refine pv_iconst (M := mX1_hasRoom) (v := 1) dX1_hasRoom_11 12 rfl (by decide) ?_
    refine pv_goto (M := mX1_hasRoom) (tgt := 16) dX1_hasRoom_12 (by decide) ?_
    have z5 : (1 : Int32).toInt = 1 := by decide
    exact pv_iret (M := mX1_hasRoom) dX1_hasRoom_16 rfl rfl ⟨_, rfl, rfl, by decide, by decide, (Or.inl ⟨by decide, by omega⟩)⟩

set_option maxHeartbeats 2000000 in
set_option maxRecDepth 20000 in
theorem s_X1_begin_va (g : pv_G) {T : List mv_T} {m : Nat → Nat → Int32} {n : Nat → Nat → Int64} {r : Nat → Value} (hT : TX T) (I : IV BB m) (x0 : Int32) (x1 : Int32) (x2 : Int32) (hp0 : (m 97 6).toInt ≤ 59) : PM g mX1_begin yX1_begin (sqV T BB (wl [(97, 97, some 6), (98, 98, none), (99, 99, none), (100, 100, none), (101, 101, none), (102, 102, none)]) r m (fun m' => BGN m m' x0 x1 x2)) 2 0 0 [.ref 97, .int x0, .int x1, .int x2] (mk T m n r) := by
  have Kp : fr (wl [(97, 97, some 6), (98, 98, none), (99, 99, none), (100, 100, none), (101, 101, none), (102, 102, none)]) m m := fr.rf
  have z42 : 0 ≤ (m 97 6).toInt ∧ (m 97 6).toInt ≤ 60 := I 97 6
  refine PM.of 0 (lo := [.ref 97, .int x0, .int x1, .int x2]) rfl (by decide) rfl rfl (Nat.le_of_ble_eq_true rfl) ?_
  refine pv_aload_n (M := mX1_begin) 0 dX1_begin_0 1 rfl rfl rfl ?_
  refine pv_iconst (M := mX1_begin) (v := 1) dX1_begin_1 2 rfl (by decide) ?_
  have z1 : (1 : Int32).toInt = 1 := by decide
  refine pv_callv (M := mX1_begin) (as := [.int 1]) (st := []) (kc2 := 0) (ks2 := 0) dX1_begin_2 wd785 YX1_hasRoom ⟨wd774, wd775⟩ (mk_get (tl97 hT)) rfl rfl (s_X1_hasRoom_va g hT I 1 (by decide) (by decide)) rfl rfl (Nat.le_of_ble_eq_true rfl) (by decide) rfl rfl 5 rfl (fun rv h1 q2 => ?_)
  obtain ⟨v3, rfl, rfl, pv3, qv3, rv3⟩ := q2
  replace rv3 : (v3.toInt = 1 ∧ (m 97 6).toInt + (1 : Int) ≤ 60) ∨ (v3.toInt = 0 ∧ 60 < (m 97 6).toInt + (1 : Int)) := by have q_ := rv3; (try rw [z1] at q_); exact q_
  show PV _ _ _ _ _ _ _ 5 [.ref 97, .int x0, .int x1, .int x2] [.int v3] _
  refine pv_if_eq (M := mX1_begin) (tgt := 68) dX1_begin_5 8 rfl (by decide) (fun c4 => ?_) (fun c4 => ?_)
  · have c4 := iv_eq (X := v3.toInt) (Y := 0) c4 rfl (by decide)
    exact pv_vret (M := mX1_begin) dX1_begin_68 rfl ⟨_, _, rfl, rfl, I, Kp, (by first | (exfalso; omega) | exact ⟨by omega, by rw [noE, up2_ne (by omega), noE, up2_ne (by omega), noE, up2_ne (by omega), noE, up2_ne (by omega), noE, up2_ne (by omega), noE, up2_at (by omega)], by rw [noE, up2_ne (by omega), noE, up2_ne (by omega), noE, up2_ne (by omega), noE, up2_ne (by omega), noE, up2_at (by omega)], by rw [noE, up2_ne (by omega), noE, up2_ne (by omega), noE, up2_ne (by omega), noE, up2_at (by omega)], by rw [noE, up2_ne (by omega), noE, up2_ne (by omega), noE, up2_at (by omega)], by rw [noE, up2_ne (by omega), noE, up2_at (by omega)], fun a j q1 q2 q3 => by rw [noE, up2_ne (by omega), noE, up2_ne (by omega), noE, up2_ne (by omega), noE, up2_ne (by omega), noE, up2_ne (by omega), noE, up2_ne (by omega)], fun j => by rw [noE, up2_ne (by omega), noE, up2_ne (by omega), noE, up2_ne (by omega), noE, up2_ne (by omega), noE, up2_ne (by omega), noE, up2_ne (by omega)]⟩)⟩
  · have c4 := iv_ne (X := v3.toInt) (Y := 0) c4 rfl (by decide)
    refine pv_aload_n (M := mX1_begin) 0 dX1_begin_8 9 rfl rfl rfl ?_
    refine mv_get (M := mX1_begin) (v := .ref 98) dX1_begin_9 FX1 0 wd302 (by decide) (tl97 hT) rfl rfl 12 rfl ?_
    refine pv_aload_n (M := mX1_begin) 0 dX1_begin_12 13 rfl rfl rfl ?_
    refine iv_get (M := mX1_begin) (l1 := 0) (l2 := 60) dX1_begin_13 FX1 6 wd309 (by decide) (tl97 hT) rfl I rfl 16 rfl (fun v5 ev5 pv5 qv5 => ?_)
    have wv5 : v5.toInt = (m 97 6).toInt := congrArg Int32.toInt ev5
    refine pv_iload_n (M := mX1_begin) 1 dX1_begin_16 17 rfl rfl rfl ?_
    refine iv_iast (M := mX1_begin) (X := v5.toInt) (l1 := (-2147483648)) (l2 := 2147483647) dX1_begin_17 (tl98 hT) rfl (by omega) (by omega) I (fun _ => rfl) (iv_rng x0).1 (iv_rng x0).2 18 rfl (fun m6 e9 I7 => ?_)
    have K8 := Kp.set e9 rfl
    have w10 : (m6 97 6).toInt = (m 97 6).toInt := by rw [e9, up2_ne (by omega)]
    refine pv_aload_n (M := mX1_begin) 0 dX1_begin_18 19 rfl rfl rfl ?_
    refine mv_get (M := mX1_begin) (v := .ref 99) dX1_begin_19 FX1 1 wd303 (by decide) (tl97 hT) rfl rfl 22 rfl ?_
    refine pv_aload_n (M := mX1_begin) 0 dX1_begin_22 23 rfl rfl rfl ?_
    refine iv_get (M := mX1_begin) (l1 := 0) (l2 := 60) dX1_begin_23 FX1 6 wd309 (by decide) (tl97 hT) rfl I7 rfl 26 rfl (fun v11 ev11 pv11 qv11 => ?_)
    have wv11 : v11.toInt = (m6 97 6).toInt := congrArg Int32.toInt ev11
    refine pv_iload_n (M := mX1_begin) 2 dX1_begin_26 27 rfl rfl rfl ?_
    refine iv_iast (M := mX1_begin) (X := v11.toInt) (l1 := (-2147483648)) (l2 := 2147483647) dX1_begin_27 (tl99 hT) rfl (by omega) (by omega) I7 (fun _ => rfl) (iv_rng x1).1 (iv_rng x1).2 28 rfl (fun m12 e15 I13 => ?_)
    have K14 := K8.set e15 rfl
    have w16 : (m12 97 6).toInt = (m6 97 6).toInt := by rw [e15, up2_ne (by omega)]
    refine pv_aload_n (M := mX1_begin) 0 dX1_begin_28 29 rfl rfl rfl ?_
    refine mv_get (M := mX1_begin) (v := .ref 100) dX1_begin_29 FX1 2 wd304 (by decide) (tl97 hT) rfl rfl 32 rfl ?_
    refine pv_aload_n (M := mX1_begin) 0 dX1_begin_32 33 rfl rfl rfl ?_
    refine iv_get (M := mX1_begin) (l1 := 0) (l2 := 60) dX1_begin_33 FX1 6 wd309 (by decide) (tl97 hT) rfl I13 rfl 36 rfl (fun v17 ev17 pv17 qv17 => ?_)
    have wv17 : v17.toInt = (m12 97 6).toInt := congrArg Int32.toInt ev17
    refine pv_iload_n (M := mX1_begin) 3 dX1_begin_36 37 rfl rfl rfl ?_
    refine iv_iast (M := mX1_begin) (X := v17.toInt) (l1 := (-2147483648)) (l2 := 2147483647) dX1_begin_37 (tl100 hT) rfl (by omega) (by omega) I13 (fun _ => rfl) (iv_rng x2).1 (iv_rng x2).2 38 rfl (fun m18 e21 I19 => ?_)
    have K20 := K14.set e21 rfl
    have w22 : (m18 97 6).toInt = (m12 97 6).toInt := by rw [e21, up2_ne (by omega)]
    refine pv_aload_n (M := mX1_begin) 0 dX1_begin_38 39 rfl rfl rfl ?_
    refine mv_get (M := mX1_begin) (v := .ref 101) dX1_begin_39 FX1 3 wd305 (by decide) (tl97 hT) rfl rfl 42 rfl ?_
    refine pv_aload_n (M := mX1_begin) 0 dX1_begin_42 43 rfl rfl rfl ?_
    refine iv_get (M := mX1_begin) (l1 := 0) (l2 := 60) dX1_begin_43 FX1 6 wd309 (by decide) (tl97 hT) rfl I19 rfl 46 rfl (fun v23 ev23 pv23 qv23 => ?_)
    have wv23 : v23.toInt = (m18 97 6).toInt := congrArg Int32.toInt ev23
    refine pv_iconst (M := mX1_begin) (v := 0) dX1_begin_46 47 rfl (by decide) ?_
    refine iv_iast (M := mX1_begin) (X := v23.toInt) (l1 := (-2147483648)) (l2 := 2147483647) dX1_begin_47 (tl101 hT) rfl (by omega) (by omega) I19 (fun _ => rfl) (by decide) (by decide) 48 rfl (fun m24 e27 I25 => ?_)
    have K26 := K20.set e27 rfl
    have w28 : (m24 97 6).toInt = (m18 97 6).toInt := by rw [e27, up2_ne (by omega)]
    refine pv_aload_n (M := mX1_begin) 0 dX1_begin_48 49 rfl rfl rfl ?_
    refine mv_get (M := mX1_begin) (v := .ref 102) dX1_begin_49 FX1 4 wd306 (by decide) (tl97 hT) rfl rfl 52 rfl ?_
    refine pv_aload_n (M := mX1_begin) 0 dX1_begin_52 53 rfl rfl rfl ?_
    refine iv_get (M := mX1_begin) (l1 := 0) (l2 := 60) dX1_begin_53 FX1 6 wd309 (by decide) (tl97 hT) rfl I25 rfl 56 rfl (fun v29 ev29 pv29 qv29 => ?_)
    have wv29 : v29.toInt = (m24 97 6).toInt := congrArg Int32.toInt ev29
    refine pv_iconst (M := mX1_begin) (v := 0) dX1_begin_56 57 rfl (by decide) ?_
    refine iv_iast (M := mX1_begin) (X := v29.toInt) (l1 := 0) (l2 := 9) dX1_begin_57 (tl102 hT) rfl (by omega) (by omega) I25 (fun _ => rfl) (by decide) (by decide) 58 rfl (fun m30 e33 I31 => ?_)
    have K32 := K26.set e33 rfl
    have w34 : (m30 97 6).toInt = (m24 97 6).toInt := by rw [e33, up2_ne (by omega)]
    refine pv_aload_n (M := mX1_begin) 0 dX1_begin_58 59 rfl rfl rfl ?_
    refine pv_dup (M := mX1_begin) dX1_begin_59 60 rfl rfl ?_
    refine iv_get (M := mX1_begin) (l1 := 0) (l2 := 60) dX1_begin_60 FX1 6 wd309 (by decide) (tl97 hT) rfl I31 rfl 63 rfl (fun v35 ev35 pv35 qv35 => ?_)
    have wv35 : v35.toInt = (m30 97 6).toInt := congrArg Int32.toInt ev35
    refine pv_iconst (M := mX1_begin) (v := 1) dX1_begin_63 64 rfl (by decide) ?_
    refine iv_iadd (M := mX1_begin) (X := v35.toInt) (Y := 1) dX1_begin_64 65 rfl rfl (by decide) (by omega) (by omega) (fun v36 ev36 => ?_)
    refine iv_put (M := mX1_begin) (l1 := 0) (l2 := 60) dX1_begin_65 FX1 6 wd309 (by decide) rfl (tl97 hT) rfl rfl rfl I31 rfl (by omega) (by omega) 68 rfl (fun m37 e40 I38 => ?_)
    have K39 := K32.set e40 rfl
    have w41 : (m37 97 6).toInt = v36.toInt := by rw [e40, up2_eq]
    exact pv_vret (M := mX1_begin) dX1_begin_68 rfl ⟨_, _, rfl, rfl, I38, K39, (by first | (exfalso; omega) | exact ⟨by omega, by rw [e40, up2_ne (by omega), e33, up2_ne (by omega), e27, up2_ne (by omega), e21, up2_ne (by omega), e15, up2_ne (by omega), e9, up2_at (by omega)], by rw [e40, up2_ne (by omega), e33, up2_ne (by omega), e27, up2_ne (by omega), e21, up2_ne (by omega), e15, up2_at (by omega)], by rw [e40, up2_ne (by omega), e33, up2_ne (by omega), e27, up2_ne (by omega), e21, up2_at (by omega)], by rw [e40, up2_ne (by omega), e33, up2_ne (by omega), e27, up2_at (by omega)], by rw [e40, up2_ne (by omega), e33, up2_at (by omega)], fun a j q1 q2 q3 => by rw [e40, up2_ne (by omega), e33, up2_ne (by omega), e27, up2_ne (by omega), e21, up2_ne (by omega), e15, up2_ne (by omega), e9, up2_ne (by omega)], fun j => by rw [e40, up2_ne (by omega), e33, up2_ne (by omega), e27, up2_ne (by omega), e21, up2_ne (by omega), e15, up2_ne (by omega), e9, up2_ne (by omega)]⟩)⟩

set_option maxHeartbeats 2000000 in
set_option maxRecDepth 20000 in
theorem s_X1_addLetter_va (g : pv_G) {T : List mv_T} {m : Nat → Nat → Int32} {n : Nat → Nat → Int64} {r : Nat → Value} (hT : TX T) (I : IV BB m) (x0 : Int32) (x1 : Int32) (hp0 : 1 ≤ (m 97 6).toInt) (hp1 : (m 102 ((m 97 6).toInt.toNat - 1)).toInt ≤ 8) : PM g mX1_addLetter yX1_addLetter (sqV T BB (wl [(101, 101, none), (102, 102, none), (103, 103, none)]) r m (fun m' => ADL m m' ((m 97 6).toInt.toNat - 1) x0 x1)) 1 0 0 [.ref 97, .int x0, .int x1] (mk T m n r) := by
  have Kp : fr (wl [(101, 101, none), (102, 102, none), (103, 103, none)]) m m := fr.rf
  have z35 : 0 ≤ (m 97 6).toInt ∧ (m 97 6).toInt ≤ 60 := I 97 6
  refine PM.of 1 (lo := [.ref 97, .int x0, .int x1, pv_U]) rfl (by decide) rfl rfl (Nat.le_of_ble_eq_true rfl) ?_
  refine pv_aload_n (M := mX1_addLetter) 0 dX1_addLetter_0 1 rfl rfl rfl ?_
  refine iv_get (M := mX1_addLetter) (l1 := 0) (l2 := 60) dX1_addLetter_1 FX1 6 wd309 (by decide) (tl97 hT) rfl I rfl 4 rfl (fun v1 ev1 pv1 qv1 => ?_)
  have wv1 : v1.toInt = (m 97 6).toInt := congrArg Int32.toInt ev1
  refine pv_iconst (M := mX1_addLetter) (v := 1) dX1_addLetter_4 5 rfl (by decide) ?_
  refine iv_isub (M := mX1_addLetter) (X := v1.toInt) (Y := 1) dX1_addLetter_5 6 rfl rfl (by decide) (by omega) (by omega) (fun v2 ev2 => ?_)
  refine pv_istore_n (M := mX1_addLetter) 3 (lo2 := [.ref 97, .int x0, .int x1, .int v2]) dX1_addLetter_6 7 rfl rfl (by decide) rfl rfl ?_
  refine pv_iload_n (M := mX1_addLetter) 3 dX1_addLetter_7 8 rfl rfl rfl ?_
  refine pv_if_lt (M := mX1_addLetter) (tgt := 59) dX1_addLetter_8 11 rfl (by decide) (fun c3 => ?_) (fun c3 => ?_)
  · have c3 := iv_lt (X := v2.toInt) (Y := 0) c3 rfl (by decide)
    exact pv_vret (M := mX1_addLetter) dX1_addLetter_59 rfl ⟨_, _, rfl, rfl, I, Kp, (by first | (exfalso; omega) | exact ⟨by omega, by rw [noE, up2_ne (by omega), noE, up2_ne (by omega), noE, up2_at (by omega)], fun j q => by rw [noE, up2_ne (by omega), noE, up2_ne (by omega), noE, up2_ne (by omega)], by rw [noE, up2_ne (by omega), noE, up2_at (by omega)]; omega, by rw [noE, up2_at (by omega), k58, k56], fun a j q1 q2 q3 => by rw [noE, up2_ne (by omega), noE, up2_ne (by omega), noE, up2_ne (by omega)], by rw [noE, up2_ne (by omega), noE, up2_ne (by omega), noE, up2_ne (by omega)], by rw [noE, up2_ne (by omega), noE, up2_ne (by omega), noE, up2_ne (by omega)], by rw [noE, up2_ne (by omega), noE, up2_ne (by omega), noE, up2_ne (by omega)]⟩)⟩
  · have c3 := iv_nlt (X := v2.toInt) (Y := 0) c3 rfl (by decide)
    refine pv_aload_n (M := mX1_addLetter) 0 dX1_addLetter_11 12 rfl rfl rfl ?_
    refine mv_get (M := mX1_addLetter) (v := .ref 102) dX1_addLetter_12 FX1 4 wd306 (by decide) (tl97 hT) rfl rfl 15 rfl ?_
    refine pv_iload_n (M := mX1_addLetter) 3 dX1_addLetter_15 16 rfl rfl rfl ?_
    refine iv_iald (M := mX1_addLetter) (X := v2.toInt) (l1 := 0) (l2 := 9) dX1_addLetter_16 (tl102 hT) rfl (by omega) (by omega) I (fun _ => rfl) 17 rfl (fun v4 ev4 pv4 qv4 => ?_)
    have kf := ev4
    have k17 : v4 = m 102 ((m 97 6).toInt.toNat - 1) := ev4.trans (congrArg (fun z => m 102 z) (by omega))
    have k17i := congrArg Int32.toInt k17
    refine pv_bipush (M := mX1_addLetter) (v := 9) dX1_addLetter_17 19 rfl (by decide) ?_
    refine pv_icmp_ge (M := mX1_addLetter) (tgt := 59) dX1_addLetter_19 22 rfl (by decide) (fun c8 => ?_) (fun c8 => ?_)
    · have c8 := iv_le (X := 9) (Y := v4.toInt) c8 (by decide) rfl
      exact pv_vret (M := mX1_addLetter) dX1_addLetter_59 rfl ⟨_, _, rfl, rfl, I, Kp, (by first | (exfalso; omega) | exact ⟨by omega, by rw [noE, up2_ne (by omega), noE, up2_ne (by omega), noE, up2_at (by omega)], fun j q => by rw [noE, up2_ne (by omega), noE, up2_ne (by omega), noE, up2_ne (by omega)], by rw [noE, up2_ne (by omega), noE, up2_at (by omega)]; omega, by rw [noE, up2_at (by omega), k58, k56], fun a j q1 q2 q3 => by rw [noE, up2_ne (by omega), noE, up2_ne (by omega), noE, up2_ne (by omega)], by rw [noE, up2_ne (by omega), noE, up2_ne (by omega), noE, up2_ne (by omega)], by rw [noE, up2_ne (by omega), noE, up2_ne (by omega), noE, up2_ne (by omega)], by rw [noE, up2_ne (by omega), noE, up2_ne (by omega), noE, up2_ne (by omega)]⟩)⟩
    · have c8 := iv_nle (X := 9) (Y := v4.toInt) c8 (by decide) rfl
      refine pv_aload_n (M := mX1_addLetter) 0 dX1_addLetter_22 23 rfl rfl rfl ?_
      refine mv_get (M := mX1_addLetter) (v := .ref 103) dX1_addLetter_23 FX1 5 wd308 (by decide) (tl97 hT) rfl rfl 26 rfl ?_
      refine pv_iload_n (M := mX1_addLetter) 3 dX1_addLetter_26 27 rfl rfl rfl ?_
      refine pv_bipush (M := mX1_addLetter) (v := 9) dX1_addLetter_27 29 rfl (by decide) ?_
      refine iv_imul (M := mX1_addLetter) (X := v2.toInt) (Y := 9) dX1_addLetter_29 30 rfl rfl (by decide) (by omega) (by omega) (fun v9 ev9 => ?_)
      refine pv_aload_n (M := mX1_addLetter) 0 dX1_addLetter_30 31 rfl rfl rfl ?_
      refine mv_get (M := mX1_addLetter) (v := .ref 102) dX1_addLetter_31 FX1 4 wd306 (by decide) (tl97 hT) rfl rfl 34 rfl ?_
      refine pv_iload_n (M := mX1_addLetter) 3 dX1_addLetter_34 35 rfl rfl rfl ?_
      refine iv_iald (M := mX1_addLetter) (X := v2.toInt) (l1 := 0) (l2 := 9) dX1_addLetter_35 (tl102 hT) rfl (by omega) (by omega) I (fun _ => rfl) 36 rfl (fun v10 ev10 pv10 qv10 => ?_)
      have k36 : v10.toInt = _ := congrArg Int32.toInt (ev10.trans kf.symm)
      refine iv_iadd (M := mX1_addLetter) (X := v9.toInt) (Y := v10.toInt) dX1_addLetter_36 37 rfl rfl rfl (by omega) (by omega) (fun v12 ev12 => ?_)
      refine pv_iload_n (M := mX1_addLetter) 1 dX1_addLetter_37 38 rfl rfl rfl ?_
      refine iv_iast (M := mX1_addLetter) (X := v12.toInt) (l1 := (-2147483648)) (l2 := 2147483647) dX1_addLetter_38 (tl103 hT) rfl (by omega) (by omega) I (fun _ => rfl) (iv_rng x0).1 (iv_rng x0).2 39 rfl (fun m13 e16 I14 => ?_)
      have K15 := Kp.set e16 rfl
      have w17 : (m13 97 6).toInt = (m 97 6).toInt := by rw [e16, up2_ne (by omega)]
      refine pv_aload_n (M := mX1_addLetter) 0 dX1_addLetter_39 40 rfl rfl rfl ?_
      refine mv_get (M := mX1_addLetter) (v := .ref 102) dX1_addLetter_40 FX1 4 wd306 (by decide) (tl97 hT) rfl rfl 43 rfl ?_
      refine pv_iload_n (M := mX1_addLetter) 3 dX1_addLetter_43 44 rfl rfl rfl ?_
      refine pv_dup2 (M := mX1_addLetter) dX1_addLetter_44 45 rfl rfl rfl ?_
      refine iv_iald (M := mX1_addLetter) (X := v2.toInt) (l1 := 0) (l2 := 9) dX1_addLetter_45 (tl102 hT) rfl (by omega) (by omega) I14 (fun _ => rfl) 46 rfl (fun v18 ev18 pv18 qv18 => ?_)
      have k46 : v18.toInt = _ := congrArg Int32.toInt ((ev18.trans (st_off e16 (by decide) _)).trans kf.symm)
      refine pv_iconst (M := mX1_addLetter) (v := 1) dX1_addLetter_46 47 rfl (by decide) ?_
      refine iv_iadd (M := mX1_addLetter) (X := v18.toInt) (Y := 1) dX1_addLetter_47 48 rfl rfl (by decide) (by omega) (by omega) (fun v20 ev20 => ?_)
      refine iv_iast (M := mX1_addLetter) (X := v2.toInt) (l1 := 0) (l2 := 9) dX1_addLetter_48 (tl102 hT) rfl (by omega) (by omega) I14 (fun _ => rfl) (by omega) (by omega) 49 rfl (fun m21 e24 I22 => ?_)
      have K23 := K15.set e24 rfl
      have w25 : (m21 97 6).toInt = (m13 97 6).toInt := by rw [e24, up2_ne (by omega)]
      refine pv_aload_n (M := mX1_addLetter) 0 dX1_addLetter_49 50 rfl rfl rfl ?_
      refine mv_get (M := mX1_addLetter) (v := .ref 101) dX1_addLetter_50 FX1 3 wd305 (by decide) (tl97 hT) rfl rfl 53 rfl ?_
      refine pv_iload_n (M := mX1_addLetter) 3 dX1_addLetter_53 54 rfl rfl rfl ?_
      refine pv_dup2 (M := mX1_addLetter) dX1_addLetter_54 55 rfl rfl rfl ?_
      refine iv_iald (M := mX1_addLetter) (X := v2.toInt) (l1 := (-2147483648)) (l2 := 2147483647) dX1_addLetter_55 (tl101 hT) rfl (by omega) (by omega) I22 (fun _ => rfl) 56 rfl (fun v26 ev26 pv26 qv26 => ?_)
      have k56 : v26 = m 101 ((m 97 6).toInt.toNat - 1) := ev26.trans (by rw [e24, up2_ne (by omega), e16, up2_ne (by omega)]; exact congrArg (fun z => m 101 z) (by omega))
      refine pv_iload_n (M := mX1_addLetter) 2 dX1_addLetter_56 57 rfl rfl rfl ?_
      refine iv_addU (M := mX1_addLetter) dX1_addLetter_57 58 rfl (fun v28 ev28 => ?_)
      have k58 := ev28
      refine iv_iast (M := mX1_addLetter) (X := v2.toInt) (l1 := (-2147483648)) (l2 := 2147483647) dX1_addLetter_58 (tl101 hT) rfl (by omega) (by omega) I22 (fun _ => rfl) (iv_rng v28).1 (iv_rng v28).2 59 rfl (fun m30 e33 I31 => ?_)
      have K32 := K23.set e33 rfl
      have w34 : (m30 97 6).toInt = (m21 97 6).toInt := by rw [e33, up2_ne (by omega)]
      exact pv_vret (M := mX1_addLetter) dX1_addLetter_59 rfl ⟨_, _, rfl, rfl, I31, K32, (by first | (exfalso; omega) | exact ⟨by omega, by rw [e33, up2_ne (by omega), e24, up2_ne (by omega), e16, up2_at (by omega)], fun j q => by rw [e33, up2_ne (by omega), e24, up2_ne (by omega), e16, up2_ne (by omega)], by rw [e33, up2_ne (by omega), e24, up2_at (by omega)]; omega, by rw [e33, up2_at (by omega), k58, k56], fun a j q1 q2 q3 => by rw [e33, up2_ne (by omega), e24, up2_ne (by omega), e16, up2_ne (by omega)], by rw [e33, up2_ne (by omega), e24, up2_ne (by omega), e16, up2_ne (by omega)], by rw [e33, up2_ne (by omega), e24, up2_ne (by omega), e16, up2_ne (by omega)], by rw [e33, up2_ne (by omega), e24, up2_ne (by omega), e16, up2_ne (by omega)]⟩)⟩

set_option maxHeartbeats 2000000 in
set_option maxRecDepth 20000 in
theorem s_X11_isPlace_va (g : pv_G) {T : List mv_T} {m : Nat → Nat → Int32} {n : Nat → Nat → Int64} {r : Nat → Value} {la lb : Nat} (hT : TX T) (I : IV BB m) (R : RX T r la lb) (x0 : Int32) (x1 : Int32) : PM g mX11_isPlace yX11_isPlace (sqP (mk T m n r) 0 1 (fun v => (v = 0 ∨ ((0 ≤ x0.toInt ∧ x0.toInt ≤ 7) ∧ (0 ≤ x1.toInt ∧ x1.toInt ≤ 39))) ∧ ((v.toInt = 1 ∧ ((0 ≤ x0.toInt ∧ x0.toInt < (m 0 2).toInt) ∧ 0 ≤ x1.toInt ∧ x1.toInt < (m (4 + 7 * x0.toInt.toNat + 3) 1).toInt)) ∨ (v.toInt = 0 ∧ ¬ ((0 ≤ x0.toInt ∧ x0.toInt < (m 0 2).toInt) ∧ 0 ≤ x1.toInt ∧ x1.toInt < (m (4 + 7 * x0.toInt.toNat + 3) 1).toInt))))) 2 0 0 [.ref 0, .int x0, .int x1] (mk T m n r) := by
  have Kp : fr (wl []) m m := fr.rf
  have R0 := R
  have zR := R.2.2.2.2.1.1
  have zR2 := R.2.2.2.2.2.1
  refine PM.of 0 (lo := [.ref 0, .int x0, .int x1]) rfl (by decide) rfl rfl (Nat.le_of_ble_eq_true rfl) ?_
  refine pv_aload_n (M := mX11_isPlace) 0 dX11_isPlace_0 1 rfl rfl rfl ?_
  refine pv_iload_n (M := mX11_isPlace) 1 dX11_isPlace_1 2 rfl rfl rfl ?_
  refine pv_callv (M := mX11_isPlace) (as := [.int x0]) (st := []) (kc2 := 0) (ks2 := 0) dX11_isPlace_2 wd700 YX11_isBlank ⟨wd702, wd16⟩ (mk_get (tl0 hT)) rfl rfl (s_X11_isBlank_vx g hT I R x0) rfl rfl (Nat.le_of_ble_eq_true rfl) (by decide) rfl rfl 5 rfl (fun rv h1 q1 => ?_)
  obtain ⟨v2, rfl, rfl, pv2, qv2, rv2⟩ := q1
  replace rv2 : (v2 = 0 ∨ (0 ≤ x0.toInt ∧ x0.toInt ≤ 7)) ∧ ((v2.toInt = 1 ∧ 0 ≤ x0.toInt ∧ x0.toInt < (m 0 2).toInt) ∨ (v2.toInt = 0 ∧ (x0.toInt < 0 ∨ (m 0 2).toInt ≤ x0.toInt))) := rv2
  show PV _ _ _ _ _ _ _ 5 [.ref 0, .int x0, .int x1] [.int v2] _
  have k5 := rv2.2
  refine pv_if_eq (M := mX11_isPlace) (tgt := 32) dX11_isPlace_5 8 rfl (by decide) (fun c4 => ?_) (fun c4 => ?_)
  · have c4 := iv_eq (X := v2.toInt) (Y := 0) c4 rfl (by decide)
    refine pv_iconst (M := mX11_isPlace) (v := 0) dX11_isPlace_32 33 rfl (by decide) ?_
    have z5 : (0 : Int32).toInt = 0 := by decide
    exact pv_iret (M := mX11_isPlace) dX11_isPlace_33 rfl rfl ⟨_, rfl, rfl, by decide, by decide, ⟨Or.inl rfl, Or.inr ⟨by decide, by omega⟩⟩⟩
  · have pc4 := rv2.1.resolve_left c4
    have c4 := iv_ne (X := v2.toInt) (Y := 0) c4 rfl (by decide)
    refine pv_iload_n (M := mX11_isPlace) 2 dX11_isPlace_8 9 rfl rfl rfl ?_
    refine pv_if_lt (M := mX11_isPlace) (tgt := 32) dX11_isPlace_9 12 rfl (by decide) (fun c6 => ?_) (fun c6 => ?_)
    · have c6 := iv_lt (X := x1.toInt) (Y := 0) c6 rfl (by decide)
      refine pv_iconst (M := mX11_isPlace) (v := 0) dX11_isPlace_32 33 rfl (by decide) ?_
      have z7 : (0 : Int32).toInt = 0 := by decide
      exact pv_iret (M := mX11_isPlace) dX11_isPlace_33 rfl rfl ⟨_, rfl, rfl, by decide, by decide, ⟨Or.inl rfl, Or.inr ⟨by decide, by omega⟩⟩⟩
    · have c6 := iv_nlt (X := x1.toInt) (Y := 0) c6 rfl (by decide)
      refine pv_iload_n (M := mX11_isPlace) 2 dX11_isPlace_12 13 rfl rfl rfl ?_
      refine pv_aload_n (M := mX11_isPlace) 0 dX11_isPlace_13 14 rfl rfl rfl ?_
      refine mv_get (M := mX11_isPlace) (v := .ref 3) dX11_isPlace_14 FX11 1 wd408 (by decide) (tl0 hT) rfl rfl 17 rfl ?_
      refine pv_iload_n (M := mX11_isPlace) 1 dX11_isPlace_17 18 rfl rfl rfl ?_
      refine iv_qblank (M := mX11_isPlace) (X := x0.toInt) dX11_isPlace_18 hT R rfl (by omega) (by omega) 19 rfl (fun b8 eb8 hb8 => ?_)
      have zb8 := hb8.2.2.2.2.2.2.2
      refine mv_get (M := mX11_isPlace) (v := .ref (b8 + 3)) dX11_isPlace_19 FX0 1 wd210 (by decide) hb8.1 rfl rfl 22 rfl ?_
      refine iv_get (M := mX11_isPlace) (l1 := 0) (l2 := 40) dX11_isPlace_22 FX8 1 wd200 (by decide) hb8.2.2.1.1 rfl I hb8.2.2.1.2.2.1 25 rfl (fun v9 ev9 pv9 qv9 => ?_)
      have k25 : v9.toInt = (m (4 + 7 * x0.toInt.toNat + 3) 1).toInt := (congrArg Int32.toInt ev9).trans (congrArg (fun z => (m z 1).toInt) (by omega))
      refine pv_icmp_ge (M := mX11_isPlace) (tgt := 32) dX11_isPlace_25 28 rfl (by decide) (fun c11 => ?_) (fun c11 => ?_)
      · have c11 := iv_le (X := v9.toInt) (Y := x1.toInt) c11 rfl rfl
        refine pv_iconst (M := mX11_isPlace) (v := 0) dX11_isPlace_32 33 rfl (by decide) ?_
        have z12 : (0 : Int32).toInt = 0 := by decide
        exact pv_iret (M := mX11_isPlace) dX11_isPlace_33 rfl rfl ⟨_, rfl, rfl, by decide, by decide, ⟨Or.inl rfl, Or.inr ⟨by decide, by omega⟩⟩⟩
      · have c11 := iv_nle (X := v9.toInt) (Y := x1.toInt) c11 rfl rfl
        refine pv_iconst (M := mX11_isPlace) (v := 1) dX11_isPlace_28 29 rfl (by decide) ?_
        refine pv_goto (M := mX11_isPlace) (tgt := 33) dX11_isPlace_29 (by decide) ?_
        have z13 : (1 : Int32).toInt = 1 := by decide
        exact pv_iret (M := mX11_isPlace) dX11_isPlace_33 rfl rfl ⟨_, rfl, rfl, by decide, by decide, ⟨Or.inr (by omega), Or.inl ⟨by decide, by omega⟩⟩⟩

set_option maxHeartbeats 2000000 in
set_option maxRecDepth 20000 in
theorem s_X11_isClerk_va (g : pv_G) {T : List mv_T} {m : Nat → Nat → Int32} {n : Nat → Nat → Int64} {r : Nat → Value} (hT : TX T) (I : IV BB m) (x0 : Int32) : PM g mX11_isClerk yX11_isClerk (sqP (mk T m n r) 0 1 (fun v => (v = 0 ∨ (0 ≤ x0.toInt ∧ x0.toInt ≤ 7)) ∧ ((v.toInt = 1 ∧ 0 ≤ x0.toInt ∧ x0.toInt ≤ 7) ∨ (v.toInt = 0 ∧ (x0.toInt < 0 ∨ 7 < x0.toInt))))) 1 0 0 [.int x0] (mk T m n r) := by
  have Kp : fr (wl []) m m := fr.rf
  refine PM.of 0 (lo := [.int x0]) rfl (by decide) rfl rfl (Nat.le_of_ble_eq_true rfl) ?_
  refine pv_iload_n (M := mX11_isClerk) 0 dX11_isClerk_0 1 rfl rfl rfl ?_
  refine pv_if_lt (M := mX11_isClerk) (tgt := 14) dX11_isClerk_1 4 rfl (by decide) (fun c1 => ?_) (fun c1 => ?_)
  · have c1 := iv_lt (X := x0.toInt) (Y := 0) c1 rfl (by decide)
    refine pv_iconst (M := mX11_isClerk) (v := 0) dX11_isClerk_14 15 rfl (by decide) ?_
    have z2 : (0 : Int32).toInt = 0 := by decide
    exact pv_iret (M := mX11_isClerk) dX11_isClerk_15 rfl rfl ⟨_, rfl, rfl, by decide, by decide, ⟨Or.inl rfl, Or.inr ⟨by decide, by omega⟩⟩⟩
  · have c1 := iv_nlt (X := x0.toInt) (Y := 0) c1 rfl (by decide)
    refine pv_iload_n (M := mX11_isClerk) 0 dX11_isClerk_4 5 rfl rfl rfl ?_
    refine pv_bipush (M := mX11_isClerk) (v := 8) dX11_isClerk_5 7 rfl (by decide) ?_
    refine pv_icmp_ge (M := mX11_isClerk) (tgt := 14) dX11_isClerk_7 10 rfl (by decide) (fun c3 => ?_) (fun c3 => ?_)
    · have c3 := iv_le (X := 8) (Y := x0.toInt) c3 (by decide) rfl
      refine pv_iconst (M := mX11_isClerk) (v := 0) dX11_isClerk_14 15 rfl (by decide) ?_
      have z4 : (0 : Int32).toInt = 0 := by decide
      exact pv_iret (M := mX11_isClerk) dX11_isClerk_15 rfl rfl ⟨_, rfl, rfl, by decide, by decide, ⟨Or.inl rfl, Or.inr ⟨by decide, by omega⟩⟩⟩
    · have c3 := iv_nle (X := 8) (Y := x0.toInt) c3 (by decide) rfl
      refine pv_iconst (M := mX11_isClerk) (v := 1) dX11_isClerk_10 11 rfl (by decide) ?_
      refine pv_goto (M := mX11_isClerk) (tgt := 15) dX11_isClerk_11 (by decide) ?_
      have z5 : (1 : Int32).toInt = 1 := by decide
      exact pv_iret (M := mX11_isClerk) dX11_isClerk_15 rfl rfl ⟨_, rfl, rfl, by decide, by decide, ⟨Or.inr (by omega), Or.inl ⟨by decide, by omega, by omega⟩⟩⟩

set_option maxHeartbeats 2000000 in
set_option maxRecDepth 20000 in
theorem s_X11_askLaw_va (g : pv_G) {T : List mv_T} {m : Nat → Nat → Int32} {n : Nat → Nat → Int64} {r : Nat → Value} {la lb : Nat} (hT : TX T) (I : IV BB m) (R : RX T r la lb) (x0 : Int32) (hl0 : 0 ≤ x0.toInt) (hh0 : x0.toInt ≤ 7) (x1 : Int32) (hl1 : 0 ≤ x1.toInt) (hh1 : x1.toInt ≤ 40) (x2 : Int32) (hl2 : 0 ≤ x2.toInt) (hh2 : x2.toInt ≤ 40) (x3 : Int32) (hl3 : 0 ≤ x3.toInt) (hh3 : x3.toInt ≤ 7) (t : Int → Int) (hp0 : RST m (4 + 7 * x0.toInt.toNat)) (hp1 : LAWc m la t (m la 7).toInt.toNat) (hp2 : x2.toInt ≤ (m (4 + 7 * x0.toInt.toNat + 3) 1).toInt) : PM g mX11_askLaw yX11_askLaw (sqV T BB wN r m (fun m' => ∀ p : Nat, x1.toInt ≤ (p : Int) → (p : Int) < x2.toInt → ASK m la t x0.toInt.toNat p x3.toInt (m' 108 p) (m' 109 p))) 6 0 0 [.ref 0, .int x0, .int x1, .int x2, .int x3] (mk T m n r) := by
  have Kp : fr wN m m := fr.rf
  have R0 := R
  have zR := R.2.2.2.2.1.1
  have zR2 := R.2.2.2.2.2.1
  refine PM.of 1 (lo := [.ref 0, .int x0, .int x1, .int x2, .int x3, pv_U]) rfl (by decide) rfl rfl (Nat.le_of_ble_eq_true rfl) ?_
  refine pv_iload_n (M := mX11_askLaw) 2 dX11_askLaw_0 1 rfl rfl rfl ?_
  refine pv_istore (M := mX11_askLaw) (lo2 := [.ref 0, .int x0, .int x1, .int x2, .int x3, .int x1]) dX11_askLaw_1 3 rfl (by decide) rfl rfl ?_
  have lp7 : ∀ (fuel6 : Nat) (y1 : Int32) (m2 : Nat → Nat → Int32) (n3 : Nat → Nat → Int64), (0 ≤ y1.toInt) → (y1.toInt ≤ 40) → (x1.toInt ≤ y1.toInt) → (∀ p : Nat, x1.toInt ≤ (p : Int) → (p : Int) < y1.toInt → ASK m la t x0.toInt.toNat p x3.toInt (m2 108 p) (m2 109 p)) → IV BB m2 → fr wN m m2 → ((40 - y1.toInt) : Int).toNat < fuel6 → PV none g mX11_askLaw (sqV T BB wN r m (fun m' => ∀ p : Nat, x1.toInt ≤ (p : Int) → (p : Int) < x2.toInt → ASK m la t x0.toInt.toNat p x3.toInt (m' 108 p) (m' 109 p))) 6 0 0 3 [.ref 0, .int x0, .int x1, .int x2, .int x3, .int y1] [] (mk T m2 n3 r) := by
    intro fuel6
    induction fuel6 with
    | zero => intro y1 m2 n3 b9 b10 b11 b12 I4 K5 z13; omega
    | succ fuel6 ih8 =>
      intro y1 m2 n3 b9 b10 b11 b12 I4 K5 z13
      have kgA := (show ∀ p : Nat, x1.toInt ≤ (p : Int) → (p : Int) < y1.toInt → ASK m la t x0.toInt.toNat p x3.toInt (m2 108 p) (m2 109 p) by assumption)
      refine pv_iload (M := mX11_askLaw) dX11_askLaw_3 5 rfl rfl ?_
      refine pv_iload_n (M := mX11_askLaw) 3 dX11_askLaw_5 6 rfl rfl rfl ?_
      refine pv_icmp_ge (M := mX11_askLaw) (tgt := 79) dX11_askLaw_6 9 rfl (by decide) (fun c15 => ?_) (fun c15 => ?_)
      · have c15 := iv_le (X := x2.toInt) (Y := y1.toInt) c15 rfl rfl
        exact pv_vret (M := mX11_askLaw) dX11_askLaw_79 rfl ⟨_, _, rfl, rfl, I4, K5, (fun p h1 h2 => kgA p h1 (by omega))⟩
      · have c15 := iv_nle (X := x2.toInt) (Y := y1.toInt) c15 rfl rfl
        refine pv_aload_n (M := mX11_askLaw) 0 dX11_askLaw_9 10 rfl rfl rfl ?_
        refine mv_get (M := mX11_askLaw) (v := .ref la) dX11_askLaw_10 FX11 4 wd411 (by decide) (tl0 hT) rfl R.2.2.1 13 rfl ?_
        refine pv_aload_n (M := mX11_askLaw) 0 dX11_askLaw_13 14 rfl rfl rfl ?_
        refine mv_get (M := mX11_askLaw) (v := .ref 3) dX11_askLaw_14 FX11 1 wd408 (by decide) (tl0 hT) rfl rfl 17 rfl ?_
        refine pv_iload_n (M := mX11_askLaw) 1 dX11_askLaw_17 18 rfl rfl rfl ?_
        refine iv_qblank (M := mX11_askLaw) (X := x0.toInt) dX11_askLaw_18 hT R rfl (by omega) (by omega) 19 rfl (fun b16 eb16 hb16 => ?_)
        have zb16 := hb16.2.2.2.2.2.2.2
        refine pv_iload_n (M := mX11_askLaw) 1 dX11_askLaw_19 20 rfl rfl rfl ?_
        refine pv_iload (M := mX11_askLaw) dX11_askLaw_20 22 rfl rfl ?_
        refine pv_iload (M := mX11_askLaw) dX11_askLaw_22 24 rfl rfl ?_
        refine pv_aload_n (M := mX11_askLaw) 0 dX11_askLaw_24 25 rfl rfl rfl ?_
        refine iv_get (M := mX11_askLaw) (l1 := 0) (l2 := 999) dX11_askLaw_25 FX11 7 wd414 (by decide) (tl0 hT) rfl I4 rfl 28 rfl (fun v17 ev17 pv17 qv17 => ?_)
        have k28b : b16 = 4 + 7 * x0.toInt.toNat := by omega
        have k28 : RST m2 b16 := by rw [k28b]; exact RST_eq hp0 (fun a j h1 h2 => K5 a j (wN_lo (by omega) (by omega)))
        have k28s : (m2 (b16 + 3) 1).toInt = (m (4 + 7 * x0.toInt.toNat + 3) 1).toInt := by rw [k28b, K5 _ 1 (wN_lo (by omega) (by omega))]
        have k28d : v17.toInt = (m 0 7).toInt := by rw [ev17, show m2 0 7 = m 0 7 from K5 0 7 rfl]
        have kf3 : ∀ a i, 5 ≤ a → a ≤ 59 → m2 a i = m a i := fun a i h1 h2 => K5 a i (wN_lo (by omega) (by omega))
        refine pv_callv (M := mX11_askLaw) (as := [.ref b16, .int x0, .int y1, .int x3, .int v17]) (st := []) (kc2 := 0) (ks2 := 0) dX11_askLaw_28 wd723 YX6_show ⟨wd724, wd725⟩ (mk_get R.2.2.2.2.1.2.1) rfl rfl (s_X6_show_vz g hT I4 la R.2.2.2.2.1 b16 hb16 x0 (by omega) (by omega) y1 (by omega) (by omega) x3 (by omega) (by omega) v17 (by omega) (by omega) k28 (by omega) (by omega)) rfl rfl (Nat.le_of_ble_eq_true rfl) (by decide) rfl rfl 31 rfl (fun rv h1 q23 => ?_)
        obtain ⟨m24, n25, rfl, rfl, I26, K27, rm24⟩ := q23
        replace rm24 : FCT (m24 (la + 7)) (m2 (b16 + 6)) (m2 (b16 + 2)) 0 0 (wrN m2 b16) y1.toInt x3.toInt v17.toInt x0.toInt := rm24
        have K27c := K27
        have K27 := K5.trans (K27.sub (by first | exact wg_l (by decide) | exact wg_g (by decide) | exact WX_wg | exact la7_wg zR (by decide) | exact wS_wg zR (by decide) | exact wsL_wg zR (by decide)))
        show PV _ _ _ _ _ _ _ 31 [.ref 0, .int x0, .int x1, .int x2, .int x3, .int y1] [] _
        have k31 : FCc m x0.toInt.toNat y1.toInt.toNat x3.toInt (fsn m24 la) := FCc_of rm24 k28b (by omega) kf3 (by omega) k28d (by omega)
        have k31l : m24 la 7 = m la 7 := K27 la 7 (wN_l7 zR)
        refine pv_aload_n (M := mX11_askLaw) 0 dX11_askLaw_31 32 rfl rfl rfl ?_
        refine mv_get (M := mX11_askLaw) (v := .ref 107) dX11_askLaw_32 FX11 10 wd417 (by decide) (tl0 hT) rfl rfl 35 rfl ?_
        refine mv_get (M := mX11_askLaw) (v := .ref 108) dX11_askLaw_35 FX2 0 wd347 (by decide) (tl107 hT) rfl rfl 38 rfl ?_
        refine pv_iload (M := mX11_askLaw) dX11_askLaw_38 40 rfl rfl ?_
        refine pv_aload_n (M := mX11_askLaw) 0 dX11_askLaw_40 41 rfl rfl rfl ?_
        refine mv_get (M := mX11_askLaw) (v := .ref la) dX11_askLaw_41 FX11 4 wd411 (by decide) (tl0 hT) rfl R.2.2.1 44 rfl ?_
        have k44 : LAWc m24 la t (m24 la 7).toInt.toNat := by rw [show m24 la 7 = m la 7 from K27 la 7 (wN_l7 zR)]; exact LAWc_m hp1 (K27 la 2 (wN_l2 zR)) (fun a j h1 h2 => K27 a j (wN_la zR h1 h2))
        refine pv_callv (M := mX11_askLaw) (as := []) (st := [.int y1, .ref 108]) (kc2 := 0) (ks2 := 0) dX11_askLaw_44 wd737 YX6_forbids ⟨wd738, wd739⟩ (mk_get R.2.2.2.2.1.2.1) rfl rfl (s_X6_forbids_vz g hT I26 la R.2.2.2.2.1 t k44) rfl rfl (Nat.le_of_ble_eq_true rfl) (by decide) rfl rfl 47 rfl (fun rv h1 q31 => ?_)
        obtain ⟨m32, n33, v36, rfl, rfl, I34, K35, pv36, qv36, rv36⟩ := q31
        replace rv36 : (v36.toInt = 1 ∧ FRB t (m24 la 7).toInt.toNat (fsn m24 la)) ∨ (v36.toInt = 0 ∧ ¬ FRB t (m24 la 7).toInt.toNat (fsn m24 la)) := rv36
        have K35c := K35
        have K35 := K27.trans (K35.sub (by first | exact wg_l (by decide) | exact wg_g (by decide) | exact WX_wg | exact la7_wg zR (by decide) | exact wS_wg zR (by decide) | exact wsL_wg zR (by decide)))
        show PV _ _ _ _ _ _ _ 47 [.ref 0, .int x0, .int x1, .int x2, .int x3, .int y1] [.int v36, .int y1, .ref 108] _
        have k47 := rv36
        have k47l : (m24 la 7).toInt = (m la 7).toInt := by rw [k31l]
        rw [k47l] at k47
        refine pv_if_ne (M := mX11_askLaw) (tgt := 54) dX11_askLaw_47 50 rfl (by decide) (fun c40 => ?_) (fun c40 => ?_)
        · have c40 := iv_ne (X := v36.toInt) (Y := 0) c40 rfl (by decide)
          refine pv_iconst (M := mX11_askLaw) (v := 0) dX11_askLaw_54 55 rfl (by decide) ?_
          have k55 : ((0 : Int) = 1 ∧ FFc m la t x0.toInt.toNat y1.toInt.toNat x3.toInt) ∨ ((0 : Int) = 0 ∧ FBc m la t x0.toInt.toNat y1.toInt.toNat x3.toInt) := by first | exact Or.inl ⟨by decide, _, k31, (k47.resolve_left (fun q => by have q1 := q.1; omega)).2⟩ | exact Or.inr ⟨by decide, _, k31, (k47.resolve_right (fun q => by have q1 := q.1; omega)).2⟩
          refine iv_zast (M := mX11_askLaw) (X := y1.toInt) (l1 := 0) (l2 := 1) dX11_askLaw_55 (tl108 hT) rfl (by omega) (by omega) I34 (fun _ => rfl) (y := 0) (by decide) (by decide) (by decide) 56 rfl (fun m42 e45 I43 => ?_)
          have K44 := K35.set e45 (by first | rfl | decide)
          refine pv_aload_n (M := mX11_askLaw) 0 dX11_askLaw_56 57 rfl rfl rfl ?_
          refine mv_get (M := mX11_askLaw) (v := .ref 107) dX11_askLaw_57 FX11 10 wd417 (by decide) (tl0 hT) rfl rfl 60 rfl ?_
          refine mv_get (M := mX11_askLaw) (v := .ref 109) dX11_askLaw_60 FX2 1 wd349 (by decide) (tl107 hT) rfl rfl 63 rfl ?_
          refine pv_iload (M := mX11_askLaw) dX11_askLaw_63 65 rfl rfl ?_
          refine pv_aload_n (M := mX11_askLaw) 0 dX11_askLaw_65 66 rfl rfl rfl ?_
          refine mv_get (M := mX11_askLaw) (v := .ref la) dX11_askLaw_66 FX11 4 wd411 (by decide) (tl0 hT) rfl R.2.2.1 69 rfl ?_
          have k69 : LAWc m42 la t (m42 la 7).toInt.toNat := by rw [show m42 la 7 = m la 7 from K44 la 7 (wN_l7 zR)]; exact LAWc_m hp1 (K44 la 2 (wN_l2 zR)) (fun a j h1 h2 => K44 a j (wN_la zR h1 h2))
          have k69f : fsn m42 la = fsn m24 la := fsn_eq (fun j => by rw [e45, up2_ne (by omega), K35c _ j (wS_out (by omega) (by omega))])
          have k69l : (m42 la 7).toInt = (m la 7).toInt := congrArg Int32.toInt (K44 la 7 (wN_l7 zR))
          refine pv_callv (M := mX11_askLaw) (as := []) (st := [.int y1, .ref 109]) (kc2 := 0) (ks2 := 0) dX11_askLaw_69 wd764 YX6_priceNow ⟨wd765, wd766⟩ (mk_get R.2.2.2.2.1.2.1) rfl rfl (s_X6_priceNow_vz g hT I43 la R.2.2.2.2.1 t k69) rfl rfl (Nat.le_of_ble_eq_true rfl) (by decide) rfl rfl 72 rfl (fun rv h1 q49 => ?_)
          obtain ⟨m50, n51, v54, rfl, rfl, I52, K53, pv54, qv54, rv54⟩ := q49
          replace rv54 : v54.toInt = prc t (fsn m42 la) (m42 la 7).toInt.toNat 0 := rv54
          have K53c := K53
          have K53 := K44.trans (K53.sub (by first | exact wg_l (by decide) | exact wg_g (by decide) | exact WX_wg | exact la7_wg zR (by decide) | exact wS_wg zR (by decide) | exact wsL_wg zR (by decide)))
          show PV _ _ _ _ _ _ _ 72 [.ref 0, .int x0, .int x1, .int x2, .int x3, .int y1] [.int v54, .int y1, .ref 109] _
          have k72 := rv54
          rw [k69f, k69l] at k72
          refine iv_iast (M := mX11_askLaw) (X := y1.toInt) (l1 := (-2147483648)) (l2 := 2147483647) dX11_askLaw_72 (tl109 hT) rfl (by omega) (by omega) I52 (fun _ => rfl) (iv_rng v54).1 (iv_rng v54).2 73 rfl (fun m57 e60 I58 => ?_)
          have K59 := K53.set e60 (by first | rfl | decide)
          have k73 : ((m57 108 y1.toInt.toNat).toInt = 1 ∧ FFc m la t x0.toInt.toNat y1.toInt.toNat x3.toInt) ∨ ((m57 108 y1.toInt.toNat).toInt = 0 ∧ FBc m la t x0.toInt.toNat y1.toInt.toNat x3.toInt) := by rw [e60, up2_ne (by omega), K53c 108 _ (wS_out (by omega) (by omega)), e45, up2_at (by omega)]; first | exact k55 | (rw [Int32.toInt_zero]; exact k55) | (rw [show (1 : Int32).toInt = 1 from (by decide)]; exact k55)
          have k74 : PRc m la t x0.toInt.toNat y1.toInt.toNat x3.toInt (m57 109 y1.toInt.toNat) := ⟨_, k31, by rw [e60, up2_at (by omega)]; exact k72⟩
          refine iv_inc (M := mX11_askLaw) (C := 1) dX11_askLaw_73 76 rfl rfl (by decide) rfl rfl (by decide) (by omega) (by omega) (fun v63 ev63 => ?_)
          show PV _ _ _ _ _ _ _ 76 [.ref 0, .int x0, .int x1, .int x2, .int x3, .int v63] [] _
          refine pv_goto (M := mX11_askLaw) (tgt := 3) dX11_askLaw_76 (by decide) ?_
          have kbA : ∀ p : Nat, x1.toInt ≤ (p : Int) → (p : Int) < v63.toInt → ASK m la t x0.toInt.toNat p x3.toInt (m57 108 p) (m57 109 p) := fun p h1 h2 => if z : (p : Int) = y1.toInt then (by have ep : p = (y1.toInt).toNat := (by omega); rw [ep]; exact ⟨k73, k74⟩) else (by rw [show m57 108 p = m2 108 p from by rw [e60, up2_ne (by omega), K53c 108 p (wS_out (by omega) (by omega)), e45, up2_ne (by omega), K35c 108 p (wS_out (by omega) (by omega)), K27c 108 p (wr_out (by omega))], show m57 109 p = m2 109 p from by rw [e60, up2_ne (by omega), K53c 109 p (wS_out (by omega) (by omega)), e45, up2_ne (by omega), K35c 109 p (wS_out (by omega) (by omega)), K27c 109 p (wr_out (by omega))]]; exact kgA p h1 (by omega))
          exact ih8 v63 m57 n51 (by first | omega | assumption | exact (iv_rng _).2 | exact (iv_rng _).1 | decide) (by first | omega | assumption | exact (iv_rng _).2 | exact (iv_rng _).1 | decide) (by first | omega | assumption | (show x1.toInt ≤ v63.toInt; omega) | decide) kbA I58 K59 (by omega)
        · have c40 := iv_eq (X := v36.toInt) (Y := 0) c40 rfl (by decide)
          refine pv_iconst (M := mX11_askLaw) (v := 1) dX11_askLaw_50 51 rfl (by decide) ?_
          refine pv_goto (M := mX11_askLaw) (tgt := 55) dX11_askLaw_51 (by decide) ?_
          have k55 : ((1 : Int) = 1 ∧ FFc m la t x0.toInt.toNat y1.toInt.toNat x3.toInt) ∨ ((1 : Int) = 0 ∧ FBc m la t x0.toInt.toNat y1.toInt.toNat x3.toInt) := by first | exact Or.inl ⟨by decide, _, k31, (k47.resolve_left (fun q => by have q1 := q.1; omega)).2⟩ | exact Or.inr ⟨by decide, _, k31, (k47.resolve_right (fun q => by have q1 := q.1; omega)).2⟩
          refine iv_zast (M := mX11_askLaw) (X := y1.toInt) (l1 := 0) (l2 := 1) dX11_askLaw_55 (tl108 hT) rfl (by omega) (by omega) I34 (fun _ => rfl) (y := 1) (by decide) (by decide) (by decide) 56 rfl (fun m66 e69 I67 => ?_)
          have K68 := K35.set e69 (by first | rfl | decide)
          refine pv_aload_n (M := mX11_askLaw) 0 dX11_askLaw_56 57 rfl rfl rfl ?_
          refine mv_get (M := mX11_askLaw) (v := .ref 107) dX11_askLaw_57 FX11 10 wd417 (by decide) (tl0 hT) rfl rfl 60 rfl ?_
          refine mv_get (M := mX11_askLaw) (v := .ref 109) dX11_askLaw_60 FX2 1 wd349 (by decide) (tl107 hT) rfl rfl 63 rfl ?_
          refine pv_iload (M := mX11_askLaw) dX11_askLaw_63 65 rfl rfl ?_
          refine pv_aload_n (M := mX11_askLaw) 0 dX11_askLaw_65 66 rfl rfl rfl ?_
          refine mv_get (M := mX11_askLaw) (v := .ref la) dX11_askLaw_66 FX11 4 wd411 (by decide) (tl0 hT) rfl R.2.2.1 69 rfl ?_
          have k69 : LAWc m66 la t (m66 la 7).toInt.toNat := by rw [show m66 la 7 = m la 7 from K68 la 7 (wN_l7 zR)]; exact LAWc_m hp1 (K68 la 2 (wN_l2 zR)) (fun a j h1 h2 => K68 a j (wN_la zR h1 h2))
          have k69f : fsn m66 la = fsn m24 la := fsn_eq (fun j => by rw [e69, up2_ne (by omega), K35c _ j (wS_out (by omega) (by omega))])
          have k69l : (m66 la 7).toInt = (m la 7).toInt := congrArg Int32.toInt (K68 la 7 (wN_l7 zR))
          refine pv_callv (M := mX11_askLaw) (as := []) (st := [.int y1, .ref 109]) (kc2 := 0) (ks2 := 0) dX11_askLaw_69 wd764 YX6_priceNow ⟨wd765, wd766⟩ (mk_get R.2.2.2.2.1.2.1) rfl rfl (s_X6_priceNow_vz g hT I67 la R.2.2.2.2.1 t k69) rfl rfl (Nat.le_of_ble_eq_true rfl) (by decide) rfl rfl 72 rfl (fun rv h1 q73 => ?_)
          obtain ⟨m74, n75, v78, rfl, rfl, I76, K77, pv78, qv78, rv78⟩ := q73
          replace rv78 : v78.toInt = prc t (fsn m66 la) (m66 la 7).toInt.toNat 0 := rv78
          have K77c := K77
          have K77 := K68.trans (K77.sub (by first | exact wg_l (by decide) | exact wg_g (by decide) | exact WX_wg | exact la7_wg zR (by decide) | exact wS_wg zR (by decide) | exact wsL_wg zR (by decide)))
          show PV _ _ _ _ _ _ _ 72 [.ref 0, .int x0, .int x1, .int x2, .int x3, .int y1] [.int v78, .int y1, .ref 109] _
          have k72 := rv78
          rw [k69f, k69l] at k72
          refine iv_iast (M := mX11_askLaw) (X := y1.toInt) (l1 := (-2147483648)) (l2 := 2147483647) dX11_askLaw_72 (tl109 hT) rfl (by omega) (by omega) I76 (fun _ => rfl) (iv_rng v78).1 (iv_rng v78).2 73 rfl (fun m81 e84 I82 => ?_)
          have K83 := K77.set e84 (by first | rfl | decide)
          have k73 : ((m81 108 y1.toInt.toNat).toInt = 1 ∧ FFc m la t x0.toInt.toNat y1.toInt.toNat x3.toInt) ∨ ((m81 108 y1.toInt.toNat).toInt = 0 ∧ FBc m la t x0.toInt.toNat y1.toInt.toNat x3.toInt) := by rw [e84, up2_ne (by omega), K77c 108 _ (wS_out (by omega) (by omega)), e69, up2_at (by omega)]; first | exact k55 | (rw [Int32.toInt_zero]; exact k55) | (rw [show (1 : Int32).toInt = 1 from (by decide)]; exact k55)
          have k74 : PRc m la t x0.toInt.toNat y1.toInt.toNat x3.toInt (m81 109 y1.toInt.toNat) := ⟨_, k31, by rw [e84, up2_at (by omega)]; exact k72⟩
          refine iv_inc (M := mX11_askLaw) (C := 1) dX11_askLaw_73 76 rfl rfl (by decide) rfl rfl (by decide) (by omega) (by omega) (fun v87 ev87 => ?_)
          show PV _ _ _ _ _ _ _ 76 [.ref 0, .int x0, .int x1, .int x2, .int x3, .int v87] [] _
          refine pv_goto (M := mX11_askLaw) (tgt := 3) dX11_askLaw_76 (by decide) ?_
          have kbA : ∀ p : Nat, x1.toInt ≤ (p : Int) → (p : Int) < v87.toInt → ASK m la t x0.toInt.toNat p x3.toInt (m81 108 p) (m81 109 p) := fun p h1 h2 => if z : (p : Int) = y1.toInt then (by have ep : p = (y1.toInt).toNat := (by omega); rw [ep]; exact ⟨k73, k74⟩) else (by rw [show m81 108 p = m2 108 p from by rw [e84, up2_ne (by omega), K77c 108 p (wS_out (by omega) (by omega)), e69, up2_ne (by omega), K35c 108 p (wS_out (by omega) (by omega)), K27c 108 p (wr_out (by omega))], show m81 109 p = m2 109 p from by rw [e84, up2_ne (by omega), K77c 109 p (wS_out (by omega) (by omega)), e69, up2_ne (by omega), K35c 109 p (wS_out (by omega) (by omega)), K27c 109 p (wr_out (by omega))]]; exact kgA p h1 (by omega))
          exact ih8 v87 m81 n75 (by first | omega | assumption | exact (iv_rng _).2 | exact (iv_rng _).1 | decide) (by first | omega | assumption | exact (iv_rng _).2 | exact (iv_rng _).1 | decide) (by first | omega | assumption | (show x1.toInt ≤ v87.toInt; omega) | decide) kbA I82 K83 (by omega)
  exact lp7 (((40 - x1.toInt) : Int).toNat + 1) x1 m n (by first | omega | assumption | exact (iv_rng _).2 | exact (iv_rng _).1 | decide) (by first | omega | assumption | exact (iv_rng _).2 | exact (iv_rng _).1 | decide) (by first | omega | assumption | (show x1.toInt ≤ x1.toInt; omega) | decide) (fun p h1 h2 => by omega) I Kp (by omega)

set_option maxHeartbeats 2000000 in
set_option maxRecDepth 20000 in
theorem s_X11_writeStroke_va (g : pv_G) {T : List mv_T} {m : Nat → Nat → Int32} {n : Nat → Nat → Int64} {r : Nat → Value} {la lb : Nat} (hT : TX T) (I : IV BB m) (R : RX T r la lb) (x0 : Int32) (hl0 : 0 ≤ x0.toInt) (hh0 : x0.toInt ≤ 7) (x1 : Int32) (hl1 : 0 ≤ x1.toInt) (hh1 : x1.toInt ≤ 39) (x2 : Int32) (hl2 : 1 ≤ x2.toInt) (hh2 : x2.toInt ≤ 9) (x3 : Int32) (hp0 : x1.toInt + x2.toInt ≤ (m ((4 + 7 * x0.toInt.toNat) + 3) 1).toInt) (hp1 : RST m (4 + 7 * x0.toInt.toNat)) (hp2 : (m 97 6).toInt ≤ 59) : PM g mX11_writeStroke yX11_writeStroke (sqI T BB wS3 r m (-2147483648) 2147483647 (fun m' v => v = smc (fun i => m 109 (x1.toInt.toNat + i)) x2.toInt.toNat ∧ STKc m m' (4 + 7 * x0.toInt.toNat) x0.toInt.toNat x1.toInt.toNat x2.toInt.toNat x3 v)) 3 0 0 [.ref 0, .int x0, .int x1, .int x2, .int x3] (mk T m n r) := by
  have Kp : fr wS3 m m := fr.rf
  have R0 := R
  have zR := R.2.2.2.2.1.1
  have zR2 := R.2.2.2.2.2.1
  refine PM.of 3 (lo := [.ref 0, .int x0, .int x1, .int x2, .int x3, pv_U, pv_U, pv_U]) rfl (by decide) rfl rfl (Nat.le_of_ble_eq_true rfl) ?_
  have kI97 : 0 ≤ (m 97 6).toInt := (I 97 6).1
  have ksz := sz40 (b := x0.toInt.toNat) I (by omega)
  refine pv_aload_n (M := mX11_writeStroke) 0 dX11_writeStroke_0 1 rfl rfl rfl ?_
  refine mv_get (M := mX11_writeStroke) (v := .ref 97) dX11_writeStroke_1 FX11 6 wd413 (by decide) (tl0 hT) rfl rfl 4 rfl ?_
  refine pv_iload_n (M := mX11_writeStroke) 1 dX11_writeStroke_4 5 rfl rfl rfl ?_
  refine pv_iload (M := mX11_writeStroke) dX11_writeStroke_5 7 rfl rfl ?_
  refine pv_aload_n (M := mX11_writeStroke) 0 dX11_writeStroke_7 8 rfl rfl rfl ?_
  refine iv_get (M := mX11_writeStroke) (l1 := 0) (l2 := 999) dX11_writeStroke_8 FX11 7 wd414 (by decide) (tl0 hT) rfl I rfl 11 rfl (fun v3 ev3 pv3 qv3 => ?_)
  have k11 : v3 = m 0 7 := ev3
  refine pv_callv (M := mX11_writeStroke) (as := [.int x0, .int x3, .int v3]) (st := []) (kc2 := 0) (ks2 := 0) dX11_writeStroke_11 wd781 YX1_begin ⟨wd782, wd783⟩ (mk_get (tl97 hT)) rfl rfl (s_X1_begin_va g hT I x0 x3 v3 (by first | omega | assumption | exact (iv_rng _).2 | exact (iv_rng _).1 | decide)) rfl rfl (Nat.le_of_ble_eq_true rfl) (by decide) rfl rfl 14 rfl (fun rv h1 q5 => ?_)
  obtain ⟨m6, n7, rfl, rfl, I8, K9, rm6⟩ := q5
  replace rm6 : BGN m m6 x0 x3 v3 := rm6
  have K9c := K9
  have K9 := Kp.trans (K9.sub (by first | exact wl_sub (by decide) | exact bl_wS36 (by omega) (by omega) (by omega) | exact bl_wS35 (by omega) (by omega) (by omega)))
  show PV _ _ _ _ _ _ _ 14 [.ref 0, .int x0, .int x1, .int x2, .int x3, pv_U, pv_U, pv_U] [] _
  have k14 := rm6
  have kf14 : ∀ a i, a ≤ 59 → m6 a i = m a i := fun a i q => K9c a i (wl_lt (N := 59) (by decide) q)
  refine pv_iconst (M := mX11_writeStroke) (v := 0) dX11_writeStroke_14 15 rfl (by decide) ?_
  refine pv_istore (M := mX11_writeStroke) (lo2 := [.ref 0, .int x0, .int x1, .int x2, .int x3, .int 0, pv_U, pv_U]) dX11_writeStroke_15 17 rfl (by decide) rfl rfl ?_
  refine pv_iload_n (M := mX11_writeStroke) 2 dX11_writeStroke_17 18 rfl rfl rfl ?_
  refine pv_istore (M := mX11_writeStroke) (lo2 := [.ref 0, .int x0, .int x1, .int x2, .int x3, .int 0, .int x1, pv_U]) dX11_writeStroke_18 20 rfl (by decide) rfl rfl ?_
  have lp19 : ∀ (fuel18 : Nat) (y12 : Int32) (y13 : Int32) (m14 : Nat → Nat → Int32) (n15 : Nat → Nat → Int64), (0 ≤ y13.toInt) → (y13.toInt ≤ 40) → (x1.toInt ≤ y13.toInt) → (y13.toInt ≤ x1.toInt + x2.toInt) → (WSI m m14 (4 + 7 * x0.toInt.toNat) x0.toInt.toNat x1.toInt.toNat (y13.toInt - x1.toInt).toNat x3 y12) → (y12 = smc (fun i => m 109 (x1.toInt.toNat + i)) (y13.toInt - x1.toInt).toNat) → IV BB m14 → fr wS3 m m14 → ((40 - y13.toInt) : Int).toNat < fuel18 → PV none g mX11_writeStroke (sqI T BB wS3 r m (-2147483648) 2147483647 (fun m' v => v = smc (fun i => m 109 (x1.toInt.toNat + i)) x2.toInt.toNat ∧ STKc m m' (4 + 7 * x0.toInt.toNat) x0.toInt.toNat x1.toInt.toNat x2.toInt.toNat x3 v)) 3 0 0 20 [.ref 0, .int x0, .int x1, .int x2, .int x3, .int y12, .int y13, pv_U] [] (mk T m14 n15 r) := by
    intro fuel18
    induction fuel18 with
    | zero => intro y12 y13 m14 n15 b21 b22 b23 b24 b25 b26 I16 K17 z27; omega
    | succ fuel18 ih20 =>
      intro y12 y13 m14 n15 b21 b22 b23 b24 b25 b26 I16 K17 z27
      have kgw := (show WSI m m14 (4 + 7 * x0.toInt.toNat) x0.toInt.toNat x1.toInt.toNat (y13.toInt - x1.toInt).toNat x3 y12 by assumption)
      have kgs := (show y12 = smc (fun i => m 109 (x1.toInt.toNat + i)) (y13.toInt - x1.toInt).toNat by assumption)
      have kx : ∀ a i, 5 ≤ a → a ≤ 59 → a ≠ (4 + 7 * x0.toInt.toNat) + 6 → m14 a i = m a i := kgw.2.2.2.2.2.2.2.2.2.2
      have kw1 := kgw.1
      refine pv_iload (M := mX11_writeStroke) dX11_writeStroke_20 22 rfl rfl ?_
      refine pv_iload_n (M := mX11_writeStroke) 2 dX11_writeStroke_22 23 rfl rfl rfl ?_
      refine pv_iload_n (M := mX11_writeStroke) 3 dX11_writeStroke_23 24 rfl rfl rfl ?_
      refine iv_iadd (M := mX11_writeStroke) (X := x1.toInt) (Y := x2.toInt) dX11_writeStroke_24 25 rfl rfl rfl (by omega) (by omega) (fun v32 ev32 => ?_)
      refine pv_icmp_ge (M := mX11_writeStroke) (tgt := 93) dX11_writeStroke_25 28 rfl (by decide) (fun c33 => ?_) (fun c33 => ?_)
      · have c33 := iv_le (X := v32.toInt) (Y := y13.toInt) c33 rfl rfl
        refine pv_aload_n (M := mX11_writeStroke) 0 dX11_writeStroke_93 94 rfl rfl rfl ?_
        refine mv_get (M := mX11_writeStroke) (v := .ref 3) dX11_writeStroke_94 FX11 1 wd408 (by decide) (tl0 hT) rfl rfl 97 rfl ?_
        refine pv_iload_n (M := mX11_writeStroke) 1 dX11_writeStroke_97 98 rfl rfl rfl ?_
        refine iv_qblank (M := mX11_writeStroke) (X := x0.toInt) dX11_writeStroke_98 hT R rfl (by omega) (by omega) 99 rfl (fun b34 eb34 hb34 => ?_)
        have zb34 := hb34.2.2.2.2.2.2.2
        have k99 : b34 = (4 + 7 * x0.toInt.toNat) := by omega
        refine pv_callv (M := mX11_writeStroke) (as := []) (st := []) (kc2 := 0) (ks2 := 0) dX11_writeStroke_99 wd491 YX0_gather ⟨wd492, wd493⟩ (mk_get hb34.1) rfl rfl (s_X0_gather_vz g hT I16 b34 hb34) rfl rfl (Nat.le_of_ble_eq_true rfl) (by decide) rfl rfl 102 rfl (fun rv h1 q36 => ?_)
        obtain ⟨m37, n38, rfl, rfl, I39, K40, rm37⟩ := q36
        replace rm37 : RST m37 b34 := rm37
        have K40c := K40
        have K40 := K17.trans (K40.sub (by first | exact wl_sub (by decide) | exact bl_wS36 (by omega) (by omega) (by omega) | exact bl_wS35 (by omega) (by omega) (by omega)))
        show PV _ _ _ _ _ _ _ 102 [.ref 0, .int x0, .int x1, .int x2, .int x3, .int y12, .int y13, pv_U] [] _
        have k102 := rm37
        rw [k99] at k102
        have kf102 : ∀ a i, (a < (4 + 7 * x0.toInt.toNat) + 3 ∨ (4 + 7 * x0.toInt.toNat) + 5 < a) → m37 a i = m14 a i := fun a i q => K40c a i (wr_out (by omega))
        have k102w := WSI_e kgw kf102 k102 (by omega)
        have k102n : (y13.toInt - x1.toInt).toNat = x2.toInt.toNat := by omega
        refine pv_iload (M := mX11_writeStroke) dX11_writeStroke_102 104 rfl rfl ?_
        exact pv_iret (M := mX11_writeStroke) dX11_writeStroke_104 rfl rfl ⟨_, _, _, rfl, rfl, I39, K40, (iv_rng y12).1, (iv_rng y12).2, (by rw [k102n] at k102w kgs; exact ⟨kgs, k102w⟩)⟩
      · have c33 := iv_nle (X := v32.toInt) (Y := y13.toInt) c33 rfl rfl
        refine pv_aload_n (M := mX11_writeStroke) 0 dX11_writeStroke_28 29 rfl rfl rfl ?_
        refine mv_get (M := mX11_writeStroke) (v := .ref 3) dX11_writeStroke_29 FX11 1 wd408 (by decide) (tl0 hT) rfl rfl 32 rfl ?_
        refine pv_iload_n (M := mX11_writeStroke) 1 dX11_writeStroke_32 33 rfl rfl rfl ?_
        refine iv_qblank (M := mX11_writeStroke) (X := x0.toInt) dX11_writeStroke_33 hT R rfl (by omega) (by omega) 34 rfl (fun b46 eb46 hb46 => ?_)
        have zb46 := hb46.2.2.2.2.2.2.2
        refine pv_iload (M := mX11_writeStroke) dX11_writeStroke_34 36 rfl rfl ?_
        have k36 : b46 = (4 + 7 * x0.toInt.toNat) := by omega
        refine pv_callv (M := mX11_writeStroke) (as := [.int y13]) (st := []) (kc2 := 0) (ks2 := 0) dX11_writeStroke_36 wd708 YX0_ownAt ⟨wd709, wd710⟩ (mk_get hb46.1) rfl rfl (s_X0_ownAt_vz g hT I16 b46 hb46 y13) rfl rfl (Nat.le_of_ble_eq_true rfl) (by decide) rfl rfl 39 rfl (fun rv h1 q48 => ?_)
        obtain ⟨v49, rfl, rfl, pv49, qv49, rv49⟩ := q48
        replace rv49 : (0 ≤ y13.toInt ∧ y13.toInt < (m14 (b46 + 3) 1).toInt ∧ v49 = m14 (b46 + 5) y13.toInt.toNat) ∨ ((y13.toInt < 0 ∨ (m14 (b46 + 3) 1).toInt ≤ y13.toInt) ∧ v49.toInt = -1) := rv49
        show PV _ _ _ _ _ _ _ 39 [.ref 0, .int x0, .int x1, .int x2, .int x3, .int y12, .int y13, pv_U] [.int v49] _
        have k39 := rv49
        rw [k36] at k39
        have k39s : (m14 ((4 + 7 * x0.toInt.toNat) + 3) 1).toInt = (m ((4 + 7 * x0.toInt.toNat) + 3) 1).toInt := by rw [kx _ _ (by omega) (by omega) (by omega)]
        have k39v : v49 = m ((4 + 7 * x0.toInt.toNat) + 5) (x1.toInt.toNat + (y13.toInt - x1.toInt).toNat) := by have q := (k39.resolve_right (fun w => by have w1 := w.1; omega)).2.2; rw [q, kx _ _ (by omega) (by omega) (by omega)]; congr 1; omega
        have k39b := RST_at (p := y13.toInt) hp1 (by omega) (by omega)
        have k39n : 0 ≤ v49.toInt ∧ v49.toInt < (m ((4 + 7 * x0.toInt.toNat) + 1) 1).toInt := by rw [k39v, show x1.toInt.toNat + (y13.toInt - x1.toInt).toNat = y13.toInt.toNat by omega]; have q1 := k39b.1; have q2 := k39b.2.1.1; unfold wrN at q2; omega
        refine pv_istore (M := mX11_writeStroke) (lo2 := [.ref 0, .int x0, .int x1, .int x2, .int x3, .int y12, .int y13, .int v49]) dX11_writeStroke_39 41 rfl (by decide) rfl rfl ?_
        refine pv_aload_n (M := mX11_writeStroke) 0 dX11_writeStroke_41 42 rfl rfl rfl ?_
        refine mv_get (M := mX11_writeStroke) (v := .ref 97) dX11_writeStroke_42 FX11 6 wd413 (by decide) (tl0 hT) rfl rfl 45 rfl ?_
        refine pv_iload (M := mX11_writeStroke) dX11_writeStroke_45 47 rfl rfl ?_
        refine pv_aload_n (M := mX11_writeStroke) 0 dX11_writeStroke_47 48 rfl rfl rfl ?_
        refine mv_get (M := mX11_writeStroke) (v := .ref 107) dX11_writeStroke_48 FX11 10 wd417 (by decide) (tl0 hT) rfl rfl 51 rfl ?_
        refine mv_get (M := mX11_writeStroke) (v := .ref 109) dX11_writeStroke_51 FX2 1 wd349 (by decide) (tl107 hT) rfl rfl 54 rfl ?_
        refine pv_iload (M := mX11_writeStroke) dX11_writeStroke_54 56 rfl rfl ?_
        refine iv_iald (M := mX11_writeStroke) (X := y13.toInt) (l1 := (-2147483648)) (l2 := 2147483647) dX11_writeStroke_56 (tl109 hT) rfl (by omega) (by omega) I16 (fun _ => rfl) 57 rfl (fun v56 ev56 pv56 qv56 => ?_)
        have k57 : v56 = m 109 (x1.toInt.toNat + (y13.toInt - x1.toInt).toNat) := ev56.trans ((K17 109 _ rfl).trans (congrArg (fun z => m 109 z) (by omega)))
        have k57p : (m14 102 ((m14 97 6).toInt.toNat - 1)).toInt ≤ 8 := by rw [show (m14 97 6).toInt.toNat - 1 = (m 97 6).toInt.toNat by omega, kgw.2.2.2.2.2.1]; omega
        refine pv_callv (M := mX11_writeStroke) (as := [.int v49, .int v56]) (st := []) (kc2 := 0) (ks2 := 0) dX11_writeStroke_57 wd786 YX1_addLetter ⟨wd787, wd788⟩ (mk_get (tl97 hT)) rfl rfl (s_X1_addLetter_va g hT I16 v49 v56 (by omega) k57p) rfl rfl (Nat.le_of_ble_eq_true rfl) (by decide) rfl rfl 60 rfl (fun rv h1 q59 => ?_)
        obtain ⟨m60, n61, rfl, rfl, I62, K63, rm60⟩ := q59
        replace rm60 : ADL m14 m60 ((m14 97 6).toInt.toNat - 1) v49 v56 := rm60
        have K63c := K63
        have K63 := K17.trans (K63.sub (by first | exact wl_sub (by decide) | exact bl_wS36 (by omega) (by omega) (by omega) | exact bl_wS35 (by omega) (by omega) (by omega)))
        show PV _ _ _ _ _ _ _ 60 [.ref 0, .int x0, .int x1, .int x2, .int x3, .int y12, .int y13, .int v49] [] _
        have k60 := rm60
        rw [k57, show (m14 97 6).toInt.toNat - 1 = (m 97 6).toInt.toNat by omega] at k60
        have kf60 : ∀ a i, a ≤ 59 → m60 a i = m14 a i := fun a i q => K63c a i (wl_lt (N := 59) (by decide) q)
        refine pv_aload_n (M := mX11_writeStroke) 0 dX11_writeStroke_60 61 rfl rfl rfl ?_
        refine mv_get (M := mX11_writeStroke) (v := .ref 3) dX11_writeStroke_61 FX11 1 wd408 (by decide) (tl0 hT) rfl rfl 64 rfl ?_
        refine pv_iload_n (M := mX11_writeStroke) 1 dX11_writeStroke_64 65 rfl rfl rfl ?_
        refine iv_qblank (M := mX11_writeStroke) (X := x0.toInt) dX11_writeStroke_65 hT R rfl (by omega) (by omega) 66 rfl (fun b67 eb67 hb67 => ?_)
        have zb67 := hb67.2.2.2.2.2.2.2
        refine pv_iload (M := mX11_writeStroke) dX11_writeStroke_66 68 rfl rfl ?_
        refine pv_iconst (M := mX11_writeStroke) (v := 1) dX11_writeStroke_68 69 rfl (by decide) ?_
        have k69 : b67 = (4 + 7 * x0.toInt.toNat) := by omega
        have k69s : (m60 (b67 + 1) 1).toInt = (m ((4 + 7 * x0.toInt.toNat) + 1) 1).toInt := by rw [k69, kf60 _ _ (by omega), kx _ _ (by omega) (by omega) (by omega)]
        have z70 : (1 : Int32).toInt = 1 := by decide
        refine pv_callv (M := mX11_writeStroke) (as := [.int v49, .int 1]) (st := []) (kc2 := 0) (ks2 := 0) dX11_writeStroke_69 wd790 YX0_mark ⟨wd791, wd792⟩ (mk_get hb67.1) rfl rfl (s_X0_mark_va g hT I62 b67 hb67 v49 1 (by decide) (by decide) (by omega) (by omega)) rfl rfl (Nat.le_of_ble_eq_true rfl) (by decide) rfl rfl 72 rfl (fun rv h1 q71 => ?_)
        obtain ⟨m72, n73, rfl, rfl, I74, K75, rm72⟩ := q71
        replace rm72 : ∀ w, m72 (b67 + 6) w = if w = v49.toInt.toNat then (1 : Int32) else m60 (b67 + 6) w := by have q_ := rm72; (try rw [z70] at q_); exact q_
        have K75c := K75
        have K75 := K63.trans (K75.sub (by first | exact wl_sub (by decide) | exact bl_wS36 (by omega) (by omega) (by omega) | exact bl_wS35 (by omega) (by omega) (by omega)))
        show PV _ _ _ _ _ _ _ 72 [.ref 0, .int x0, .int x1, .int x2, .int x3, .int y12, .int y13, .int v49] [] _
        have k72 := rm72
        rw [k69] at k72
        have kf72 : ∀ a i, a ≠ (4 + 7 * x0.toInt.toNat) + 6 → m72 a i = m60 a i := fun a i q => K75c a i (wr_out (by omega))
        have k72w : WSI m m72 (4 + 7 * x0.toInt.toNat) x0.toInt.toNat x1.toInt.toNat ((y13.toInt - x1.toInt).toNat + 1) x3 (y12 + m 109 (x1.toInt.toNat + (y13.toInt - x1.toInt).toNat)) := WSI_s kgw k60 kf60 k39v k72 kf72 (by omega) rfl rfl
        refine pv_iload (M := mX11_writeStroke) dX11_writeStroke_72 74 rfl rfl ?_
        refine pv_aload_n (M := mX11_writeStroke) 0 dX11_writeStroke_74 75 rfl rfl rfl ?_
        refine mv_get (M := mX11_writeStroke) (v := .ref 107) dX11_writeStroke_75 FX11 10 wd417 (by decide) (tl0 hT) rfl rfl 78 rfl ?_
        refine mv_get (M := mX11_writeStroke) (v := .ref 109) dX11_writeStroke_78 FX2 1 wd349 (by decide) (tl107 hT) rfl rfl 81 rfl ?_
        refine pv_iload (M := mX11_writeStroke) dX11_writeStroke_81 83 rfl rfl ?_
        refine iv_iald (M := mX11_writeStroke) (X := y13.toInt) (l1 := (-2147483648)) (l2 := 2147483647) dX11_writeStroke_83 (tl109 hT) rfl (by omega) (by omega) I74 (fun _ => rfl) 84 rfl (fun v80 ev80 pv80 qv80 => ?_)
        have k84 : v80 = m 109 (x1.toInt.toNat + (y13.toInt - x1.toInt).toNat) := ev80.trans ((K75 109 _ rfl).trans (congrArg (fun z => m 109 z) (by omega)))
        refine iv_addU (M := mX11_writeStroke) dX11_writeStroke_84 85 rfl (fun v82 ev82 => ?_)
        have k85 : v82 = y12 + m 109 (x1.toInt.toNat + (y13.toInt - x1.toInt).toNat) := by rw [ev82, k84]
        refine pv_istore (M := mX11_writeStroke) (lo2 := [.ref 0, .int x0, .int x1, .int x2, .int x3, .int v82, .int y13, .int v49]) dX11_writeStroke_85 87 rfl (by decide) rfl rfl ?_
        refine iv_inc (M := mX11_writeStroke) (C := 1) dX11_writeStroke_87 90 rfl rfl (by decide) rfl rfl (by decide) (by omega) (by omega) (fun v84 ev84 => ?_)
        show PV _ _ _ _ _ _ _ 90 [.ref 0, .int x0, .int x1, .int x2, .int x3, .int v82, .int v84, .int v49] [] _
        refine pv_goto (M := mX11_writeStroke) (tgt := 20) dX11_writeStroke_90 (by decide) ?_
        refine pv_fg (lo2 := [.ref 0, .int x0, .int x1, .int x2, .int x3, .int v82, .int v84, pv_U]) ⟨Or.inr rfl, ⟨Or.inr rfl, ⟨Or.inr rfl, ⟨Or.inr rfl, ⟨Or.inr rfl, ⟨Or.inr rfl, ⟨Or.inr rfl, ⟨Or.inl rfl, trivial⟩⟩⟩⟩⟩⟩⟩⟩ ?_
        have kn20 : (v84.toInt - x1.toInt).toNat = (y13.toInt - x1.toInt).toNat + 1 := by omega
        have kwb : WSI m m72 (4 + 7 * x0.toInt.toNat) x0.toInt.toNat x1.toInt.toNat (v84.toInt - x1.toInt).toNat x3 v82 := by rw [k85, kn20]; exact k72w
        have kwc : v82 = smc (fun i => m 109 (x1.toInt.toNat + i)) (v84.toInt - x1.toInt).toNat := by rw [kn20, smc_s, ← kgs]; exact k85
        exact ih20 v82 v84 m72 n73 (by first | omega | assumption | exact (iv_rng _).2 | exact (iv_rng _).1 | decide) (by first | omega | assumption | exact (iv_rng _).2 | exact (iv_rng _).1 | decide) (by first | omega | assumption | (show x1.toInt ≤ v84.toInt; omega) | decide) (by first | omega | assumption | (show v84.toInt ≤ x1.toInt + x2.toInt; omega) | decide) kwb kwc I74 K75 (by omega)
  have z88 : (0 : Int32).toInt = 0 := by decide
  have kw0 : WSI m m6 (4 + 7 * x0.toInt.toNat) x0.toInt.toNat x1.toInt.toNat (x1.toInt - x1.toInt).toNat x3 0 := by rw [show (x1.toInt - x1.toInt).toNat = 0 by omega]; exact WSI_b k14 (by omega) k11 kf14 (by omega)
  exact lp19 (((40 - x1.toInt) : Int).toNat + 1) 0 x1 m6 n7 (by first | omega | assumption | exact (iv_rng _).2 | exact (iv_rng _).1 | decide) (by first | omega | assumption | exact (iv_rng _).2 | exact (iv_rng _).1 | decide) (by first | omega | assumption | (show x1.toInt ≤ x1.toInt; omega) | decide) (by first | omega | assumption | (show x1.toInt ≤ x1.toInt + x2.toInt; omega) | decide) kw0 (by rw [show (x1.toInt - x1.toInt).toNat = 0 by omega]; rfl) I8 K9 (by omega)

set_option maxHeartbeats 2000000 in
set_option maxRecDepth 20000 in
theorem s_X11_strike_va (g : pv_G) {T : List mv_T} {m : Nat → Nat → Int32} {n : Nat → Nat → Int64} {r : Nat → Value} {la lb : Nat} (hT : TX T) (I : IV BB m) (R : RX T r la lb) (x0 : Int32) (x1 : Int32) (x2 : Int32) (x3 : Int32) (t : Int → Int) (hp0 : RSA m) (hp1 : LAWc m la t (m la 7).toInt.toNat) : PM g mX11_strike yX11_strike (sqI T BB wO r m (-2147483648) 2147483647 (fun m' v => STRK ((0 ≤ x0.toInt ∧ x0.toInt < (m 0 2).toInt) ∧ (0 ≤ x3.toInt ∧ x3.toInt ≤ 7) ∧ (1 ≤ x2.toInt ∧ x2.toInt ≤ 9) ∧ 0 ≤ x1.toInt ∧ x1.toInt + x2.toInt ≤ (m (4 + 7 * x0.toInt.toNat + 3) 1).toInt) (fun k => FBc m la t x0.toInt.toNat (x1.toInt.toNat + k) x3.toInt) (fun k => FFc m la t x0.toInt.toNat (x1.toInt.toNat + k) x3.toInt) (fun k v => PRc m la t x0.toInt.toNat (x1.toInt.toNat + k) x3.toInt v) (60 ≤ (m 97 6).toInt) x2.toInt.toNat (fr wN m m') (fun v => m' 0 8 = m 0 8 ∧ STKc m m' (4 + 7 * x0.toInt.toNat) x0.toInt.toNat x1.toInt.toNat x2.toInt.toNat x3 v) v)) 7 0 0 [.ref 0, .int x0, .int x1, .int x2, .int x3] (mk T m n r) := by
  have Kp : fr wO m m := fr.rf
  have R0 := R
  have zR := R.2.2.2.2.1.1
  have zR2 := R.2.2.2.2.2.1
  have z73 : 0 ≤ (m 97 6).toInt ∧ (m 97 6).toInt ≤ 60 := I 97 6
  refine PM.of 1 (lo := [.ref 0, .int x0, .int x1, .int x2, .int x3, pv_U]) rfl (by decide) rfl rfl (Nat.le_of_ble_eq_true rfl) ?_
  refine pv_aload_n (M := mX11_strike) 0 dX11_strike_0 1 rfl rfl rfl ?_
  refine pv_iload_n (M := mX11_strike) 1 dX11_strike_1 2 rfl rfl rfl ?_
  refine pv_iload_n (M := mX11_strike) 2 dX11_strike_2 3 rfl rfl rfl ?_
  refine pv_callv (M := mX11_strike) (as := [.int x0, .int x1]) (st := []) (kc2 := 0) (ks2 := 0) dX11_strike_3 wd696 YX11_isPlace ⟨wd698, wd15⟩ (mk_get (tl0 hT)) rfl rfl (s_X11_isPlace_va g hT I R x0 x1) rfl rfl (Nat.le_of_ble_eq_true rfl) (by decide) rfl rfl 6 rfl (fun rv h1 q1 => ?_)
  obtain ⟨v2, rfl, rfl, pv2, qv2, rv2⟩ := q1
  replace rv2 : (v2 = 0 ∨ ((0 ≤ x0.toInt ∧ x0.toInt ≤ 7) ∧ (0 ≤ x1.toInt ∧ x1.toInt ≤ 39))) ∧ ((v2.toInt = 1 ∧ ((0 ≤ x0.toInt ∧ x0.toInt < (m 0 2).toInt) ∧ 0 ≤ x1.toInt ∧ x1.toInt < (m (4 + 7 * x0.toInt.toNat + 3) 1).toInt)) ∨ (v2.toInt = 0 ∧ ¬ ((0 ≤ x0.toInt ∧ x0.toInt < (m 0 2).toInt) ∧ 0 ≤ x1.toInt ∧ x1.toInt < (m (4 + 7 * x0.toInt.toNat + 3) 1).toInt))) := rv2
  show PV _ _ _ _ _ _ _ 6 [.ref 0, .int x0, .int x1, .int x2, .int x3, pv_U] [.int v2] _
  have k6 := rv2.2
  refine pv_if_eq (M := mX11_strike) (tgt := 28) dX11_strike_6 9 rfl (by decide) (fun c4 => ?_) (fun c4 => ?_)
  · have c4 := iv_eq (X := v2.toInt) (Y := 0) c4 rfl (by decide)
    refine pv_iconst (M := mX11_strike) (v := (-1)) dX11_strike_28 29 rfl (by decide) ?_
    have z5 : ((-1) : Int32).toInt = (-1) := by decide
    exact pv_iret (M := mX11_strike) dX11_strike_29 rfl rfl ⟨_, _, _, rfl, rfl, I, Kp, by decide, by decide, (Or.inl ⟨by omega, by decide, fr.rf⟩)⟩
  · have pc4 := rv2.1.resolve_left c4
    have c4 := iv_ne (X := v2.toInt) (Y := 0) c4 rfl (by decide)
    refine pv_iload (M := mX11_strike) dX11_strike_9 11 rfl rfl ?_
    refine pv_calls (M := mX11_strike) (as := [.int x3]) (st := []) (kc2 := 0) (ks2 := 0) dX11_strike_11 wd716 YX11_isClerk wd717 (s_X11_isClerk_va g hT I x3) rfl rfl (Nat.le_of_ble_eq_true rfl) (by decide) rfl rfl 14 rfl (fun rv h1 q6 => ?_)
    obtain ⟨v7, rfl, rfl, pv7, qv7, rv7⟩ := q6
    replace rv7 : (v7 = 0 ∨ (0 ≤ x3.toInt ∧ x3.toInt ≤ 7)) ∧ ((v7.toInt = 1 ∧ 0 ≤ x3.toInt ∧ x3.toInt ≤ 7) ∨ (v7.toInt = 0 ∧ (x3.toInt < 0 ∨ 7 < x3.toInt))) := rv7
    show PV _ _ _ _ _ _ _ 14 [.ref 0, .int x0, .int x1, .int x2, .int x3, pv_U] [.int v7] _
    have k14 := rv7.2
    refine pv_if_eq (M := mX11_strike) (tgt := 28) dX11_strike_14 17 rfl (by decide) (fun c9 => ?_) (fun c9 => ?_)
    · have c9 := iv_eq (X := v7.toInt) (Y := 0) c9 rfl (by decide)
      refine pv_iconst (M := mX11_strike) (v := (-1)) dX11_strike_28 29 rfl (by decide) ?_
      have z10 : ((-1) : Int32).toInt = (-1) := by decide
      exact pv_iret (M := mX11_strike) dX11_strike_29 rfl rfl ⟨_, _, _, rfl, rfl, I, Kp, by decide, by decide, (Or.inl ⟨by omega, by decide, fr.rf⟩)⟩
    · have pc9 := rv7.1.resolve_left c9
      have c9 := iv_ne (X := v7.toInt) (Y := 0) c9 rfl (by decide)
      refine pv_iload_n (M := mX11_strike) 3 dX11_strike_17 18 rfl rfl rfl ?_
      refine pv_iconst (M := mX11_strike) (v := 1) dX11_strike_18 19 rfl (by decide) ?_
      refine pv_icmp_lt (M := mX11_strike) (tgt := 28) dX11_strike_19 22 rfl (by decide) (fun c11 => ?_) (fun c11 => ?_)
      · have c11 := iv_lt (X := x2.toInt) (Y := 1) c11 rfl (by decide)
        refine pv_iconst (M := mX11_strike) (v := (-1)) dX11_strike_28 29 rfl (by decide) ?_
        have z12 : ((-1) : Int32).toInt = (-1) := by decide
        exact pv_iret (M := mX11_strike) dX11_strike_29 rfl rfl ⟨_, _, _, rfl, rfl, I, Kp, by decide, by decide, (Or.inl ⟨by omega, by decide, fr.rf⟩)⟩
      · have c11 := iv_nlt (X := x2.toInt) (Y := 1) c11 rfl (by decide)
        refine pv_iload_n (M := mX11_strike) 3 dX11_strike_22 23 rfl rfl rfl ?_
        refine pv_bipush (M := mX11_strike) (v := 9) dX11_strike_23 25 rfl (by decide) ?_
        refine pv_icmp_le (M := mX11_strike) (tgt := 30) dX11_strike_25 28 rfl (by decide) (fun c13 => ?_) (fun c13 => ?_)
        · have c13 := iv_le (X := x2.toInt) (Y := 9) c13 rfl (by decide)
          refine pv_iload_n (M := mX11_strike) 2 dX11_strike_30 31 rfl rfl rfl ?_
          refine pv_iload_n (M := mX11_strike) 3 dX11_strike_31 32 rfl rfl rfl ?_
          refine iv_iadd (M := mX11_strike) (X := x1.toInt) (Y := x2.toInt) dX11_strike_32 33 rfl rfl rfl (by omega) (by omega) (fun v14 ev14 => ?_)
          refine pv_aload_n (M := mX11_strike) 0 dX11_strike_33 34 rfl rfl rfl ?_
          refine mv_get (M := mX11_strike) (v := .ref 3) dX11_strike_34 FX11 1 wd408 (by decide) (tl0 hT) rfl rfl 37 rfl ?_
          refine pv_iload_n (M := mX11_strike) 1 dX11_strike_37 38 rfl rfl rfl ?_
          refine iv_qblank (M := mX11_strike) (X := x0.toInt) dX11_strike_38 hT R rfl (by omega) (by omega) 39 rfl (fun b15 eb15 hb15 => ?_)
          have zb15 := hb15.2.2.2.2.2.2.2
          refine mv_get (M := mX11_strike) (v := .ref (b15 + 3)) dX11_strike_39 FX0 1 wd210 (by decide) hb15.1 rfl rfl 42 rfl ?_
          refine iv_get (M := mX11_strike) (l1 := 0) (l2 := 40) dX11_strike_42 FX8 1 wd200 (by decide) hb15.2.2.1.1 rfl I hb15.2.2.1.2.2.1 45 rfl (fun v16 ev16 pv16 qv16 => ?_)
          have k45 : v16.toInt = (m (4 + 7 * x0.toInt.toNat + 3) 1).toInt := (congrArg Int32.toInt ev16).trans (congrArg (fun z => (m z 1).toInt) (by omega))
          refine pv_icmp_le (M := mX11_strike) (tgt := 50) dX11_strike_45 48 rfl (by decide) (fun c18 => ?_) (fun c18 => ?_)
          · have c18 := iv_le (X := v14.toInt) (Y := v16.toInt) c18 rfl rfl
            refine pv_aload_n (M := mX11_strike) 0 dX11_strike_50 51 rfl rfl rfl ?_
            refine pv_iload_n (M := mX11_strike) 1 dX11_strike_51 52 rfl rfl rfl ?_
            refine pv_iload_n (M := mX11_strike) 2 dX11_strike_52 53 rfl rfl rfl ?_
            refine pv_iload_n (M := mX11_strike) 2 dX11_strike_53 54 rfl rfl rfl ?_
            refine pv_iload_n (M := mX11_strike) 3 dX11_strike_54 55 rfl rfl rfl ?_
            refine iv_iadd (M := mX11_strike) (X := x1.toInt) (Y := x2.toInt) dX11_strike_55 56 rfl rfl rfl (by omega) (by omega) (fun v19 ev19 => ?_)
            refine pv_iload (M := mX11_strike) dX11_strike_56 58 rfl rfl ?_
            have k58 : RST m (4 + 7 * x0.toInt.toNat) := hp0 x0.toInt.toNat (by omega)
            refine pv_callv (M := mX11_strike) (as := [.int x0, .int x1, .int v19, .int x3]) (st := []) (kc2 := 0) (ks2 := 0) dX11_strike_58 wd719 YX11_askLaw ⟨wd721, wd17⟩ (mk_get (tl0 hT)) rfl rfl (s_X11_askLaw_va g hT I R x0 (by omega) (by omega) x1 (by omega) (by omega) v19 (by omega) (by omega) x3 (by omega) (by omega) t k58 hp1 (by omega)) rfl rfl (Nat.le_of_ble_eq_true rfl) (by decide) rfl rfl 61 rfl (fun rv h1 q21 => ?_)
            obtain ⟨m22, n23, rfl, rfl, I24, K25, rm22⟩ := q21
            replace rm22 : ∀ p : Nat, x1.toInt ≤ (p : Int) → (p : Int) < v19.toInt → ASK m la t x0.toInt.toNat p x3.toInt (m22 108 p) (m22 109 p) := rm22
            have K25c := K25
            have K25 := Kp.trans (K25.sub (by first | exact wg_l (by decide) | exact wg_g (by decide) | exact wS3_wO | exact bl_wg (by omega) (by omega) (by omega) (by decide)))
            show PV _ _ _ _ _ _ _ 61 [.ref 0, .int x0, .int x1, .int x2, .int x3, pv_U] [] _
            have k61 := rm22
            have kf61 : fr wN m m22 := K25c
            have k61s : (m22 97 6).toInt = (m 97 6).toInt := congrArg Int32.toInt (kf61 97 6 (wN_bk (by omega) (by omega)))
            refine pv_iload_n (M := mX11_strike) 2 dX11_strike_61 62 rfl rfl rfl ?_
            refine pv_istore (M := mX11_strike) (lo2 := [.ref 0, .int x0, .int x1, .int x2, .int x3, .int x1]) dX11_strike_62 64 rfl (by decide) rfl rfl ?_
            have lp35 : ∀ (fuel34 : Nat) (y29 : Int32), (0 ≤ y29.toInt) → (y29.toInt ≤ 40) → (x1.toInt ≤ y29.toInt) → (y29.toInt ≤ x1.toInt + x2.toInt) → (∀ p : Nat, x1.toInt ≤ (p : Int) → (p : Int) < y29.toInt → FFc m la t x0.toInt.toNat p x3.toInt) → ((40 - y29.toInt) : Int).toNat < fuel34 → PV none g mX11_strike (sqI T BB wO r m (-2147483648) 2147483647 (fun m' v => STRK ((0 ≤ x0.toInt ∧ x0.toInt < (m 0 2).toInt) ∧ (0 ≤ x3.toInt ∧ x3.toInt ≤ 7) ∧ (1 ≤ x2.toInt ∧ x2.toInt ≤ 9) ∧ 0 ≤ x1.toInt ∧ x1.toInt + x2.toInt ≤ (m (4 + 7 * x0.toInt.toNat + 3) 1).toInt) (fun k => FBc m la t x0.toInt.toNat (x1.toInt.toNat + k) x3.toInt) (fun k => FFc m la t x0.toInt.toNat (x1.toInt.toNat + k) x3.toInt) (fun k v => PRc m la t x0.toInt.toNat (x1.toInt.toNat + k) x3.toInt v) (60 ≤ (m 97 6).toInt) x2.toInt.toNat (fr wN m m') (fun v => m' 0 8 = m 0 8 ∧ STKc m m' (4 + 7 * x0.toInt.toNat) x0.toInt.toNat x1.toInt.toNat x2.toInt.toNat x3 v) v)) 7 0 0 64 [.ref 0, .int x0, .int x1, .int x2, .int x3, .int y29] [] (mk T m22 n23 r) := by
              intro fuel34
              induction fuel34 with
              | zero => intro y29 b37 b38 b39 b40 b41 z42; omega
              | succ fuel34 ih36 =>
                intro y29 b37 b38 b39 b40 b41 z42
                have kgF := (show ∀ p : Nat, x1.toInt ≤ (p : Int) → (p : Int) < y29.toInt → FFc m la t x0.toInt.toNat p x3.toInt by assumption)
                refine pv_iload (M := mX11_strike) dX11_strike_64 66 rfl rfl ?_
                refine pv_iload_n (M := mX11_strike) 2 dX11_strike_66 67 rfl rfl rfl ?_
                refine pv_iload_n (M := mX11_strike) 3 dX11_strike_67 68 rfl rfl rfl ?_
                refine iv_iadd (M := mX11_strike) (X := x1.toInt) (Y := x2.toInt) dX11_strike_68 69 rfl rfl rfl (by omega) (by omega) (fun v44 ev44 => ?_)
                refine pv_icmp_ge (M := mX11_strike) (tgt := 94) dX11_strike_69 72 rfl (by decide) (fun c45 => ?_) (fun c45 => ?_)
                · have c45 := iv_le (X := v44.toInt) (Y := y29.toInt) c45 rfl rfl
                  refine pv_aload_n (M := mX11_strike) 0 dX11_strike_94 95 rfl rfl rfl ?_
                  refine mv_get (M := mX11_strike) (v := .ref 97) dX11_strike_95 FX11 6 wd413 (by decide) (tl0 hT) rfl rfl 98 rfl ?_
                  refine pv_iconst (M := mX11_strike) (v := 1) dX11_strike_98 99 rfl (by decide) ?_
                  have z46 : (1 : Int32).toInt = 1 := by decide
                  refine pv_callv (M := mX11_strike) (as := [.int 1]) (st := []) (kc2 := 0) (ks2 := 0) dX11_strike_99 wd773 YX1_hasRoom ⟨wd774, wd775⟩ (mk_get (tl97 hT)) rfl rfl (s_X1_hasRoom_va g hT I24 1 (by decide) (by decide)) rfl rfl (Nat.le_of_ble_eq_true rfl) (by decide) rfl rfl 102 rfl (fun rv h1 q47 => ?_)
                  obtain ⟨v48, rfl, rfl, pv48, qv48, rv48⟩ := q47
                  replace rv48 : (v48.toInt = 1 ∧ (m22 97 6).toInt + (1 : Int) ≤ 60) ∨ (v48.toInt = 0 ∧ 60 < (m22 97 6).toInt + (1 : Int)) := by have q_ := rv48; (try rw [z46] at q_); exact q_
                  show PV _ _ _ _ _ _ _ 102 [.ref 0, .int x0, .int x1, .int x2, .int x3, .int y29] [.int v48] _
                  have k102 := rv48
                  refine pv_if_ne (M := mX11_strike) (tgt := 108) dX11_strike_102 105 rfl (by decide) (fun c50 => ?_) (fun c50 => ?_)
                  · have c50 := iv_ne (X := v48.toInt) (Y := 0) c50 rfl (by decide)
                    refine pv_aload_n (M := mX11_strike) 0 dX11_strike_108 109 rfl rfl rfl ?_
                    refine pv_iload_n (M := mX11_strike) 1 dX11_strike_109 110 rfl rfl rfl ?_
                    refine pv_iload_n (M := mX11_strike) 2 dX11_strike_110 111 rfl rfl rfl ?_
                    refine pv_iload_n (M := mX11_strike) 3 dX11_strike_111 112 rfl rfl rfl ?_
                    refine pv_iload (M := mX11_strike) dX11_strike_112 114 rfl rfl ?_
                    have k114 : RST m22 (4 + 7 * x0.toInt.toNat) := RST_eq k58 (fun a j h1 h2 => kf61 a j (wN_lo (by omega) (by omega)))
                    have k114s : x1.toInt + x2.toInt ≤ (m22 ((4 + 7 * x0.toInt.toNat) + 3) 1).toInt := by rw [kf61 _ 1 (wN_lo (by omega) (by omega))]; omega
                    refine pv_callv (M := mX11_strike) (as := [.int x0, .int x1, .int x2, .int x3]) (st := []) (kc2 := 0) (ks2 := 0) dX11_strike_114 wd777 YX11_writeStroke ⟨wd779, wd23⟩ (mk_get (tl0 hT)) rfl rfl (s_X11_writeStroke_va g hT I24 R x0 (by omega) (by omega) x1 (by omega) (by omega) x2 (by omega) (by omega) x3 k114s k114 (by omega)) rfl rfl (Nat.le_of_ble_eq_true rfl) (by decide) rfl rfl 117 rfl (fun rv h1 q53 => ?_)
                    obtain ⟨m54, n55, v58, rfl, rfl, I56, K57, pv58, qv58, rv58⟩ := q53
                    replace rv58 : v58 = smc (fun i => m22 109 (x1.toInt.toNat + i)) x2.toInt.toNat ∧ STKc m22 m54 (4 + 7 * x0.toInt.toNat) x0.toInt.toNat x1.toInt.toNat x2.toInt.toNat x3 v58 := rv58
                    have K57c := K57
                    have K57 := K25.trans (K57.sub (by first | exact wg_l (by decide) | exact wg_g (by decide) | exact wS3_wO | exact bl_wg (by omega) (by omega) (by omega) (by decide)))
                    show PV _ _ _ _ _ _ _ 117 [.ref 0, .int x0, .int x1, .int x2, .int x3, .int y29] [.int v58] _
                    have k117 := rv58
                    have k117o : m54 0 8 = m 0 8 := (K57c 0 8 rfl).trans (kf61 0 8 rfl)
                    have k117k : STKc m m54 (4 + 7 * x0.toInt.toNat) x0.toInt.toNat x1.toInt.toNat x2.toInt.toNat x3 v58 := STKc_m k117.2 (by omega) (fun a i q => q.elim (fun q => kf61 a i (wN_lo (by omega) (by omega))) (fun q => kf61 a i (wN_bk q.1 q.2))) (kf61 0 7 rfl) (by omega)
                    exact pv_iret (M := mX11_strike) dX11_strike_117 rfl rfl ⟨_, _, _, rfl, rfl, I56, K57, (iv_rng v58).1, (iv_rng v58).2, (Or.inr (Or.inr (Or.inr ⟨by omega, fun k hk => kgF (x1.toInt.toNat + k) (by omega) (by omega), by omega, fun i => m22 109 (x1.toInt.toNat + i), fun k hk => (k61 (x1.toInt.toNat + k) (by omega) (by omega)).2, k117.1, k117o, k117k⟩)))⟩
                  · have c50 := iv_eq (X := v48.toInt) (Y := 0) c50 rfl (by decide)
                    refine pv_bipush (M := mX11_strike) (v := (-3)) dX11_strike_105 107 rfl (by decide) ?_
                    have z62 : ((-3) : Int32).toInt = (-3) := by decide
                    exact pv_iret (M := mX11_strike) dX11_strike_107 rfl rfl ⟨_, _, _, rfl, rfl, I24, K25, by decide, by decide, (Or.inr (Or.inr (Or.inl ⟨by omega, fun k hk => kgF (x1.toInt.toNat + k) (by omega) (by omega), by omega, by decide, kf61⟩)))⟩
                · have c45 := iv_nle (X := v44.toInt) (Y := y29.toInt) c45 rfl rfl
                  refine pv_aload_n (M := mX11_strike) 0 dX11_strike_72 73 rfl rfl rfl ?_
                  refine mv_get (M := mX11_strike) (v := .ref 107) dX11_strike_73 FX11 10 wd417 (by decide) (tl0 hT) rfl rfl 76 rfl ?_
                  refine mv_get (M := mX11_strike) (v := .ref 108) dX11_strike_76 FX2 0 wd347 (by decide) (tl107 hT) rfl rfl 79 rfl ?_
                  refine pv_iload (M := mX11_strike) dX11_strike_79 81 rfl rfl ?_
                  refine iv_zald (M := mX11_strike) (X := y29.toInt) (l1 := 0) (l2 := 1) dX11_strike_81 (tl108 hT) rfl (by omega) (by omega) I24 (fun _ => rfl) 82 rfl (fun v63 ev63 pv63 qv63 => ?_)
                  have k82 := k61 y29.toInt.toNat (by omega) (by omega)
                  rw [← show v63 = m22 108 y29.toInt.toNat from ev63] at k82
                  have k82a := k82.1
                  refine pv_if_ne (M := mX11_strike) (tgt := 88) dX11_strike_82 85 rfl (by decide) (fun c67 => ?_) (fun c67 => ?_)
                  · have c67 := iv_ne (X := v63.toInt) (Y := 0) c67 rfl (by decide)
                    refine iv_inc (M := mX11_strike) (C := 1) dX11_strike_88 91 rfl rfl (by decide) rfl rfl (by decide) (by omega) (by omega) (fun v68 ev68 => ?_)
                    show PV _ _ _ _ _ _ _ 91 [.ref 0, .int x0, .int x1, .int x2, .int x3, .int v68] [] _
                    refine pv_goto (M := mX11_strike) (tgt := 64) dX11_strike_91 (by decide) ?_
                    have kbF : ∀ p : Nat, x1.toInt ≤ (p : Int) → (p : Int) < v68.toInt → FFc m la t x0.toInt.toNat p x3.toInt := fun p h1 h2 => if z : (p : Int) = y29.toInt then (by have ep : p = (y29.toInt).toNat := (by omega); rw [ep]; exact (k82a.resolve_right (fun q => by have q1 := q.1; omega)).2) else kgF p h1 (by omega)
                    exact ih36 v68 (by first | omega | assumption | exact (iv_rng _).2 | exact (iv_rng _).1 | decide) (by first | omega | assumption | exact (iv_rng _).2 | exact (iv_rng _).1 | decide) (by first | omega | assumption | (show x1.toInt ≤ v68.toInt; omega) | decide) (by first | omega | assumption | (show v68.toInt ≤ x1.toInt + x2.toInt; omega) | decide) kbF (by omega)
                  · have c67 := iv_eq (X := v63.toInt) (Y := 0) c67 rfl (by decide)
                    refine pv_bipush (M := mX11_strike) (v := (-2)) dX11_strike_85 87 rfl (by decide) ?_
                    have z70 : ((-2) : Int32).toInt = (-2) := by decide
                    exact pv_iret (M := mX11_strike) dX11_strike_87 rfl rfl ⟨_, _, _, rfl, rfl, I24, K25, by decide, by decide, (Or.inr (Or.inl ⟨by omega, ⟨(y29.toInt - x1.toInt).toNat, by omega, by show FBc m la t _ (x1.toInt.toNat + (y29.toInt - x1.toInt).toNat) _; rw [show x1.toInt.toNat + (y29.toInt - x1.toInt).toNat = y29.toInt.toNat by omega]; exact (k82a.resolve_left (fun q => by have q1 := q.1; omega)).2⟩, by decide, kf61⟩))⟩
            exact lp35 (((40 - x1.toInt) : Int).toNat + 1) x1 (by first | omega | assumption | exact (iv_rng _).2 | exact (iv_rng _).1 | decide) (by first | omega | assumption | exact (iv_rng _).2 | exact (iv_rng _).1 | decide) (by first | omega | assumption | (show x1.toInt ≤ x1.toInt; omega) | decide) (by first | omega | assumption | (show x1.toInt ≤ x1.toInt + x2.toInt; omega) | decide) (fun p h1 h2 => by omega) (by omega)
          · have c18 := iv_nle (X := v14.toInt) (Y := v16.toInt) c18 rfl rfl
            refine pv_iconst (M := mX11_strike) (v := (-1)) dX11_strike_48 49 rfl (by decide) ?_
            have z71 : ((-1) : Int32).toInt = (-1) := by decide
            exact pv_iret (M := mX11_strike) dX11_strike_49 rfl rfl ⟨_, _, _, rfl, rfl, I, Kp, by decide, by decide, (Or.inl ⟨by omega, by decide, fr.rf⟩)⟩
        · have c13 := iv_nle (X := x2.toInt) (Y := 9) c13 rfl (by decide)
          refine pv_iconst (M := mX11_strike) (v := (-1)) dX11_strike_28 29 rfl (by decide) ?_
          have z72 : ((-1) : Int32).toInt = (-1) := by decide
          exact pv_iret (M := mX11_strike) dX11_strike_29 rfl rfl ⟨_, _, _, rfl, rfl, I, Kp, by decide, by decide, (Or.inl ⟨by omega, by decide, fr.rf⟩)⟩
