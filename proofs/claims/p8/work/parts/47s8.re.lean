set_option maxHeartbeats 2000000 in
set_option maxRecDepth 20000 in
theorem s_X6_push_vz (g : pv_G) {T : List mv_T} {m : Nat → Nat → Int32} {n : Nat → Nat → Int64} {r : Nat → Value} (hT : TX T) (I : IV BB m) (aT : Nat) (haT : LawAt T aT) (x0 : Int32) : PM g mX6_push yX6_push (sqV T BB (wS aT) r m (fun m' => stM m' aT = psh x0 (stM m aT) ∧ m' aT 11 = m aT 11)) 1 0 0 [.ref aT, .int x0] (mk T m n r) := by
  have Kp : fr (wS aT) m m := fr.rf
  have zwT := haT.1
  refine PM.of 0 (lo := [.ref aT, .int x0]) rfl (by decide) rfl rfl (Nat.le_of_ble_eq_true rfl) ?_
  refine pv_aload_n (M := mX6_push) 0 dX6_push_0 1 rfl rfl rfl ?_
  refine iv_get (M := mX6_push) (l1 := 0) (l2 := 32) dX6_push_1 FX6 10 wd245 (by decide) haT.2.1 rfl I (law_b10 haT) 4 rfl (fun v1 ev1 pv1 qv1 => ?_)
  have wv1 : v1.toInt = (m aT 10).toInt := congrArg Int32.toInt ev1
  refine pv_bipush (M := mX6_push) (v := 32) dX6_push_4 6 rfl (by decide) ?_
  refine pv_icmp_ge (M := mX6_push) (tgt := 29) dX6_push_6 9 rfl (by decide) (fun c2 => ?_) (fun c2 => ?_)
  · have c2 := iv_le (X := 32) (Y := v1.toInt) c2 (by decide) rfl
    exact pv_vret (M := mX6_push) dX6_push_29 rfl ⟨_, _, rfl, rfl, I, Kp, (by first | exact ⟨stM_push noE (by omega) noE (by omega) (by omega) (by omega), by rw [noE, up2_ne (by omega), noE, up2_ne (by omega)]⟩ | exact ⟨stM_full (by omega), rfl⟩)⟩
  · have c2 := iv_nle (X := 32) (Y := v1.toInt) c2 (by decide) rfl
    refine pv_aload_n (M := mX6_push) 0 dX6_push_9 10 rfl rfl rfl ?_
    refine mv_get (M := mX6_push) (v := .ref (aT + 8)) dX6_push_10 FX6 9 wd244 (by decide) haT.2.1 rfl rfl 13 rfl ?_
    refine pv_aload_n (M := mX6_push) 0 dX6_push_13 14 rfl rfl rfl ?_
    refine iv_get (M := mX6_push) (l1 := 0) (l2 := 32) dX6_push_14 FX6 10 wd245 (by decide) haT.2.1 rfl I (law_b10 haT) 17 rfl (fun v3 ev3 pv3 qv3 => ?_)
    have wv3 : v3.toInt = (m aT 10).toInt := congrArg Int32.toInt ev3
    refine pv_iload_n (M := mX6_push) 1 dX6_push_17 18 rfl rfl rfl ?_
    refine iv_iast (M := mX6_push) (X := v3.toInt) (l1 := (-2147483648)) (l2 := 2147483647) dX6_push_18 (law_a8 haT) rfl (by omega) (by omega) I (law_c8 haT) (iv_rng x0).1 (iv_rng x0).2 19 rfl (fun m4 e7 I5 => ?_)
    have K6 := Kp.set e7 (by first | exact wS_10 | exact wS_11 | exact wS_8)
    have w8 : (m4 aT 10).toInt = (m aT 10).toInt := by rw [e7, up2_ne (by omega)]
    have w9 : (m4 aT 11).toInt = (m aT 11).toInt := by rw [e7, up2_ne (by omega)]
    have k19 := e7
    refine pv_aload_n (M := mX6_push) 0 dX6_push_19 20 rfl rfl rfl ?_
    refine pv_dup (M := mX6_push) dX6_push_20 21 rfl rfl ?_
    refine iv_get (M := mX6_push) (l1 := 0) (l2 := 32) dX6_push_21 FX6 10 wd245 (by decide) haT.2.1 rfl I5 (law_b10 haT) 24 rfl (fun v11 ev11 pv11 qv11 => ?_)
    have wv11 : v11.toInt = (m4 aT 10).toInt := congrArg Int32.toInt ev11
    refine pv_iconst (M := mX6_push) (v := 1) dX6_push_24 25 rfl (by decide) ?_
    refine iv_iadd (M := mX6_push) (X := v11.toInt) (Y := 1) dX6_push_25 26 rfl rfl (by decide) (by omega) (by omega) (fun v12 ev12 => ?_)
    refine iv_put (M := mX6_push) (l1 := 0) (l2 := 32) dX6_push_26 FX6 10 wd245 (by decide) rfl haT.2.1 rfl rfl rfl I5 (law_b10 haT) (by omega) (by omega) 29 rfl (fun m13 e16 I14 => ?_)
    have K15 := K6.set e16 (by first | exact wS_10 | exact wS_11 | exact wS_8)
    have w17 : (m13 aT 10).toInt = v12.toInt := by rw [e16, up2_eq]
    have w18 : (m13 aT 11).toInt = (m4 aT 11).toInt := by rw [e16, up2_ne (by omega)]
    exact pv_vret (M := mX6_push) dX6_push_29 rfl ⟨_, _, rfl, rfl, I14, K15, (by first | exact ⟨stM_push e7 (by omega) e16 (by omega) (by omega) (by omega), by rw [e16, up2_ne (by omega), e7, up2_ne (by omega)]⟩ | exact ⟨stM_full (by omega), rfl⟩)⟩

set_option maxHeartbeats 2000000 in
set_option maxRecDepth 20000 in
theorem s_X6_pop_vz (g : pv_G) {T : List mv_T} {m : Nat → Nat → Int32} {n : Nat → Nat → Int64} {r : Nat → Value} (hT : TX T) (I : IV BB m) (aT : Nat) (haT : LawAt T aT) : PM g mX6_pop yX6_pop (sqI T BB (wS aT) r m (-2147483648) 2147483647 (fun m' v => v = hd0 (stM m aT) ∧ stM m' aT = (stM m aT).tail ∧ m' aT 11 = m aT 11)) 1 0 0 [.ref aT] (mk T m n r) := by
  have Kp : fr (wS aT) m m := fr.rf
  have zwT := haT.1
  refine PM.of 0 (lo := [.ref aT]) rfl (by decide) rfl rfl (Nat.le_of_ble_eq_true rfl) ?_
  refine pv_aload_n (M := mX6_pop) 0 dX6_pop_0 1 rfl rfl rfl ?_
  refine iv_get (M := mX6_pop) (l1 := 0) (l2 := 32) dX6_pop_1 FX6 10 wd245 (by decide) haT.2.1 rfl I (law_b10 haT) 4 rfl (fun v1 ev1 pv1 qv1 => ?_)
  have wv1 : v1.toInt = (m aT 10).toInt := congrArg Int32.toInt ev1
  refine pv_if_ne (M := mX6_pop) (tgt := 9) dX6_pop_4 7 rfl (by decide) (fun c2 => ?_) (fun c2 => ?_)
  · have c2 := iv_ne (X := v1.toInt) (Y := 0) c2 rfl (by decide)
    refine pv_aload_n (M := mX6_pop) 0 dX6_pop_9 10 rfl rfl rfl ?_
    refine pv_dup (M := mX6_pop) dX6_pop_10 11 rfl rfl ?_
    refine iv_get (M := mX6_pop) (l1 := 0) (l2 := 32) dX6_pop_11 FX6 10 wd245 (by decide) haT.2.1 rfl I (law_b10 haT) 14 rfl (fun v3 ev3 pv3 qv3 => ?_)
    have wv3 : v3.toInt = (m aT 10).toInt := congrArg Int32.toInt ev3
    refine pv_iconst (M := mX6_pop) (v := 1) dX6_pop_14 15 rfl (by decide) ?_
    refine iv_isub (M := mX6_pop) (X := v3.toInt) (Y := 1) dX6_pop_15 16 rfl rfl (by decide) (by omega) (by omega) (fun v4 ev4 => ?_)
    refine iv_put (M := mX6_pop) (l1 := 0) (l2 := 32) dX6_pop_16 FX6 10 wd245 (by decide) rfl haT.2.1 rfl rfl rfl I (law_b10 haT) (by omega) (by omega) 19 rfl (fun m5 e8 I6 => ?_)
    have K7 := Kp.set e8 (by first | exact wS_10 | exact wS_11 | exact wS_8)
    have w9 : (m5 aT 10).toInt = v4.toInt := by rw [e8, up2_eq]
    have w10 : (m5 aT 11).toInt = (m aT 11).toInt := by rw [e8, up2_ne (by omega)]
    have k19 := stM_pop e8 (by omega) (by omega)
    refine pv_aload_n (M := mX6_pop) 0 dX6_pop_19 20 rfl rfl rfl ?_
    refine mv_get (M := mX6_pop) (v := .ref (aT + 8)) dX6_pop_20 FX6 9 wd244 (by decide) haT.2.1 rfl rfl 23 rfl ?_
    refine pv_aload_n (M := mX6_pop) 0 dX6_pop_23 24 rfl rfl rfl ?_
    refine iv_get (M := mX6_pop) (l1 := 0) (l2 := 32) dX6_pop_24 FX6 10 wd245 (by decide) haT.2.1 rfl I6 (law_b10 haT) 27 rfl (fun v12 ev12 pv12 qv12 => ?_)
    have wv12 : v12.toInt = (m5 aT 10).toInt := congrArg Int32.toInt ev12
    have k27 := ev12
    refine iv_iald (M := mX6_pop) (X := v12.toInt) (l1 := (-2147483648)) (l2 := 2147483647) dX6_pop_27 (law_a8 haT) rfl (by omega) (by omega) I6 (law_c8 haT) 28 rfl (fun v14 ev14 pv14 qv14 => ?_)
    have k28 := ev14
    exact pv_iret (M := mX6_pop) dX6_pop_28 rfl rfl ⟨_, _, _, rfl, rfl, I6, K7, (iv_rng v14).1, (iv_rng v14).2, ⟨by rw [k19.2, k28, e8, up2_ne (by omega)]; congr 1; omega, k19.1, by rw [e8, up2_ne (by omega)]⟩⟩
  · have c2 := iv_eq (X := v1.toInt) (Y := 0) c2 rfl (by decide)
    refine pv_iconst (M := mX6_pop) (v := 0) dX6_pop_7 8 rfl (by decide) ?_
    have z16 : (0 : Int32).toInt = 0 := by decide
    exact pv_iret (M := mX6_pop) dX6_pop_8 rfl rfl ⟨_, _, _, rfl, rfl, I, Kp, by decide, by decide, (by have e := stM_0 (m := m) (a := aT) (by omega); exact ⟨by rw [e]; rfl, by rw [e]; rfl, rfl⟩)⟩

set_option maxHeartbeats 2000000 in
set_option maxRecDepth 20000 in
theorem s_X6_join_vz (g : pv_G) {T : List mv_T} {m : Nat → Nat → Int32} {n : Nat → Nat → Int64} {r : Nat → Value} (hT : TX T) (I : IV BB m) (x0 : Int32) (x1 : Int32) (x2 : Int32) : PM g mX6_join yX6_join (sqP (mk T m n r) (-2147483648) 2147483647 (fun v => JN x0 x1 x2 v)) 1 0 0 [.int x0, .int x1, .int x2] (mk T m n r) := by
  have Kp : fr (wl []) m m := fr.rf
  refine PM.of 0 (lo := [.int x0, .int x1, .int x2]) rfl (by decide) rfl rfl (Nat.le_of_ble_eq_true rfl) ?_
  refine pv_iload_n (M := mX6_join) 0 dX6_join_0 1 rfl rfl rfl ?_
  by_cases c1 : x0.toInt = 37
  · refine iv_lk (M := mX6_join) (X := 37) (off := 91) (tgt := 92) dX6_join_1 (by decide) c1 (by decide) (by decide) ?_
    refine pv_iload_n (M := mX6_join) 2 dX6_join_92 93 rfl rfl rfl ?_
    refine pv_if_ne (M := mX6_join) (tgt := 100) dX6_join_93 96 rfl (by decide) (fun c2 => ?_) (fun c2 => ?_)
    · have c2 := iv_ne (X := x2.toInt) (Y := 0) c2 rfl (by decide)
      refine pv_iload_n (M := mX6_join) 1 dX6_join_100 101 rfl rfl rfl ?_
      refine pv_iload_n (M := mX6_join) 2 dX6_join_101 102 rfl rfl rfl ?_
      refine iv_remU (M := mX6_join) (Y := x2.toInt) dX6_join_102 103 rfl rfl (by omega) (fun v3 ev3 => ?_)
      exact pv_iret (M := mX6_join) dX6_join_103 rfl rfl ⟨_, rfl, rfl, (iv_rng v3).1, (iv_rng v3).2, (by first | exact (fun _ => by rw [jnv_rem (by omega)]; exact ev3) | exact (fun q => by exfalso; omega))⟩
    · have c2 := iv_eq (X := x2.toInt) (Y := 0) c2 rfl (by decide)
      refine pv_iconst (M := mX6_join) (v := 0) dX6_join_96 97 rfl (by decide) ?_
      refine pv_goto (M := mX6_join) (tgt := 103) dX6_join_97 (by decide) ?_
      have z4 : (0 : Int32).toInt = 0 := by decide
      exact pv_iret (M := mX6_join) dX6_join_103 rfl rfl ⟨_, rfl, rfl, by decide, by decide, (by first | exact (fun _ => by rw [jnv_rem (by omega)]; exact elit) | exact (fun q => by exfalso; omega))⟩
  by_cases c5 : x0.toInt = 42
  · refine iv_lk (M := mX6_join) (X := 42) (off := 75) (tgt := 76) dX6_join_1 (by decide) c5 (by decide) (by decide) ?_
    refine pv_iload_n (M := mX6_join) 1 dX6_join_76 77 rfl rfl rfl ?_
    refine pv_iload_n (M := mX6_join) 2 dX6_join_77 78 rfl rfl rfl ?_
    refine iv_mulU (M := mX6_join) dX6_join_78 79 rfl (fun v6 ev6 => ?_)
    exact pv_iret (M := mX6_join) dX6_join_79 rfl rfl ⟨_, rfl, rfl, (iv_rng v6).1, (iv_rng v6).2, (fun _ => by rw [jnv_mul (by omega)]; exact ev6)⟩
  by_cases c7 : x0.toInt = 43
  · refine iv_lk (M := mX6_join) (X := 43) (off := 67) (tgt := 68) dX6_join_1 (by decide) c7 (by decide) (by decide) ?_
    refine pv_iload_n (M := mX6_join) 1 dX6_join_68 69 rfl rfl rfl ?_
    refine pv_iload_n (M := mX6_join) 2 dX6_join_69 70 rfl rfl rfl ?_
    refine iv_addU (M := mX6_join) dX6_join_70 71 rfl (fun v8 ev8 => ?_)
    exact pv_iret (M := mX6_join) dX6_join_71 rfl rfl ⟨_, rfl, rfl, (iv_rng v8).1, (iv_rng v8).2, (fun _ => by rw [jnv_add (by omega)]; exact ev8)⟩
  by_cases c9 : x0.toInt = 45
  · refine iv_lk (M := mX6_join) (X := 45) (off := 71) (tgt := 72) dX6_join_1 (by decide) c9 (by decide) (by decide) ?_
    refine pv_iload_n (M := mX6_join) 1 dX6_join_72 73 rfl rfl rfl ?_
    refine pv_iload_n (M := mX6_join) 2 dX6_join_73 74 rfl rfl rfl ?_
    refine iv_subU (M := mX6_join) dX6_join_74 75 rfl (fun v10 ev10 => ?_)
    exact pv_iret (M := mX6_join) dX6_join_75 rfl rfl ⟨_, rfl, rfl, (iv_rng v10).1, (iv_rng v10).2, (fun _ => by rw [jnv_sub (by omega)]; exact ev10)⟩
  by_cases c11 : x0.toInt = 47
  · refine iv_lk (M := mX6_join) (X := 47) (off := 79) (tgt := 80) dX6_join_1 (by decide) c11 (by decide) (by decide) ?_
    refine pv_iload_n (M := mX6_join) 2 dX6_join_80 81 rfl rfl rfl ?_
    refine pv_if_ne (M := mX6_join) (tgt := 88) dX6_join_81 84 rfl (by decide) (fun c12 => ?_) (fun c12 => ?_)
    · have c12 := iv_ne (X := x2.toInt) (Y := 0) c12 rfl (by decide)
      refine pv_iload_n (M := mX6_join) 1 dX6_join_88 89 rfl rfl rfl ?_
      refine pv_iload_n (M := mX6_join) 2 dX6_join_89 90 rfl rfl rfl ?_
      refine iv_divU (M := mX6_join) (Y := x2.toInt) dX6_join_90 91 rfl rfl (by omega) (fun v13 ev13 => ?_)
      exact pv_iret (M := mX6_join) dX6_join_91 rfl rfl ⟨_, rfl, rfl, (iv_rng v13).1, (iv_rng v13).2, (by first | exact (fun _ => by rw [jnv_div (by omega)]; exact ev13) | exact (fun q => by exfalso; omega))⟩
    · have c12 := iv_eq (X := x2.toInt) (Y := 0) c12 rfl (by decide)
      refine pv_iconst (M := mX6_join) (v := 0) dX6_join_84 85 rfl (by decide) ?_
      refine pv_goto (M := mX6_join) (tgt := 91) dX6_join_85 (by decide) ?_
      have z14 : (0 : Int32).toInt = 0 := by decide
      exact pv_iret (M := mX6_join) dX6_join_91 rfl rfl ⟨_, rfl, rfl, by decide, by decide, (by first | exact (fun _ => by rw [jnv_div (by omega)]; exact elit) | exact (fun q => by exfalso; omega))⟩
  by_cases c15 : x0.toInt = 60
  · refine iv_lk (M := mX6_join) (X := 60) (off := 103) (tgt := 104) dX6_join_1 (by decide) c15 (by decide) (by decide) ?_
    refine pv_iload_n (M := mX6_join) 1 dX6_join_104 105 rfl rfl rfl ?_
    refine pv_iload_n (M := mX6_join) 2 dX6_join_105 106 rfl rfl rfl ?_
    refine pv_icmp_ge (M := mX6_join) (tgt := 113) dX6_join_106 109 rfl (by decide) (fun c16 => ?_) (fun c16 => ?_)
    · have c16 := iv_le (X := x2.toInt) (Y := x1.toInt) c16 rfl rfl
      refine pv_iconst (M := mX6_join) (v := 0) dX6_join_113 114 rfl (by decide) ?_
      have z17 : (0 : Int32).toInt = 0 := by decide
      exact pv_iret (M := mX6_join) dX6_join_114 rfl rfl ⟨_, rfl, rfl, by decide, by decide, (fun _ => by rw [jnv_lt (by omega)]; first | exact b01_1 (i_lt (by omega)) | exact b01_0 (i_nlt (by omega)))⟩
    · have c16 := iv_nle (X := x2.toInt) (Y := x1.toInt) c16 rfl rfl
      refine pv_iconst (M := mX6_join) (v := 1) dX6_join_109 110 rfl (by decide) ?_
      refine pv_goto (M := mX6_join) (tgt := 114) dX6_join_110 (by decide) ?_
      have z18 : (1 : Int32).toInt = 1 := by decide
      exact pv_iret (M := mX6_join) dX6_join_114 rfl rfl ⟨_, rfl, rfl, by decide, by decide, (fun _ => by rw [jnv_lt (by omega)]; first | exact b01_1 (i_lt (by omega)) | exact b01_0 (i_nlt (by omega)))⟩
  by_cases c19 : x0.toInt = 62
  · refine iv_lk (M := mX6_join) (X := 62) (off := 114) (tgt := 115) dX6_join_1 (by decide) c19 (by decide) (by decide) ?_
    refine pv_iload_n (M := mX6_join) 1 dX6_join_115 116 rfl rfl rfl ?_
    refine pv_iload_n (M := mX6_join) 2 dX6_join_116 117 rfl rfl rfl ?_
    refine pv_icmp_le (M := mX6_join) (tgt := 124) dX6_join_117 120 rfl (by decide) (fun c20 => ?_) (fun c20 => ?_)
    · have c20 := iv_le (X := x1.toInt) (Y := x2.toInt) c20 rfl rfl
      refine pv_iconst (M := mX6_join) (v := 0) dX6_join_124 125 rfl (by decide) ?_
      have z21 : (0 : Int32).toInt = 0 := by decide
      exact pv_iret (M := mX6_join) dX6_join_125 rfl rfl ⟨_, rfl, rfl, by decide, by decide, (fun _ => by rw [jnv_gt (by omega)]; first | exact b01_1 (i_lt (by omega)) | exact b01_0 (i_nlt (by omega)))⟩
    · have c20 := iv_nle (X := x1.toInt) (Y := x2.toInt) c20 rfl rfl
      refine pv_iconst (M := mX6_join) (v := 1) dX6_join_120 121 rfl (by decide) ?_
      refine pv_goto (M := mX6_join) (tgt := 125) dX6_join_121 (by decide) ?_
      have z22 : (1 : Int32).toInt = 1 := by decide
      exact pv_iret (M := mX6_join) dX6_join_125 rfl rfl ⟨_, rfl, rfl, by decide, by decide, (fun _ => by rw [jnv_gt (by omega)]; first | exact b01_1 (i_lt (by omega)) | exact b01_0 (i_nlt (by omega)))⟩
  refine pv_lookup (M := mX6_join) (off := 125) (tgt := 126) dX6_join_1 (by decide) (by simp only [Op.lookupswitch.offset]; repeat (rw [if_neg (by omega)])) (by decide) ?_
  refine pv_iload_n (M := mX6_join) 1 dX6_join_126 127 rfl rfl rfl ?_
  refine pv_iload_n (M := mX6_join) 2 dX6_join_127 128 rfl rfl rfl ?_
  refine pv_icmp_ne (M := mX6_join) (tgt := 135) dX6_join_128 131 rfl (by decide) (fun c23 => ?_) (fun c23 => ?_)
  · have c23 := iv_ne (X := x1.toInt) (Y := x2.toInt) c23 rfl rfl
    refine pv_iconst (M := mX6_join) (v := 0) dX6_join_135 136 rfl (by decide) ?_
    have z24 : (0 : Int32).toInt = 0 := by decide
    exact pv_iret (M := mX6_join) dX6_join_136 rfl rfl ⟨_, rfl, rfl, by decide, by decide, (fun _ => by rw [jnv_eq (by omega)]; first | exact b01_1 (i_eq (by omega)) | exact b01_0 (i_ne (by omega)))⟩
  · have c23 := iv_eq (X := x1.toInt) (Y := x2.toInt) c23 rfl rfl
    refine pv_iconst (M := mX6_join) (v := 1) dX6_join_131 132 rfl (by decide) ?_
    refine pv_goto (M := mX6_join) (tgt := 136) dX6_join_132 (by decide) ?_
    have z25 : (1 : Int32).toInt = 1 := by decide
    exact pv_iret (M := mX6_join) dX6_join_136 rfl rfl ⟨_, rfl, rfl, by decide, by decide, (fun _ => by rw [jnv_eq (by omega)]; first | exact b01_1 (i_eq (by omega)) | exact b01_0 (i_ne (by omega)))⟩

set_option maxHeartbeats 2000000 in
set_option maxRecDepth 20000 in
theorem s_X6_takeStep_vz (g : pv_G) {T : List mv_T} {m : Nat → Nat → Int32} {n : Nat → Nat → Int64} {r : Nat → Value} (hT : TX T) (I : IV BB m) (aT : Nat) (haT : LawAt T aT) (x0 : Int32) (x1 : Int32) (hp0 : (m aT 11).toInt = 0) (hp1 : x0.toInt = 36 → 0 ≤ x1.toInt) : PM g mX6_takeStep yX6_takeStep (sqV T BB (wS aT) r m (fun m' => SR (stpC x0.toInt x1 (fsn m aT) (stM m aT)) (stM m' aT) (m' aT 11).toInt)) 2 0 0 [.ref aT, .int x0, .int x1] (mk T m n r) := by
  have Kp : fr (wS aT) m m := fr.rf
  have zwT := haT.1
  refine PM.of 1 (lo := [.ref aT, .int x0, .int x1, pv_U]) rfl (by decide) rfl rfl (Nat.le_of_ble_eq_true rfl) ?_
  refine pv_iload_n (M := mX6_takeStep) 1 dX6_takeStep_0 1 rfl rfl rfl ?_
  refine pv_bipush (M := mX6_takeStep) (v := 35) dX6_takeStep_1 3 rfl (by decide) ?_
  refine pv_icmp_ne (M := mX6_takeStep) (tgt := 14) dX6_takeStep_3 6 rfl (by decide) (fun c1 => ?_) (fun c1 => ?_)
  · have c1 := iv_ne (X := x0.toInt) (Y := 35) c1 rfl (by decide)
    refine pv_iload_n (M := mX6_takeStep) 1 dX6_takeStep_14 15 rfl rfl rfl ?_
    refine pv_bipush (M := mX6_takeStep) (v := 36) dX6_takeStep_15 17 rfl (by decide) ?_
    refine pv_icmp_ne (M := mX6_takeStep) (tgt := 50) dX6_takeStep_17 20 rfl (by decide) (fun c2 => ?_) (fun c2 => ?_)
    · have c2 := iv_ne (X := x0.toInt) (Y := 36) c2 rfl (by decide)
      refine pv_iload_n (M := mX6_takeStep) 1 dX6_takeStep_50 51 rfl rfl rfl ?_
      refine pv_bipush (M := mX6_takeStep) (v := 33) dX6_takeStep_51 53 rfl (by decide) ?_
      refine pv_icmp_ne (M := mX6_takeStep) (tgt := 75) dX6_takeStep_53 56 rfl (by decide) (fun c3 => ?_) (fun c3 => ?_)
      · have c3 := iv_ne (X := x0.toInt) (Y := 33) c3 rfl (by decide)
        refine pv_aload_n (M := mX6_takeStep) 0 dX6_takeStep_75 76 rfl rfl rfl ?_
        refine pv_callv (M := mX6_takeStep) (as := []) (st := []) (kc2 := 0) (ks2 := 0) dX6_takeStep_76 wd749 YX6_pop ⟨wd751, wd20⟩ (mk_get haT.2.1) rfl rfl (s_X6_pop_vz g hT I aT haT) rfl rfl (Nat.le_of_ble_eq_true rfl) (by decide) rfl rfl 79 rfl (fun rv h1 q4 => ?_)
        obtain ⟨m5, n6, v9, rfl, rfl, I7, K8, pv9, qv9, rv9⟩ := q4
        replace rv9 : v9 = hd0 (stM m aT) ∧ stM m5 aT = (stM m aT).tail ∧ m5 aT 11 = m aT 11 := rv9
        have K8c := K8
        have K8 := Kp.trans (K8.sub (fun _ _ q => q))
        show PV _ _ _ _ _ _ _ 79 [.ref aT, .int x0, .int x1, pv_U] [.int v9] _
        have k79 := rv9
        have k79r : (m5 aT 11).toInt = 0 := by have q := congrArg Int32.toInt k79.2.2; omega
        refine pv_istore_n (M := mX6_takeStep) 3 (lo2 := [.ref aT, .int x0, .int x1, .int v9]) dX6_takeStep_79 80 rfl rfl (by decide) rfl rfl ?_
        refine pv_aload_n (M := mX6_takeStep) 0 dX6_takeStep_80 81 rfl rfl rfl ?_
        refine pv_iload_n (M := mX6_takeStep) 3 dX6_takeStep_81 82 rfl rfl rfl ?_
        refine pv_if_ne (M := mX6_takeStep) (tgt := 101) dX6_takeStep_82 85 rfl (by decide) (fun c12 => ?_) (fun c12 => ?_)
        · have c12 := iv_ne (X := v9.toInt) (Y := 0) c12 rfl (by decide)
          refine pv_iconst (M := mX6_takeStep) (v := 0) dX6_takeStep_101 102 rfl (by decide) ?_
          refine iv_put (M := mX6_takeStep) (l1 := 0) (l2 := 1) dX6_takeStep_102 FX6 11 wd246 (by decide) rfl haT.2.1 rfl rfl rfl I7 (law_b11 haT) (by decide) (by decide) 105 rfl (fun m13 e16 I14 => ?_)
          have K15 := K8.set e16 (by first | exact wS_10 | exact wS_11 | exact wS_8)
          have w17 : (m13 aT 10).toInt = (m5 aT 10).toInt := by rw [e16, up2_ne (by omega)]
          have w18 : (m13 aT 11).toInt = 0 := by rw [e16, up2_eq] <;> rfl
          have k105 : stM m13 aT = (stM m aT).tail := (stM_eq (by rw [e16, up2_ne (by omega)]) (fun j => by rw [e16, up2_ne (by omega)])).trans k79.2.1
          have k105r : (m13 aT 11).toInt = 0 ∨ (m13 aT 11).toInt = 1 := by omega
          refine pv_aload_n (M := mX6_takeStep) 0 dX6_takeStep_105 106 rfl rfl rfl ?_
          refine pv_iload_n (M := mX6_takeStep) 1 dX6_takeStep_106 107 rfl rfl rfl ?_
          refine pv_aload_n (M := mX6_takeStep) 0 dX6_takeStep_107 108 rfl rfl rfl ?_
          refine pv_callv (M := mX6_takeStep) (as := []) (st := [.int x0, .ref aT]) (kc2 := 0) (ks2 := 0) dX6_takeStep_108 wd749 YX6_pop ⟨wd751, wd20⟩ (mk_get haT.2.1) rfl rfl (s_X6_pop_vz g hT I14 aT haT) rfl rfl (Nat.le_of_ble_eq_true rfl) (by decide) rfl rfl 111 rfl (fun rv h1 q21 => ?_)
          obtain ⟨m22, n23, v26, rfl, rfl, I24, K25, pv26, qv26, rv26⟩ := q21
          replace rv26 : v26 = hd0 (stM m13 aT) ∧ stM m22 aT = (stM m13 aT).tail ∧ m22 aT 11 = m13 aT 11 := rv26
          have K25c := K25
          have K25 := K15.trans (K25.sub (fun _ _ q => q))
          show PV _ _ _ _ _ _ _ 111 [.ref aT, .int x0, .int x1, .int v9] [.int v26, .int x0, .ref aT] _
          have k111 := rv26
          rw [k105] at k111
          refine pv_iload_n (M := mX6_takeStep) 3 dX6_takeStep_111 112 rfl rfl rfl ?_
          refine pv_calls (M := mX6_takeStep) (as := [.int x0, .int v26, .int v9]) (st := [.ref aT]) (kc2 := 0) (ks2 := 0) dX6_takeStep_112 wd761 YX6_join wd762 (s_X6_join_vz g hT I24 x0 v26 v9) rfl rfl (Nat.le_of_ble_eq_true rfl) (by decide) rfl rfl 115 rfl (fun rv h1 q29 => ?_)
          obtain ⟨v30, rfl, rfl, pv30, qv30, rv30⟩ := q29
          replace rv30 : JN x0 v26 v9 v30 := rv30
          show PV _ _ _ _ _ _ _ 115 [.ref aT, .int x0, .int x1, .int v9] [.int v30, .ref aT] _
          have k115 := rv30
          refine pv_callv (M := mX6_takeStep) (as := [.int v30]) (st := []) (kc2 := 0) (ks2 := 0) dX6_takeStep_115 wd753 YX6_push ⟨wd755, wd21⟩ (mk_get haT.2.1) rfl rfl (s_X6_push_vz g hT I24 aT haT v30) rfl rfl (Nat.le_of_ble_eq_true rfl) (by decide) rfl rfl 118 rfl (fun rv h1 q32 => ?_)
          obtain ⟨m33, n34, rfl, rfl, I35, K36, rm33⟩ := q32
          replace rm33 : stM m33 aT = psh v30 (stM m22 aT) ∧ m33 aT 11 = m22 aT 11 := rm33
          have K36c := K36
          have K36 := K25.trans (K36.sub (fun _ _ q => q))
          show PV _ _ _ _ _ _ _ 118 [.ref aT, .int x0, .int x1, .int v9] [] _
          have k118 := rm33.1
          have k118r := congrArg Int32.toInt rm33.2
          exact pv_vret (M := mX6_takeStep) dX6_takeStep_118 rfl ⟨_, _, rfl, rfl, I35, K36, (by first | exact SR_num (by omega) k118 (by omega) | exact SR_nam (by omega) k118 (by rw [k40]; unfold fsn; rw [if_pos (by omega)]) (by omega) | exact SR_nam (by omega) k118 (by unfold fsn; rw [if_neg (by omega)]) (by omega) | exact SR_not (by omega) (by rw [k118, k61.2.1]) (by rw [← k61.1]; first | exact b01_1 (i_eq (by rw [Int32.toInt_zero]; omega)) | exact b01_0 (i_ne (by rw [Int32.toInt_zero]; omega))) (by have q := congrArg Int32.toInt k61.2.2; omega) | exact SR_no (by omega) (by omega) (by omega) (by rw [← k79.1]; exact i_eq (by rw [Int32.toInt_zero]; omega)) (by omega) (by have q := congrArg Int32.toInt k111.2.2; omega) | exact SR_op (c := x0) rfl (by omega) (by omega) (by omega) (by rw [← k79.1]; first | exact Or.inl (i_ne (by rw [Int32.toInt_zero]; omega)) | exact Or.inr ⟨by omega, by omega⟩) (by rw [← k79.1, ← k111.1]; exact k115) (by rw [k118, k111.2.1]) (by have q := congrArg Int32.toInt k111.2.2; omega))⟩
        · have c12 := iv_eq (X := v9.toInt) (Y := 0) c12 rfl (by decide)
          refine pv_iload_n (M := mX6_takeStep) 1 dX6_takeStep_85 86 rfl rfl rfl ?_
          refine pv_bipush (M := mX6_takeStep) (v := 47) dX6_takeStep_86 88 rfl (by decide) ?_
          refine pv_icmp_eq (M := mX6_takeStep) (tgt := 97) dX6_takeStep_88 91 rfl (by decide) (fun c39 => ?_) (fun c39 => ?_)
          · have c39 := iv_eq (X := x0.toInt) (Y := 47) c39 rfl (by decide)
            refine pv_iconst (M := mX6_takeStep) (v := 1) dX6_takeStep_97 98 rfl (by decide) ?_
            refine pv_goto (M := mX6_takeStep) (tgt := 102) dX6_takeStep_98 (by decide) ?_
            refine iv_put (M := mX6_takeStep) (l1 := 0) (l2 := 1) dX6_takeStep_102 FX6 11 wd246 (by decide) rfl haT.2.1 rfl rfl rfl I7 (law_b11 haT) (by decide) (by decide) 105 rfl (fun m40 e43 I41 => ?_)
            have K42 := K8.set e43 (by first | exact wS_10 | exact wS_11 | exact wS_8)
            have w44 : (m40 aT 10).toInt = (m5 aT 10).toInt := by rw [e43, up2_ne (by omega)]
            have w45 : (m40 aT 11).toInt = 1 := by rw [e43, up2_eq] <;> rfl
            have k105 : stM m40 aT = (stM m aT).tail := (stM_eq (by rw [e43, up2_ne (by omega)]) (fun j => by rw [e43, up2_ne (by omega)])).trans k79.2.1
            have k105r : (m40 aT 11).toInt = 0 ∨ (m40 aT 11).toInt = 1 := by omega
            refine pv_aload_n (M := mX6_takeStep) 0 dX6_takeStep_105 106 rfl rfl rfl ?_
            refine pv_iload_n (M := mX6_takeStep) 1 dX6_takeStep_106 107 rfl rfl rfl ?_
            refine pv_aload_n (M := mX6_takeStep) 0 dX6_takeStep_107 108 rfl rfl rfl ?_
            refine pv_callv (M := mX6_takeStep) (as := []) (st := [.int x0, .ref aT]) (kc2 := 0) (ks2 := 0) dX6_takeStep_108 wd749 YX6_pop ⟨wd751, wd20⟩ (mk_get haT.2.1) rfl rfl (s_X6_pop_vz g hT I41 aT haT) rfl rfl (Nat.le_of_ble_eq_true rfl) (by decide) rfl rfl 111 rfl (fun rv h1 q48 => ?_)
            obtain ⟨m49, n50, v53, rfl, rfl, I51, K52, pv53, qv53, rv53⟩ := q48
            replace rv53 : v53 = hd0 (stM m40 aT) ∧ stM m49 aT = (stM m40 aT).tail ∧ m49 aT 11 = m40 aT 11 := rv53
            have K52c := K52
            have K52 := K42.trans (K52.sub (fun _ _ q => q))
            show PV _ _ _ _ _ _ _ 111 [.ref aT, .int x0, .int x1, .int v9] [.int v53, .int x0, .ref aT] _
            have k111 := rv53
            rw [k105] at k111
            refine pv_iload_n (M := mX6_takeStep) 3 dX6_takeStep_111 112 rfl rfl rfl ?_
            refine pv_calls (M := mX6_takeStep) (as := [.int x0, .int v53, .int v9]) (st := [.ref aT]) (kc2 := 0) (ks2 := 0) dX6_takeStep_112 wd761 YX6_join wd762 (s_X6_join_vz g hT I51 x0 v53 v9) rfl rfl (Nat.le_of_ble_eq_true rfl) (by decide) rfl rfl 115 rfl (fun rv h1 q56 => ?_)
            obtain ⟨v57, rfl, rfl, pv57, qv57, rv57⟩ := q56
            replace rv57 : JN x0 v53 v9 v57 := rv57
            show PV _ _ _ _ _ _ _ 115 [.ref aT, .int x0, .int x1, .int v9] [.int v57, .ref aT] _
            have k115 := rv57
            refine pv_callv (M := mX6_takeStep) (as := [.int v57]) (st := []) (kc2 := 0) (ks2 := 0) dX6_takeStep_115 wd753 YX6_push ⟨wd755, wd21⟩ (mk_get haT.2.1) rfl rfl (s_X6_push_vz g hT I51 aT haT v57) rfl rfl (Nat.le_of_ble_eq_true rfl) (by decide) rfl rfl 118 rfl (fun rv h1 q59 => ?_)
            obtain ⟨m60, n61, rfl, rfl, I62, K63, rm60⟩ := q59
            replace rm60 : stM m60 aT = psh v57 (stM m49 aT) ∧ m60 aT 11 = m49 aT 11 := rm60
            have K63c := K63
            have K63 := K52.trans (K63.sub (fun _ _ q => q))
            show PV _ _ _ _ _ _ _ 118 [.ref aT, .int x0, .int x1, .int v9] [] _
            have k118 := rm60.1
            have k118r := congrArg Int32.toInt rm60.2
            exact pv_vret (M := mX6_takeStep) dX6_takeStep_118 rfl ⟨_, _, rfl, rfl, I62, K63, (by first | exact SR_num (by omega) k118 (by omega) | exact SR_nam (by omega) k118 (by rw [k40]; unfold fsn; rw [if_pos (by omega)]) (by omega) | exact SR_nam (by omega) k118 (by unfold fsn; rw [if_neg (by omega)]) (by omega) | exact SR_not (by omega) (by rw [k118, k61.2.1]) (by rw [← k61.1]; first | exact b01_1 (i_eq (by rw [Int32.toInt_zero]; omega)) | exact b01_0 (i_ne (by rw [Int32.toInt_zero]; omega))) (by have q := congrArg Int32.toInt k61.2.2; omega) | exact SR_no (by omega) (by omega) (by omega) (by rw [← k79.1]; exact i_eq (by rw [Int32.toInt_zero]; omega)) (by omega) (by have q := congrArg Int32.toInt k111.2.2; omega) | exact SR_op (c := x0) rfl (by omega) (by omega) (by omega) (by rw [← k79.1]; first | exact Or.inl (i_ne (by rw [Int32.toInt_zero]; omega)) | exact Or.inr ⟨by omega, by omega⟩) (by rw [← k79.1, ← k111.1]; exact k115) (by rw [k118, k111.2.1]) (by have q := congrArg Int32.toInt k111.2.2; omega))⟩
          · have c39 := iv_ne (X := x0.toInt) (Y := 47) c39 rfl (by decide)
            refine pv_iload_n (M := mX6_takeStep) 1 dX6_takeStep_91 92 rfl rfl rfl ?_
            refine pv_bipush (M := mX6_takeStep) (v := 37) dX6_takeStep_92 94 rfl (by decide) ?_
            refine pv_icmp_ne (M := mX6_takeStep) (tgt := 101) dX6_takeStep_94 97 rfl (by decide) (fun c66 => ?_) (fun c66 => ?_)
            · have c66 := iv_ne (X := x0.toInt) (Y := 37) c66 rfl (by decide)
              refine pv_iconst (M := mX6_takeStep) (v := 0) dX6_takeStep_101 102 rfl (by decide) ?_
              refine iv_put (M := mX6_takeStep) (l1 := 0) (l2 := 1) dX6_takeStep_102 FX6 11 wd246 (by decide) rfl haT.2.1 rfl rfl rfl I7 (law_b11 haT) (by decide) (by decide) 105 rfl (fun m67 e70 I68 => ?_)
              have K69 := K8.set e70 (by first | exact wS_10 | exact wS_11 | exact wS_8)
              have w71 : (m67 aT 10).toInt = (m5 aT 10).toInt := by rw [e70, up2_ne (by omega)]
              have w72 : (m67 aT 11).toInt = 0 := by rw [e70, up2_eq] <;> rfl
              have k105 : stM m67 aT = (stM m aT).tail := (stM_eq (by rw [e70, up2_ne (by omega)]) (fun j => by rw [e70, up2_ne (by omega)])).trans k79.2.1
              have k105r : (m67 aT 11).toInt = 0 ∨ (m67 aT 11).toInt = 1 := by omega
              refine pv_aload_n (M := mX6_takeStep) 0 dX6_takeStep_105 106 rfl rfl rfl ?_
              refine pv_iload_n (M := mX6_takeStep) 1 dX6_takeStep_106 107 rfl rfl rfl ?_
              refine pv_aload_n (M := mX6_takeStep) 0 dX6_takeStep_107 108 rfl rfl rfl ?_
              refine pv_callv (M := mX6_takeStep) (as := []) (st := [.int x0, .ref aT]) (kc2 := 0) (ks2 := 0) dX6_takeStep_108 wd749 YX6_pop ⟨wd751, wd20⟩ (mk_get haT.2.1) rfl rfl (s_X6_pop_vz g hT I68 aT haT) rfl rfl (Nat.le_of_ble_eq_true rfl) (by decide) rfl rfl 111 rfl (fun rv h1 q75 => ?_)
              obtain ⟨m76, n77, v80, rfl, rfl, I78, K79, pv80, qv80, rv80⟩ := q75
              replace rv80 : v80 = hd0 (stM m67 aT) ∧ stM m76 aT = (stM m67 aT).tail ∧ m76 aT 11 = m67 aT 11 := rv80
              have K79c := K79
              have K79 := K69.trans (K79.sub (fun _ _ q => q))
              show PV _ _ _ _ _ _ _ 111 [.ref aT, .int x0, .int x1, .int v9] [.int v80, .int x0, .ref aT] _
              have k111 := rv80
              rw [k105] at k111
              refine pv_iload_n (M := mX6_takeStep) 3 dX6_takeStep_111 112 rfl rfl rfl ?_
              refine pv_calls (M := mX6_takeStep) (as := [.int x0, .int v80, .int v9]) (st := [.ref aT]) (kc2 := 0) (ks2 := 0) dX6_takeStep_112 wd761 YX6_join wd762 (s_X6_join_vz g hT I78 x0 v80 v9) rfl rfl (Nat.le_of_ble_eq_true rfl) (by decide) rfl rfl 115 rfl (fun rv h1 q83 => ?_)
              obtain ⟨v84, rfl, rfl, pv84, qv84, rv84⟩ := q83
              replace rv84 : JN x0 v80 v9 v84 := rv84
              show PV _ _ _ _ _ _ _ 115 [.ref aT, .int x0, .int x1, .int v9] [.int v84, .ref aT] _
              have k115 := rv84
              refine pv_callv (M := mX6_takeStep) (as := [.int v84]) (st := []) (kc2 := 0) (ks2 := 0) dX6_takeStep_115 wd753 YX6_push ⟨wd755, wd21⟩ (mk_get haT.2.1) rfl rfl (s_X6_push_vz g hT I78 aT haT v84) rfl rfl (Nat.le_of_ble_eq_true rfl) (by decide) rfl rfl 118 rfl (fun rv h1 q86 => ?_)
              obtain ⟨m87, n88, rfl, rfl, I89, K90, rm87⟩ := q86
              replace rm87 : stM m87 aT = psh v84 (stM m76 aT) ∧ m87 aT 11 = m76 aT 11 := rm87
              have K90c := K90
              have K90 := K79.trans (K90.sub (fun _ _ q => q))
              show PV _ _ _ _ _ _ _ 118 [.ref aT, .int x0, .int x1, .int v9] [] _
              have k118 := rm87.1
              have k118r := congrArg Int32.toInt rm87.2
              exact pv_vret (M := mX6_takeStep) dX6_takeStep_118 rfl ⟨_, _, rfl, rfl, I89, K90, (by first | exact SR_num (by omega) k118 (by omega) | exact SR_nam (by omega) k118 (by rw [k40]; unfold fsn; rw [if_pos (by omega)]) (by omega) | exact SR_nam (by omega) k118 (by unfold fsn; rw [if_neg (by omega)]) (by omega) | exact SR_not (by omega) (by rw [k118, k61.2.1]) (by rw [← k61.1]; first | exact b01_1 (i_eq (by rw [Int32.toInt_zero]; omega)) | exact b01_0 (i_ne (by rw [Int32.toInt_zero]; omega))) (by have q := congrArg Int32.toInt k61.2.2; omega) | exact SR_no (by omega) (by omega) (by omega) (by rw [← k79.1]; exact i_eq (by rw [Int32.toInt_zero]; omega)) (by omega) (by have q := congrArg Int32.toInt k111.2.2; omega) | exact SR_op (c := x0) rfl (by omega) (by omega) (by omega) (by rw [← k79.1]; first | exact Or.inl (i_ne (by rw [Int32.toInt_zero]; omega)) | exact Or.inr ⟨by omega, by omega⟩) (by rw [← k79.1, ← k111.1]; exact k115) (by rw [k118, k111.2.1]) (by have q := congrArg Int32.toInt k111.2.2; omega))⟩
            · have c66 := iv_eq (X := x0.toInt) (Y := 37) c66 rfl (by decide)
              refine pv_iconst (M := mX6_takeStep) (v := 1) dX6_takeStep_97 98 rfl (by decide) ?_
              refine pv_goto (M := mX6_takeStep) (tgt := 102) dX6_takeStep_98 (by decide) ?_
              refine iv_put (M := mX6_takeStep) (l1 := 0) (l2 := 1) dX6_takeStep_102 FX6 11 wd246 (by decide) rfl haT.2.1 rfl rfl rfl I7 (law_b11 haT) (by decide) (by decide) 105 rfl (fun m93 e96 I94 => ?_)
              have K95 := K8.set e96 (by first | exact wS_10 | exact wS_11 | exact wS_8)
              have w97 : (m93 aT 10).toInt = (m5 aT 10).toInt := by rw [e96, up2_ne (by omega)]
              have w98 : (m93 aT 11).toInt = 1 := by rw [e96, up2_eq] <;> rfl
              have k105 : stM m93 aT = (stM m aT).tail := (stM_eq (by rw [e96, up2_ne (by omega)]) (fun j => by rw [e96, up2_ne (by omega)])).trans k79.2.1
              have k105r : (m93 aT 11).toInt = 0 ∨ (m93 aT 11).toInt = 1 := by omega
              refine pv_aload_n (M := mX6_takeStep) 0 dX6_takeStep_105 106 rfl rfl rfl ?_
              refine pv_iload_n (M := mX6_takeStep) 1 dX6_takeStep_106 107 rfl rfl rfl ?_
              refine pv_aload_n (M := mX6_takeStep) 0 dX6_takeStep_107 108 rfl rfl rfl ?_
              refine pv_callv (M := mX6_takeStep) (as := []) (st := [.int x0, .ref aT]) (kc2 := 0) (ks2 := 0) dX6_takeStep_108 wd749 YX6_pop ⟨wd751, wd20⟩ (mk_get haT.2.1) rfl rfl (s_X6_pop_vz g hT I94 aT haT) rfl rfl (Nat.le_of_ble_eq_true rfl) (by decide) rfl rfl 111 rfl (fun rv h1 q101 => ?_)
              obtain ⟨m102, n103, v106, rfl, rfl, I104, K105, pv106, qv106, rv106⟩ := q101
              replace rv106 : v106 = hd0 (stM m93 aT) ∧ stM m102 aT = (stM m93 aT).tail ∧ m102 aT 11 = m93 aT 11 := rv106
              have K105c := K105
              have K105 := K95.trans (K105.sub (fun _ _ q => q))
              show PV _ _ _ _ _ _ _ 111 [.ref aT, .int x0, .int x1, .int v9] [.int v106, .int x0, .ref aT] _
              have k111 := rv106
              rw [k105] at k111
              refine pv_iload_n (M := mX6_takeStep) 3 dX6_takeStep_111 112 rfl rfl rfl ?_
              refine pv_calls (M := mX6_takeStep) (as := [.int x0, .int v106, .int v9]) (st := [.ref aT]) (kc2 := 0) (ks2 := 0) dX6_takeStep_112 wd761 YX6_join wd762 (s_X6_join_vz g hT I104 x0 v106 v9) rfl rfl (Nat.le_of_ble_eq_true rfl) (by decide) rfl rfl 115 rfl (fun rv h1 q109 => ?_)
              obtain ⟨v110, rfl, rfl, pv110, qv110, rv110⟩ := q109
              replace rv110 : JN x0 v106 v9 v110 := rv110
              show PV _ _ _ _ _ _ _ 115 [.ref aT, .int x0, .int x1, .int v9] [.int v110, .ref aT] _
              have k115 := rv110
              refine pv_callv (M := mX6_takeStep) (as := [.int v110]) (st := []) (kc2 := 0) (ks2 := 0) dX6_takeStep_115 wd753 YX6_push ⟨wd755, wd21⟩ (mk_get haT.2.1) rfl rfl (s_X6_push_vz g hT I104 aT haT v110) rfl rfl (Nat.le_of_ble_eq_true rfl) (by decide) rfl rfl 118 rfl (fun rv h1 q112 => ?_)
              obtain ⟨m113, n114, rfl, rfl, I115, K116, rm113⟩ := q112
              replace rm113 : stM m113 aT = psh v110 (stM m102 aT) ∧ m113 aT 11 = m102 aT 11 := rm113
              have K116c := K116
              have K116 := K105.trans (K116.sub (fun _ _ q => q))
              show PV _ _ _ _ _ _ _ 118 [.ref aT, .int x0, .int x1, .int v9] [] _
              have k118 := rm113.1
              have k118r := congrArg Int32.toInt rm113.2
              exact pv_vret (M := mX6_takeStep) dX6_takeStep_118 rfl ⟨_, _, rfl, rfl, I115, K116, (by first | exact SR_num (by omega) k118 (by omega) | exact SR_nam (by omega) k118 (by rw [k40]; unfold fsn; rw [if_pos (by omega)]) (by omega) | exact SR_nam (by omega) k118 (by unfold fsn; rw [if_neg (by omega)]) (by omega) | exact SR_not (by omega) (by rw [k118, k61.2.1]) (by rw [← k61.1]; first | exact b01_1 (i_eq (by rw [Int32.toInt_zero]; omega)) | exact b01_0 (i_ne (by rw [Int32.toInt_zero]; omega))) (by have q := congrArg Int32.toInt k61.2.2; omega) | exact SR_no (by omega) (by omega) (by omega) (by rw [← k79.1]; exact i_eq (by rw [Int32.toInt_zero]; omega)) (by omega) (by have q := congrArg Int32.toInt k111.2.2; omega) | exact SR_op (c := x0) rfl (by omega) (by omega) (by omega) (by rw [← k79.1]; first | exact Or.inl (i_ne (by rw [Int32.toInt_zero]; omega)) | exact Or.inr ⟨by omega, by omega⟩) (by rw [← k79.1, ← k111.1]; exact k115) (by rw [k118, k111.2.1]) (by have q := congrArg Int32.toInt k111.2.2; omega))⟩
      · have c3 := iv_eq (X := x0.toInt) (Y := 33) c3 rfl (by decide)
        refine pv_aload_n (M := mX6_takeStep) 0 dX6_takeStep_56 57 rfl rfl rfl ?_
        refine pv_aload_n (M := mX6_takeStep) 0 dX6_takeStep_57 58 rfl rfl rfl ?_
        refine pv_callv (M := mX6_takeStep) (as := []) (st := [.ref aT]) (kc2 := 0) (ks2 := 0) dX6_takeStep_58 wd749 YX6_pop ⟨wd751, wd20⟩ (mk_get haT.2.1) rfl rfl (s_X6_pop_vz g hT I aT haT) rfl rfl (Nat.le_of_ble_eq_true rfl) (by decide) rfl rfl 61 rfl (fun rv h1 q119 => ?_)
        obtain ⟨m120, n121, v124, rfl, rfl, I122, K123, pv124, qv124, rv124⟩ := q119
        replace rv124 : v124 = hd0 (stM m aT) ∧ stM m120 aT = (stM m aT).tail ∧ m120 aT 11 = m aT 11 := rv124
        have K123c := K123
        have K123 := Kp.trans (K123.sub (fun _ _ q => q))
        show PV _ _ _ _ _ _ _ 61 [.ref aT, .int x0, .int x1, pv_U] [.int v124, .ref aT] _
        have k61 := rv124
        refine pv_if_ne (M := mX6_takeStep) (tgt := 68) dX6_takeStep_61 64 rfl (by decide) (fun c126 => ?_) (fun c126 => ?_)
        · have c126 := iv_ne (X := v124.toInt) (Y := 0) c126 rfl (by decide)
          refine pv_iconst (M := mX6_takeStep) (v := 0) dX6_takeStep_68 69 rfl (by decide) ?_
          have z127 : (0 : Int32).toInt = 0 := by decide
          refine pv_callv (M := mX6_takeStep) (as := [.int 0]) (st := []) (kc2 := 0) (ks2 := 0) dX6_takeStep_69 wd753 YX6_push ⟨wd755, wd21⟩ (mk_get haT.2.1) rfl rfl (s_X6_push_vz g hT I122 aT haT 0) rfl rfl (Nat.le_of_ble_eq_true rfl) (by decide) rfl rfl 72 rfl (fun rv h1 q128 => ?_)
          obtain ⟨m129, n130, rfl, rfl, I131, K132, rm129⟩ := q128
          replace rm129 : stM m129 aT = psh (0 : Int32) (stM m120 aT) ∧ m129 aT 11 = m120 aT 11 := by have q_ := rm129; (try rw [z127] at q_); exact q_
          have K132c := K132
          have K132 := K123.trans (K132.sub (fun _ _ q => q))
          show PV _ _ _ _ _ _ _ 72 [.ref aT, .int x0, .int x1, pv_U] [] _
          refine pv_goto (M := mX6_takeStep) (tgt := 118) dX6_takeStep_72 (by decide) ?_
          have k118 := rm129.1
          have k118r := congrArg Int32.toInt rm129.2
          exact pv_vret (M := mX6_takeStep) dX6_takeStep_118 rfl ⟨_, _, rfl, rfl, I131, K132, (by first | exact SR_num (by omega) k118 (by omega) | exact SR_nam (by omega) k118 (by rw [k40]; unfold fsn; rw [if_pos (by omega)]) (by omega) | exact SR_nam (by omega) k118 (by unfold fsn; rw [if_neg (by omega)]) (by omega) | exact SR_not (by omega) (by rw [k118, k61.2.1]) (by rw [← k61.1]; first | exact b01_1 (i_eq (by rw [Int32.toInt_zero]; omega)) | exact b01_0 (i_ne (by rw [Int32.toInt_zero]; omega))) (by have q := congrArg Int32.toInt k61.2.2; omega) | exact SR_no (by omega) (by omega) (by omega) (by rw [← k79.1]; exact i_eq (by rw [Int32.toInt_zero]; omega)) (by omega) (by have q := congrArg Int32.toInt k111.2.2; omega) | exact SR_op (c := x0) rfl (by omega) (by omega) (by omega) (by rw [← k79.1]; first | exact Or.inl (i_ne (by rw [Int32.toInt_zero]; omega)) | exact Or.inr ⟨by omega, by omega⟩) (by rw [← k79.1, ← k111.1]; exact k115) (by rw [k118, k111.2.1]) (by have q := congrArg Int32.toInt k111.2.2; omega))⟩
        · have c126 := iv_eq (X := v124.toInt) (Y := 0) c126 rfl (by decide)
          refine pv_iconst (M := mX6_takeStep) (v := 1) dX6_takeStep_64 65 rfl (by decide) ?_
          refine pv_goto (M := mX6_takeStep) (tgt := 69) dX6_takeStep_65 (by decide) ?_
          have z135 : (1 : Int32).toInt = 1 := by decide
          refine pv_callv (M := mX6_takeStep) (as := [.int 1]) (st := []) (kc2 := 0) (ks2 := 0) dX6_takeStep_69 wd753 YX6_push ⟨wd755, wd21⟩ (mk_get haT.2.1) rfl rfl (s_X6_push_vz g hT I122 aT haT 1) rfl rfl (Nat.le_of_ble_eq_true rfl) (by decide) rfl rfl 72 rfl (fun rv h1 q136 => ?_)
          obtain ⟨m137, n138, rfl, rfl, I139, K140, rm137⟩ := q136
          replace rm137 : stM m137 aT = psh (1 : Int32) (stM m120 aT) ∧ m137 aT 11 = m120 aT 11 := by have q_ := rm137; (try rw [z135] at q_); exact q_
          have K140c := K140
          have K140 := K123.trans (K140.sub (fun _ _ q => q))
          show PV _ _ _ _ _ _ _ 72 [.ref aT, .int x0, .int x1, pv_U] [] _
          refine pv_goto (M := mX6_takeStep) (tgt := 118) dX6_takeStep_72 (by decide) ?_
          have k118 := rm137.1
          have k118r := congrArg Int32.toInt rm137.2
          exact pv_vret (M := mX6_takeStep) dX6_takeStep_118 rfl ⟨_, _, rfl, rfl, I139, K140, (by first | exact SR_num (by omega) k118 (by omega) | exact SR_nam (by omega) k118 (by rw [k40]; unfold fsn; rw [if_pos (by omega)]) (by omega) | exact SR_nam (by omega) k118 (by unfold fsn; rw [if_neg (by omega)]) (by omega) | exact SR_not (by omega) (by rw [k118, k61.2.1]) (by rw [← k61.1]; first | exact b01_1 (i_eq (by rw [Int32.toInt_zero]; omega)) | exact b01_0 (i_ne (by rw [Int32.toInt_zero]; omega))) (by have q := congrArg Int32.toInt k61.2.2; omega) | exact SR_no (by omega) (by omega) (by omega) (by rw [← k79.1]; exact i_eq (by rw [Int32.toInt_zero]; omega)) (by omega) (by have q := congrArg Int32.toInt k111.2.2; omega) | exact SR_op (c := x0) rfl (by omega) (by omega) (by omega) (by rw [← k79.1]; first | exact Or.inl (i_ne (by rw [Int32.toInt_zero]; omega)) | exact Or.inr ⟨by omega, by omega⟩) (by rw [← k79.1, ← k111.1]; exact k115) (by rw [k118, k111.2.1]) (by have q := congrArg Int32.toInt k111.2.2; omega))⟩
    · have c2 := iv_eq (X := x0.toInt) (Y := 36) c2 rfl (by decide)
      refine pv_aload_n (M := mX6_takeStep) 0 dX6_takeStep_20 21 rfl rfl rfl ?_
      refine pv_iload_n (M := mX6_takeStep) 2 dX6_takeStep_21 22 rfl rfl rfl ?_
      refine pv_if_lt (M := mX6_takeStep) (tgt := 43) dX6_takeStep_22 25 rfl (by decide) (fun c143 => ?_) (fun c143 => ?_)
      · have c143 := iv_lt (X := x1.toInt) (Y := 0) c143 rfl (by decide)
        refine pv_iconst (M := mX6_takeStep) (v := 0) dX6_takeStep_43 44 rfl (by decide) ?_
        have z144 : (0 : Int32).toInt = 0 := by decide
        refine pv_callv (M := mX6_takeStep) (as := [.int 0]) (st := []) (kc2 := 0) (ks2 := 0) dX6_takeStep_44 wd753 YX6_push ⟨wd755, wd21⟩ (mk_get haT.2.1) rfl rfl (s_X6_push_vz g hT I aT haT 0) rfl rfl (Nat.le_of_ble_eq_true rfl) (by decide) rfl rfl 47 rfl (fun rv h1 q145 => ?_)
        obtain ⟨m146, n147, rfl, rfl, I148, K149, rm146⟩ := q145
        replace rm146 : stM m146 aT = psh (0 : Int32) (stM m aT) ∧ m146 aT 11 = m aT 11 := by have q_ := rm146; (try rw [z144] at q_); exact q_
        have K149c := K149
        have K149 := Kp.trans (K149.sub (fun _ _ q => q))
        show PV _ _ _ _ _ _ _ 47 [.ref aT, .int x0, .int x1, pv_U] [] _
        refine pv_goto (M := mX6_takeStep) (tgt := 118) dX6_takeStep_47 (by decide) ?_
        have k118 := rm146.1
        have k118r := congrArg Int32.toInt rm146.2
        exact pv_vret (M := mX6_takeStep) dX6_takeStep_118 rfl ⟨_, _, rfl, rfl, I148, K149, (by first | exact SR_num (by omega) k118 (by omega) | exact SR_nam (by omega) k118 (by rw [k40]; unfold fsn; rw [if_pos (by omega)]) (by omega) | exact SR_nam (by omega) k118 (by unfold fsn; rw [if_neg (by omega)]) (by omega) | exact SR_not (by omega) (by rw [k118, k61.2.1]) (by rw [← k61.1]; first | exact b01_1 (i_eq (by rw [Int32.toInt_zero]; omega)) | exact b01_0 (i_ne (by rw [Int32.toInt_zero]; omega))) (by have q := congrArg Int32.toInt k61.2.2; omega) | exact SR_no (by omega) (by omega) (by omega) (by rw [← k79.1]; exact i_eq (by rw [Int32.toInt_zero]; omega)) (by omega) (by have q := congrArg Int32.toInt k111.2.2; omega) | exact SR_op (c := x0) rfl (by omega) (by omega) (by omega) (by rw [← k79.1]; first | exact Or.inl (i_ne (by rw [Int32.toInt_zero]; omega)) | exact Or.inr ⟨by omega, by omega⟩) (by rw [← k79.1, ← k111.1]; exact k115) (by rw [k118, k111.2.1]) (by have q := congrArg Int32.toInt k111.2.2; omega))⟩
      · have c143 := iv_nlt (X := x1.toInt) (Y := 0) c143 rfl (by decide)
        refine pv_iload_n (M := mX6_takeStep) 2 dX6_takeStep_25 26 rfl rfl rfl ?_
        refine pv_aload_n (M := mX6_takeStep) 0 dX6_takeStep_26 27 rfl rfl rfl ?_
        refine mv_get (M := mX6_takeStep) (v := .ref (aT + 7)) dX6_takeStep_27 FX6 8 wd243 (by decide) haT.2.1 rfl rfl 30 rfl ?_
        refine pv_alen (M := mX6_takeStep) (v := 10) dX6_takeStep_30 (mk_get (law_a7 haT)) (by decide) (show Int32.ofNat 10 = 10 by decide) 31 rfl ?_
        refine pv_icmp_ge (M := mX6_takeStep) (tgt := 43) dX6_takeStep_31 34 rfl (by decide) (fun c153 => ?_) (fun c153 => ?_)
        · have c153 := iv_le (X := 10) (Y := x1.toInt) c153 (by decide) rfl
          refine pv_iconst (M := mX6_takeStep) (v := 0) dX6_takeStep_43 44 rfl (by decide) ?_
          have z154 : (0 : Int32).toInt = 0 := by decide
          refine pv_callv (M := mX6_takeStep) (as := [.int 0]) (st := []) (kc2 := 0) (ks2 := 0) dX6_takeStep_44 wd753 YX6_push ⟨wd755, wd21⟩ (mk_get haT.2.1) rfl rfl (s_X6_push_vz g hT I aT haT 0) rfl rfl (Nat.le_of_ble_eq_true rfl) (by decide) rfl rfl 47 rfl (fun rv h1 q155 => ?_)
          obtain ⟨m156, n157, rfl, rfl, I158, K159, rm156⟩ := q155
          replace rm156 : stM m156 aT = psh (0 : Int32) (stM m aT) ∧ m156 aT 11 = m aT 11 := by have q_ := rm156; (try rw [z154] at q_); exact q_
          have K159c := K159
          have K159 := Kp.trans (K159.sub (fun _ _ q => q))
          show PV _ _ _ _ _ _ _ 47 [.ref aT, .int x0, .int x1, pv_U] [] _
          refine pv_goto (M := mX6_takeStep) (tgt := 118) dX6_takeStep_47 (by decide) ?_
          have k118 := rm156.1
          have k118r := congrArg Int32.toInt rm156.2
          exact pv_vret (M := mX6_takeStep) dX6_takeStep_118 rfl ⟨_, _, rfl, rfl, I158, K159, (by first | exact SR_num (by omega) k118 (by omega) | exact SR_nam (by omega) k118 (by rw [k40]; unfold fsn; rw [if_pos (by omega)]) (by omega) | exact SR_nam (by omega) k118 (by unfold fsn; rw [if_neg (by omega)]) (by omega) | exact SR_not (by omega) (by rw [k118, k61.2.1]) (by rw [← k61.1]; first | exact b01_1 (i_eq (by rw [Int32.toInt_zero]; omega)) | exact b01_0 (i_ne (by rw [Int32.toInt_zero]; omega))) (by have q := congrArg Int32.toInt k61.2.2; omega) | exact SR_no (by omega) (by omega) (by omega) (by rw [← k79.1]; exact i_eq (by rw [Int32.toInt_zero]; omega)) (by omega) (by have q := congrArg Int32.toInt k111.2.2; omega) | exact SR_op (c := x0) rfl (by omega) (by omega) (by omega) (by rw [← k79.1]; first | exact Or.inl (i_ne (by rw [Int32.toInt_zero]; omega)) | exact Or.inr ⟨by omega, by omega⟩) (by rw [← k79.1, ← k111.1]; exact k115) (by rw [k118, k111.2.1]) (by have q := congrArg Int32.toInt k111.2.2; omega))⟩
        · have c153 := iv_nle (X := 10) (Y := x1.toInt) c153 (by decide) rfl
          refine pv_aload_n (M := mX6_takeStep) 0 dX6_takeStep_34 35 rfl rfl rfl ?_
          refine mv_get (M := mX6_takeStep) (v := .ref (aT + 7)) dX6_takeStep_35 FX6 8 wd243 (by decide) haT.2.1 rfl rfl 38 rfl ?_
          refine pv_iload_n (M := mX6_takeStep) 2 dX6_takeStep_38 39 rfl rfl rfl ?_
          refine iv_iald (M := mX6_takeStep) (X := x1.toInt) (l1 := (-2147483648)) (l2 := 2147483647) dX6_takeStep_39 (law_a7 haT) rfl (by omega) (by omega) I (law_c7 haT) 40 rfl (fun v162 ev162 pv162 qv162 => ?_)
          have k40 : v162 = m (aT + 7) x1.toInt.toNat := ev162
          refine pv_goto (M := mX6_takeStep) (tgt := 44) dX6_takeStep_40 (by decide) ?_
          refine pv_callv (M := mX6_takeStep) (as := [.int v162]) (st := []) (kc2 := 0) (ks2 := 0) dX6_takeStep_44 wd753 YX6_push ⟨wd755, wd21⟩ (mk_get haT.2.1) rfl rfl (s_X6_push_vz g hT I aT haT v162) rfl rfl (Nat.le_of_ble_eq_true rfl) (by decide) rfl rfl 47 rfl (fun rv h1 q164 => ?_)
          obtain ⟨m165, n166, rfl, rfl, I167, K168, rm165⟩ := q164
          replace rm165 : stM m165 aT = psh v162 (stM m aT) ∧ m165 aT 11 = m aT 11 := rm165
          have K168c := K168
          have K168 := Kp.trans (K168.sub (fun _ _ q => q))
          show PV _ _ _ _ _ _ _ 47 [.ref aT, .int x0, .int x1, pv_U] [] _
          refine pv_goto (M := mX6_takeStep) (tgt := 118) dX6_takeStep_47 (by decide) ?_
          have k118 := rm165.1
          have k118r := congrArg Int32.toInt rm165.2
          exact pv_vret (M := mX6_takeStep) dX6_takeStep_118 rfl ⟨_, _, rfl, rfl, I167, K168, (by first | exact SR_num (by omega) k118 (by omega) | exact SR_nam (by omega) k118 (by rw [k40]; unfold fsn; rw [if_pos (by omega)]) (by omega) | exact SR_nam (by omega) k118 (by unfold fsn; rw [if_neg (by omega)]) (by omega) | exact SR_not (by omega) (by rw [k118, k61.2.1]) (by rw [← k61.1]; first | exact b01_1 (i_eq (by rw [Int32.toInt_zero]; omega)) | exact b01_0 (i_ne (by rw [Int32.toInt_zero]; omega))) (by have q := congrArg Int32.toInt k61.2.2; omega) | exact SR_no (by omega) (by omega) (by omega) (by rw [← k79.1]; exact i_eq (by rw [Int32.toInt_zero]; omega)) (by omega) (by have q := congrArg Int32.toInt k111.2.2; omega) | exact SR_op (c := x0) rfl (by omega) (by omega) (by omega) (by rw [← k79.1]; first | exact Or.inl (i_ne (by rw [Int32.toInt_zero]; omega)) | exact Or.inr ⟨by omega, by omega⟩) (by rw [← k79.1, ← k111.1]; exact k115) (by rw [k118, k111.2.1]) (by have q := congrArg Int32.toInt k111.2.2; omega))⟩
  · have c1 := iv_eq (X := x0.toInt) (Y := 35) c1 rfl (by decide)
    refine pv_aload_n (M := mX6_takeStep) 0 dX6_takeStep_6 7 rfl rfl rfl ?_
    refine pv_iload_n (M := mX6_takeStep) 2 dX6_takeStep_7 8 rfl rfl rfl ?_
    refine pv_callv (M := mX6_takeStep) (as := [.int x1]) (st := []) (kc2 := 0) (ks2 := 0) dX6_takeStep_8 wd753 YX6_push ⟨wd755, wd21⟩ (mk_get haT.2.1) rfl rfl (s_X6_push_vz g hT I aT haT x1) rfl rfl (Nat.le_of_ble_eq_true rfl) (by decide) rfl rfl 11 rfl (fun rv h1 q171 => ?_)
    obtain ⟨m172, n173, rfl, rfl, I174, K175, rm172⟩ := q171
    replace rm172 : stM m172 aT = psh x1 (stM m aT) ∧ m172 aT 11 = m aT 11 := rm172
    have K175c := K175
    have K175 := Kp.trans (K175.sub (fun _ _ q => q))
    show PV _ _ _ _ _ _ _ 11 [.ref aT, .int x0, .int x1, pv_U] [] _
    refine pv_goto (M := mX6_takeStep) (tgt := 118) dX6_takeStep_11 (by decide) ?_
    have k118 := rm172.1
    have k118r := congrArg Int32.toInt rm172.2
    exact pv_vret (M := mX6_takeStep) dX6_takeStep_118 rfl ⟨_, _, rfl, rfl, I174, K175, (by first | exact SR_num (by omega) k118 (by omega) | exact SR_nam (by omega) k118 (by rw [k40]; unfold fsn; rw [if_pos (by omega)]) (by omega) | exact SR_nam (by omega) k118 (by unfold fsn; rw [if_neg (by omega)]) (by omega) | exact SR_not (by omega) (by rw [k118, k61.2.1]) (by rw [← k61.1]; first | exact b01_1 (i_eq (by rw [Int32.toInt_zero]; omega)) | exact b01_0 (i_ne (by rw [Int32.toInt_zero]; omega))) (by have q := congrArg Int32.toInt k61.2.2; omega) | exact SR_no (by omega) (by omega) (by omega) (by rw [← k79.1]; exact i_eq (by rw [Int32.toInt_zero]; omega)) (by omega) (by have q := congrArg Int32.toInt k111.2.2; omega) | exact SR_op (c := x0) rfl (by omega) (by omega) (by omega) (by rw [← k79.1]; first | exact Or.inl (i_ne (by rw [Int32.toInt_zero]; omega)) | exact Or.inr ⟨by omega, by omega⟩) (by rw [← k79.1, ← k111.1]; exact k115) (by rw [k118, k111.2.1]) (by have q := congrArg Int32.toInt k111.2.2; omega))⟩

set_option maxHeartbeats 2000000 in
set_option maxRecDepth 20000 in
theorem s_X6_reckon_vz (g : pv_G) {T : List mv_T} {m : Nat → Nat → Int32} {n : Nat → Nat → Int64} {r : Nat → Value} (hT : TX T) (I : IV BB m) (aT : Nat) (haT : LawAt T aT) (x0 : Int32) (hl0 : 0 ≤ x0.toInt) (hh0 : x0.toInt ≤ 160) (x1 : Int32) (hl1 : 0 ≤ x1.toInt) (hh1 : x1.toInt ≤ 160) (hp0 : NUN (cdC m aT) x0.toInt.toNat x1.toInt.toNat) : PM g mX6_reckon yX6_reckon (sqI T BB (wS aT) r m (-2147483648) 2147483647 (fun m' v => RKZ (ev (cdC m aT) (fsn m aT) x1.toInt.toNat x0.toInt.toNat []) v (m' aT 11))) 3 0 0 [.ref aT, .int x0, .int x1] (mk T m n r) := by
  have Kp : fr (wS aT) m m := fr.rf
  have zwT := haT.1
  refine PM.of 2 (lo := [.ref aT, .int x0, .int x1, pv_U, pv_U]) rfl (by decide) rfl rfl (Nat.le_of_ble_eq_true rfl) ?_
  refine pv_aload_n (M := mX6_reckon) 0 dX6_reckon_0 1 rfl rfl rfl ?_
  refine pv_iconst (M := mX6_reckon) (v := 0) dX6_reckon_1 2 rfl (by decide) ?_
  refine iv_put (M := mX6_reckon) (l1 := 0) (l2 := 32) dX6_reckon_2 FX6 10 wd245 (by decide) rfl haT.2.1 rfl rfl rfl I (law_b10 haT) (by decide) (by decide) 5 rfl (fun m1 e4 I2 => ?_)
  have K3 := Kp.set e4 (by first | exact wS_10 | exact wS_11 | exact wS_8)
  have w5 : (m1 aT 10).toInt = 0 := by rw [e4, up2_eq] <;> rfl
  have w6 : (m1 aT 11).toInt = (m aT 11).toInt := by rw [e4, up2_ne (by omega)]
  refine pv_aload_n (M := mX6_reckon) 0 dX6_reckon_5 6 rfl rfl rfl ?_
  refine pv_iconst (M := mX6_reckon) (v := 0) dX6_reckon_6 7 rfl (by decide) ?_
  refine iv_put (M := mX6_reckon) (l1 := 0) (l2 := 1) dX6_reckon_7 FX6 11 wd246 (by decide) rfl haT.2.1 rfl rfl rfl I2 (law_b11 haT) (by decide) (by decide) 10 rfl (fun m7 e10 I8 => ?_)
  have K9 := K3.set e10 (by first | exact wS_10 | exact wS_11 | exact wS_8)
  have w11 : (m7 aT 10).toInt = (m1 aT 10).toInt := by rw [e10, up2_ne (by omega)]
  have w12 : (m7 aT 11).toInt = 0 := by rw [e10, up2_eq] <;> rfl
  refine pv_iload_n (M := mX6_reckon) 1 dX6_reckon_10 11 rfl rfl rfl ?_
  refine pv_istore_n (M := mX6_reckon) 3 (lo2 := [.ref aT, .int x0, .int x1, .int x0, pv_U]) dX6_reckon_11 12 rfl rfl (by decide) rfl rfl ?_
  have lp19 : ∀ (fuel18 : Nat) (y13 : Int32) (m14 : Nat → Nat → Int32) (n15 : Nat → Nat → Int64), (0 ≤ y13.toInt) → (y13.toInt ≤ 100000) → (x0.toInt ≤ y13.toInt) → (EVR m m14 aT x1.toInt.toNat x0.toInt.toNat y13.toInt.toNat) → IV BB m14 → fr (wS aT) m m14 → ((160 - y13.toInt) : Int).toNat < fuel18 → PV none g mX6_reckon (sqI T BB (wS aT) r m (-2147483648) 2147483647 (fun m' v => RKZ (ev (cdC m aT) (fsn m aT) x1.toInt.toNat x0.toInt.toNat []) v (m' aT 11))) 3 0 0 12 [.ref aT, .int x0, .int x1, .int y13, pv_U] [] (mk T m14 n15 r) := by
    intro fuel18
    induction fuel18 with
    | zero => intro y13 m14 n15 b21 b22 b23 b24 I16 K17 z25; omega
    | succ fuel18 ih20 =>
      intro y13 m14 n15 b21 b22 b23 b24 I16 K17 z25
      have kge := (show EVR m m14 aT x1.toInt.toNat x0.toInt.toNat y13.toInt.toNat by assumption)
      have kfs : fsn m14 aT = fsn m aT := fsn_eq (fun j => K17 _ _ (wS_out (by omega) (by omega)))
      refine pv_iload_n (M := mX6_reckon) 3 dX6_reckon_12 13 rfl rfl rfl ?_
      refine pv_iload_n (M := mX6_reckon) 2 dX6_reckon_13 14 rfl rfl rfl ?_
      refine pv_icmp_ge (M := mX6_reckon) (tgt := 125) dX6_reckon_14 17 rfl (by decide) (fun c28 => ?_) (fun c28 => ?_)
      · have c28 := iv_le (X := x1.toInt) (Y := y13.toInt) c28 rfl rfl
        refine pv_aload_n (M := mX6_reckon) 0 dX6_reckon_125 126 rfl rfl rfl ?_
        refine pv_callv (M := mX6_reckon) (as := []) (st := []) (kc2 := 0) (ks2 := 0) dX6_reckon_126 wd749 YX6_pop ⟨wd751, wd20⟩ (mk_get haT.2.1) rfl rfl (s_X6_pop_vz g hT I16 aT haT) rfl rfl (Nat.le_of_ble_eq_true rfl) (by decide) rfl rfl 129 rfl (fun rv h1 q29 => ?_)
        obtain ⟨m30, n31, v34, rfl, rfl, I32, K33, pv34, qv34, rv34⟩ := q29
        replace rv34 : v34 = hd0 (stM m14 aT) ∧ stM m30 aT = (stM m14 aT).tail ∧ m30 aT 11 = m14 aT 11 := rv34
        have K33c := K33
        have K33 := K17.trans (K33.sub (fun _ _ q => q))
        show PV _ _ _ _ _ _ _ 129 [.ref aT, .int x0, .int x1, .int y13, pv_U] [.int v34] _
        have k129 := rv34
        exact pv_iret (M := mX6_reckon) dX6_reckon_129 rfl rfl ⟨_, _, _, rfl, rfl, I32, K33, (iv_rng v34).1, (iv_rng v34).2, (EVR_e kge (fun q => by omega) k129.1 k129.2.2)⟩
      · have c28 := iv_nle (X := x1.toInt) (Y := y13.toInt) c28 rfl rfl
        refine pv_aload_n (M := mX6_reckon) 0 dX6_reckon_17 18 rfl rfl rfl ?_
        refine iv_get (M := mX6_reckon) (l1 := 0) (l2 := 1) dX6_reckon_18 FX6 11 wd246 (by decide) haT.2.1 rfl I16 (law_b11 haT) 21 rfl (fun v36 ev36 pv36 qv36 => ?_)
        have wv36 : v36.toInt = (m14 aT 11).toInt := congrArg Int32.toInt ev36
        refine pv_if_ne (M := mX6_reckon) (tgt := 125) dX6_reckon_21 24 rfl (by decide) (fun c37 => ?_) (fun c37 => ?_)
        · have c37 := iv_ne (X := v36.toInt) (Y := 0) c37 rfl (by decide)
          refine pv_aload_n (M := mX6_reckon) 0 dX6_reckon_125 126 rfl rfl rfl ?_
          refine pv_callv (M := mX6_reckon) (as := []) (st := []) (kc2 := 0) (ks2 := 0) dX6_reckon_126 wd749 YX6_pop ⟨wd751, wd20⟩ (mk_get haT.2.1) rfl rfl (s_X6_pop_vz g hT I16 aT haT) rfl rfl (Nat.le_of_ble_eq_true rfl) (by decide) rfl rfl 129 rfl (fun rv h1 q38 => ?_)
          obtain ⟨m39, n40, v43, rfl, rfl, I41, K42, pv43, qv43, rv43⟩ := q38
          replace rv43 : v43 = hd0 (stM m14 aT) ∧ stM m39 aT = (stM m14 aT).tail ∧ m39 aT 11 = m14 aT 11 := rv43
          have K42c := K42
          have K42 := K17.trans (K42.sub (fun _ _ q => q))
          show PV _ _ _ _ _ _ _ 129 [.ref aT, .int x0, .int x1, .int y13, pv_U] [.int v43] _
          have k129 := rv43
          exact pv_iret (M := mX6_reckon) dX6_reckon_129 rfl rfl ⟨_, _, _, rfl, rfl, I41, K42, (iv_rng v43).1, (iv_rng v43).2, (EVR_e kge (fun q => by omega) k129.1 k129.2.2)⟩
        · have c37 := iv_eq (X := v36.toInt) (Y := 0) c37 rfl (by decide)
          have k24r : (m14 aT 11).toInt = 0 := by omega
          refine pv_aload_n (M := mX6_reckon) 0 dX6_reckon_24 25 rfl rfl rfl ?_
          refine mv_get (M := mX6_reckon) (v := .ref (aT + 1)) dX6_reckon_25 FX6 0 wd233 (by decide) haT.2.1 rfl rfl 28 rfl ?_
          refine pv_iload_n (M := mX6_reckon) 3 dX6_reckon_28 29 rfl rfl rfl ?_
          refine iv_iald (M := mX6_reckon) (X := y13.toInt) (l1 := (-2147483648)) (l2 := 2147483647) dX6_reckon_29 (law_a1 haT) rfl (by omega) (by omega) I16 (law_c1 haT) 30 rfl (fun v46 ev46 pv46 qv46 => ?_)
          have k30 : (cdC m aT y13.toInt.toNat).1 = v46.toInt := by show (m (aT + 1) y13.toInt.toNat).toInt = _; rw [ev46, K17 _ _ (wS_out (by omega) (by omega))]
          refine pv_bipush (M := mX6_reckon) (v := 124) dX6_reckon_30 32 rfl (by decide) ?_
          refine pv_icmp_eq (M := mX6_reckon) (tgt := 46) dX6_reckon_32 35 rfl (by decide) (fun c48 => ?_) (fun c48 => ?_)
          · have c48 := iv_eq (X := v46.toInt) (Y := 124) c48 rfl (by decide)
            refine pv_aload_n (M := mX6_reckon) 0 dX6_reckon_46 47 rfl rfl rfl ?_
            refine pv_callv (M := mX6_reckon) (as := []) (st := []) (kc2 := 0) (ks2 := 0) dX6_reckon_47 wd749 YX6_pop ⟨wd751, wd20⟩ (mk_get haT.2.1) rfl rfl (s_X6_pop_vz g hT I16 aT haT) rfl rfl (Nat.le_of_ble_eq_true rfl) (by decide) rfl rfl 50 rfl (fun rv h1 q49 => ?_)
            obtain ⟨m50, n51, v54, rfl, rfl, I52, K53, pv54, qv54, rv54⟩ := q49
            replace rv54 : v54 = hd0 (stM m14 aT) ∧ stM m50 aT = (stM m14 aT).tail ∧ m50 aT 11 = m14 aT 11 := rv54
            have K53c := K53
            have K53 := K17.trans (K53.sub (fun _ _ q => q))
            show PV _ _ _ _ _ _ _ 50 [.ref aT, .int x0, .int x1, .int y13, pv_U] [.int v54] _
            have k50 := rv54
            have k50r := congrArg Int32.toInt k50.2.2
            refine pv_istore (M := mX6_reckon) (lo2 := [.ref aT, .int x0, .int x1, .int y13, .int v54]) dX6_reckon_50 52 rfl (by decide) rfl rfl ?_
            refine pv_iload (M := mX6_reckon) dX6_reckon_52 54 rfl rfl ?_
            refine pv_if_eq (M := mX6_reckon) (tgt := 61) dX6_reckon_54 57 rfl (by decide) (fun c57 => ?_) (fun c57 => ?_)
            · have c57 := iv_eq (X := v54.toInt) (Y := 0) c57 rfl (by decide)
              refine pv_iconst (M := mX6_reckon) (v := 0) dX6_reckon_61 62 rfl (by decide) ?_
              refine pv_aload_n (M := mX6_reckon) 0 dX6_reckon_62 63 rfl rfl rfl ?_
              refine mv_get (M := mX6_reckon) (v := .ref (aT + 1)) dX6_reckon_63 FX6 0 wd233 (by decide) haT.2.1 rfl rfl 66 rfl ?_
              refine pv_iload_n (M := mX6_reckon) 3 dX6_reckon_66 67 rfl rfl rfl ?_
              refine iv_iald (M := mX6_reckon) (X := y13.toInt) (l1 := (-2147483648)) (l2 := 2147483647) dX6_reckon_67 (law_a1 haT) rfl (by omega) (by omega) I52 (law_c1 haT) 68 rfl (fun v58 ev58 pv58 qv58 => ?_)
              have k68 : (cdC m aT y13.toInt.toNat).1 = v58.toInt := by show (m (aT + 1) y13.toInt.toNat).toInt = _; rw [ev58, K53 _ _ (wS_out (by omega) (by omega))]
              refine pv_bipush (M := mX6_reckon) (v := 124) dX6_reckon_68 70 rfl (by decide) ?_
              refine pv_icmp_ne (M := mX6_reckon) (tgt := 77) dX6_reckon_70 73 rfl (by decide) (fun c60 => ?_) (fun c60 => ?_)
              · have c60 := iv_ne (X := v58.toInt) (Y := 124) c60 rfl (by decide)
                refine pv_iconst (M := mX6_reckon) (v := 0) dX6_reckon_77 78 rfl (by decide) ?_
                refine pv_icmp_ne (M := mX6_reckon) (tgt := 100) dX6_reckon_78 81 rfl (by decide) (fun q => absurd (by decide) q) (fun _ => ?_)
                refine pv_aload_n (M := mX6_reckon) 0 dX6_reckon_81 82 rfl rfl rfl ?_
                refine pv_iload (M := mX6_reckon) dX6_reckon_82 84 rfl rfl ?_
                refine pv_callv (M := mX6_reckon) (as := [.int v54]) (st := []) (kc2 := 0) (ks2 := 0) dX6_reckon_84 wd753 YX6_push ⟨wd755, wd21⟩ (mk_get haT.2.1) rfl rfl (s_X6_push_vz g hT I52 aT haT v54) rfl rfl (Nat.le_of_ble_eq_true rfl) (by decide) rfl rfl 87 rfl (fun rv h1 q62 => ?_)
                obtain ⟨m63, n64, rfl, rfl, I65, K66, rm63⟩ := q62
                replace rm63 : stM m63 aT = psh v54 (stM m50 aT) ∧ m63 aT 11 = m50 aT 11 := rm63
                have K66c := K66
                have K66 := K53.trans (K66.sub (fun _ _ q => q))
                show PV _ _ _ _ _ _ _ 87 [.ref aT, .int x0, .int x1, .int y13, .int v54] [] _
                have k87 := rm63.1
                have k87r := congrArg Int32.toInt rm63.2
                refine pv_iload_n (M := mX6_reckon) 3 dX6_reckon_87 88 rfl rfl rfl ?_
                refine pv_aload_n (M := mX6_reckon) 0 dX6_reckon_88 89 rfl rfl rfl ?_
                refine mv_get (M := mX6_reckon) (v := .ref (aT + 2)) dX6_reckon_89 FX6 1 wd234 (by decide) haT.2.1 rfl rfl 92 rfl ?_
                refine pv_iload_n (M := mX6_reckon) 3 dX6_reckon_92 93 rfl rfl rfl ?_
                refine iv_iald (M := mX6_reckon) (X := y13.toInt) (l1 := (-1)) (l2 := 99999) dX6_reckon_93 (law_a2 haT) rfl (by omega) (by omega) I65 (law_c2 haT) 94 rfl (fun v69 ev69 pv69 qv69 => ?_)
                have k94 : (cdC m aT y13.toInt.toNat).2 = v69 := by show m (aT + 2) y13.toInt.toNat = _; rw [ev69, K66 _ _ (wS_out (by omega) (by omega))]
                refine pv_iconst (M := mX6_reckon) (v := 1) dX6_reckon_94 95 rfl (by decide) ?_
                refine iv_isub (M := mX6_reckon) (X := v69.toInt) (Y := 1) dX6_reckon_95 96 rfl rfl (by decide) (by omega) (by omega) (fun v71 ev71 => ?_)
                refine iv_max (M := mX6_reckon) (X := y13.toInt) (Y := v71.toInt) dX6_reckon_96 wd682 Wmmax (Nat.le_of_ble_eq_true rfl) (by decide) rfl rfl 99 rfl (fun v72 ev72 fv72 gv72 => ?_)
                refine pv_istore_n (M := mX6_reckon) 3 (lo2 := [.ref aT, .int x0, .int x1, .int v72, .int v54]) dX6_reckon_99 100 rfl rfl (by decide) rfl rfl ?_
                refine pv_goto (M := mX6_reckon) (tgt := 119) dX6_reckon_100 (by decide) ?_
                try have k119 := rm63
                refine iv_inc (M := mX6_reckon) (C := 1) dX6_reckon_119 122 rfl rfl (by decide) rfl rfl (by decide) (by omega) (by omega) (fun v74 ev74 => ?_)
                show PV _ _ _ _ _ _ _ 122 [.ref aT, .int x0, .int x1, .int v74, .int v54] [] _
                refine pv_goto (M := mX6_reckon) (tgt := 12) dX6_reckon_122 (by decide) ?_
                refine pv_fg (lo2 := [.ref aT, .int x0, .int x1, .int v74, pv_U]) ⟨Or.inr rfl, ⟨Or.inr rfl, ⟨Or.inr rfl, ⟨Or.inr rfl, ⟨Or.inl rfl, trivial⟩⟩⟩⟩⟩ ?_
                have kbe : EVR m m63 aT x1.toInt.toNat x0.toInt.toNat v74.toInt.toNat := by first | exact EVR_l kge k24r (by omega) (by omega) k50.1 (by first | exact Or.inl ⟨i_ne (by rw [Int32.toInt_zero]; omega), by omega⟩ | exact Or.inr ⟨i_eq (by rw [Int32.toInt_zero]; omega), by omega⟩) (by rw [k87, k50.2.1]) (by omega) (by rw [k94]; omega) | exact EVR_n kge k24r (by omega) (by omega) k50.1 (fun q => by rcases q with q | q <;> first | exact q.1 (i_eq (by rw [Int32.toInt_zero]; omega)) | (have q2 := q.2; omega) | (have q1 := congrArg Int32.toInt q.1; rw [Int32.toInt_zero] at q1; omega)) k50.2.1 (by omega) (by omega) | exact EVR_s kge k24r (by omega) (by omega) (by omega) (by rw [k109a, k116, ← kfs]; exact k119) (by omega)
                exact ih20 v74 m63 n64 (by first | omega | assumption | exact (iv_rng _).2 | exact (iv_rng _).1 | decide) (by first | omega | assumption | exact (iv_rng _).2 | exact (iv_rng _).1 | decide) (by first | omega | assumption | (show x0.toInt ≤ v74.toInt; omega) | decide) kbe I65 K66 (by omega)
              · have c60 := iv_eq (X := v58.toInt) (Y := 124) c60 rfl (by decide)
                refine pv_iconst (M := mX6_reckon) (v := 1) dX6_reckon_73 74 rfl (by decide) ?_
                refine pv_goto (M := mX6_reckon) (tgt := 78) dX6_reckon_74 (by decide) ?_
                refine pv_icmp_ne (M := mX6_reckon) (tgt := 100) dX6_reckon_78 81 rfl (by decide) (fun _ => ?_) (fun q => absurd q (by decide))
                refine pv_goto (M := mX6_reckon) (tgt := 119) dX6_reckon_100 (by decide) ?_
                try have k119 := rm50
                refine iv_inc (M := mX6_reckon) (C := 1) dX6_reckon_119 122 rfl rfl (by decide) rfl rfl (by decide) (by omega) (by omega) (fun v78 ev78 => ?_)
                show PV _ _ _ _ _ _ _ 122 [.ref aT, .int x0, .int x1, .int v78, .int v54] [] _
                refine pv_goto (M := mX6_reckon) (tgt := 12) dX6_reckon_122 (by decide) ?_
                refine pv_fg (lo2 := [.ref aT, .int x0, .int x1, .int v78, pv_U]) ⟨Or.inr rfl, ⟨Or.inr rfl, ⟨Or.inr rfl, ⟨Or.inr rfl, ⟨Or.inl rfl, trivial⟩⟩⟩⟩⟩ ?_
                have kbe : EVR m m50 aT x1.toInt.toNat x0.toInt.toNat v78.toInt.toNat := by first | exact EVR_l kge k24r (by omega) (by omega) k50.1 (by first | exact Or.inl ⟨i_ne (by rw [Int32.toInt_zero]; omega), by omega⟩ | exact Or.inr ⟨i_eq (by rw [Int32.toInt_zero]; omega), by omega⟩) (by rw [k87, k50.2.1]) (by omega) (by rw [k94]; omega) | exact EVR_n kge k24r (by omega) (by omega) k50.1 (fun q => by rcases q with q | q <;> first | exact q.1 (i_eq (by rw [Int32.toInt_zero]; omega)) | (have q2 := q.2; omega) | (have q1 := congrArg Int32.toInt q.1; rw [Int32.toInt_zero] at q1; omega)) k50.2.1 (by omega) (by omega) | exact EVR_s kge k24r (by omega) (by omega) (by omega) (by rw [k109a, k116, ← kfs]; exact k119) (by omega)
                exact ih20 v78 m50 n51 (by first | omega | assumption | exact (iv_rng _).2 | exact (iv_rng _).1 | decide) (by first | omega | assumption | exact (iv_rng _).2 | exact (iv_rng _).1 | decide) (by first | omega | assumption | (show x0.toInt ≤ v78.toInt; omega) | decide) kbe I52 K53 (by omega)
            · have c57 := iv_ne (X := v54.toInt) (Y := 0) c57 rfl (by decide)
              refine pv_iconst (M := mX6_reckon) (v := 1) dX6_reckon_57 58 rfl (by decide) ?_
              refine pv_goto (M := mX6_reckon) (tgt := 62) dX6_reckon_58 (by decide) ?_
              refine pv_aload_n (M := mX6_reckon) 0 dX6_reckon_62 63 rfl rfl rfl ?_
              refine mv_get (M := mX6_reckon) (v := .ref (aT + 1)) dX6_reckon_63 FX6 0 wd233 (by decide) haT.2.1 rfl rfl 66 rfl ?_
              refine pv_iload_n (M := mX6_reckon) 3 dX6_reckon_66 67 rfl rfl rfl ?_
              refine iv_iald (M := mX6_reckon) (X := y13.toInt) (l1 := (-2147483648)) (l2 := 2147483647) dX6_reckon_67 (law_a1 haT) rfl (by omega) (by omega) I52 (law_c1 haT) 68 rfl (fun v80 ev80 pv80 qv80 => ?_)
              have k68 : (cdC m aT y13.toInt.toNat).1 = v80.toInt := by show (m (aT + 1) y13.toInt.toNat).toInt = _; rw [ev80, K53 _ _ (wS_out (by omega) (by omega))]
              refine pv_bipush (M := mX6_reckon) (v := 124) dX6_reckon_68 70 rfl (by decide) ?_
              refine pv_icmp_ne (M := mX6_reckon) (tgt := 77) dX6_reckon_70 73 rfl (by decide) (fun c82 => ?_) (fun c82 => ?_)
              · have c82 := iv_ne (X := v80.toInt) (Y := 124) c82 rfl (by decide)
                refine pv_iconst (M := mX6_reckon) (v := 0) dX6_reckon_77 78 rfl (by decide) ?_
                refine pv_icmp_ne (M := mX6_reckon) (tgt := 100) dX6_reckon_78 81 rfl (by decide) (fun _ => ?_) (fun q => absurd q (by decide))
                refine pv_goto (M := mX6_reckon) (tgt := 119) dX6_reckon_100 (by decide) ?_
                try have k119 := rm50
                refine iv_inc (M := mX6_reckon) (C := 1) dX6_reckon_119 122 rfl rfl (by decide) rfl rfl (by decide) (by omega) (by omega) (fun v85 ev85 => ?_)
                show PV _ _ _ _ _ _ _ 122 [.ref aT, .int x0, .int x1, .int v85, .int v54] [] _
                refine pv_goto (M := mX6_reckon) (tgt := 12) dX6_reckon_122 (by decide) ?_
                refine pv_fg (lo2 := [.ref aT, .int x0, .int x1, .int v85, pv_U]) ⟨Or.inr rfl, ⟨Or.inr rfl, ⟨Or.inr rfl, ⟨Or.inr rfl, ⟨Or.inl rfl, trivial⟩⟩⟩⟩⟩ ?_
                have kbe : EVR m m50 aT x1.toInt.toNat x0.toInt.toNat v85.toInt.toNat := by first | exact EVR_l kge k24r (by omega) (by omega) k50.1 (by first | exact Or.inl ⟨i_ne (by rw [Int32.toInt_zero]; omega), by omega⟩ | exact Or.inr ⟨i_eq (by rw [Int32.toInt_zero]; omega), by omega⟩) (by rw [k87, k50.2.1]) (by omega) (by rw [k94]; omega) | exact EVR_n kge k24r (by omega) (by omega) k50.1 (fun q => by rcases q with q | q <;> first | exact q.1 (i_eq (by rw [Int32.toInt_zero]; omega)) | (have q2 := q.2; omega) | (have q1 := congrArg Int32.toInt q.1; rw [Int32.toInt_zero] at q1; omega)) k50.2.1 (by omega) (by omega) | exact EVR_s kge k24r (by omega) (by omega) (by omega) (by rw [k109a, k116, ← kfs]; exact k119) (by omega)
                exact ih20 v85 m50 n51 (by first | omega | assumption | exact (iv_rng _).2 | exact (iv_rng _).1 | decide) (by first | omega | assumption | exact (iv_rng _).2 | exact (iv_rng _).1 | decide) (by first | omega | assumption | (show x0.toInt ≤ v85.toInt; omega) | decide) kbe I52 K53 (by omega)
              · have c82 := iv_eq (X := v80.toInt) (Y := 124) c82 rfl (by decide)
                refine pv_iconst (M := mX6_reckon) (v := 1) dX6_reckon_73 74 rfl (by decide) ?_
                refine pv_goto (M := mX6_reckon) (tgt := 78) dX6_reckon_74 (by decide) ?_
                refine pv_icmp_ne (M := mX6_reckon) (tgt := 100) dX6_reckon_78 81 rfl (by decide) (fun q => absurd (by decide) q) (fun _ => ?_)
                refine pv_aload_n (M := mX6_reckon) 0 dX6_reckon_81 82 rfl rfl rfl ?_
                refine pv_iload (M := mX6_reckon) dX6_reckon_82 84 rfl rfl ?_
                refine pv_callv (M := mX6_reckon) (as := [.int v54]) (st := []) (kc2 := 0) (ks2 := 0) dX6_reckon_84 wd753 YX6_push ⟨wd755, wd21⟩ (mk_get haT.2.1) rfl rfl (s_X6_push_vz g hT I52 aT haT v54) rfl rfl (Nat.le_of_ble_eq_true rfl) (by decide) rfl rfl 87 rfl (fun rv h1 q88 => ?_)
                obtain ⟨m89, n90, rfl, rfl, I91, K92, rm89⟩ := q88
                replace rm89 : stM m89 aT = psh v54 (stM m50 aT) ∧ m89 aT 11 = m50 aT 11 := rm89
                have K92c := K92
                have K92 := K53.trans (K92.sub (fun _ _ q => q))
                show PV _ _ _ _ _ _ _ 87 [.ref aT, .int x0, .int x1, .int y13, .int v54] [] _
                have k87 := rm89.1
                have k87r := congrArg Int32.toInt rm89.2
                refine pv_iload_n (M := mX6_reckon) 3 dX6_reckon_87 88 rfl rfl rfl ?_
                refine pv_aload_n (M := mX6_reckon) 0 dX6_reckon_88 89 rfl rfl rfl ?_
                refine mv_get (M := mX6_reckon) (v := .ref (aT + 2)) dX6_reckon_89 FX6 1 wd234 (by decide) haT.2.1 rfl rfl 92 rfl ?_
                refine pv_iload_n (M := mX6_reckon) 3 dX6_reckon_92 93 rfl rfl rfl ?_
                refine iv_iald (M := mX6_reckon) (X := y13.toInt) (l1 := (-1)) (l2 := 99999) dX6_reckon_93 (law_a2 haT) rfl (by omega) (by omega) I91 (law_c2 haT) 94 rfl (fun v95 ev95 pv95 qv95 => ?_)
                have k94 : (cdC m aT y13.toInt.toNat).2 = v95 := by show m (aT + 2) y13.toInt.toNat = _; rw [ev95, K92 _ _ (wS_out (by omega) (by omega))]
                refine pv_iconst (M := mX6_reckon) (v := 1) dX6_reckon_94 95 rfl (by decide) ?_
                refine iv_isub (M := mX6_reckon) (X := v95.toInt) (Y := 1) dX6_reckon_95 96 rfl rfl (by decide) (by omega) (by omega) (fun v97 ev97 => ?_)
                refine iv_max (M := mX6_reckon) (X := y13.toInt) (Y := v97.toInt) dX6_reckon_96 wd682 Wmmax (Nat.le_of_ble_eq_true rfl) (by decide) rfl rfl 99 rfl (fun v98 ev98 fv98 gv98 => ?_)
                refine pv_istore_n (M := mX6_reckon) 3 (lo2 := [.ref aT, .int x0, .int x1, .int v98, .int v54]) dX6_reckon_99 100 rfl rfl (by decide) rfl rfl ?_
                refine pv_goto (M := mX6_reckon) (tgt := 119) dX6_reckon_100 (by decide) ?_
                try have k119 := rm89
                refine iv_inc (M := mX6_reckon) (C := 1) dX6_reckon_119 122 rfl rfl (by decide) rfl rfl (by decide) (by omega) (by omega) (fun v100 ev100 => ?_)
                show PV _ _ _ _ _ _ _ 122 [.ref aT, .int x0, .int x1, .int v100, .int v54] [] _
                refine pv_goto (M := mX6_reckon) (tgt := 12) dX6_reckon_122 (by decide) ?_
                refine pv_fg (lo2 := [.ref aT, .int x0, .int x1, .int v100, pv_U]) ⟨Or.inr rfl, ⟨Or.inr rfl, ⟨Or.inr rfl, ⟨Or.inr rfl, ⟨Or.inl rfl, trivial⟩⟩⟩⟩⟩ ?_
                have kbe : EVR m m89 aT x1.toInt.toNat x0.toInt.toNat v100.toInt.toNat := by first | exact EVR_l kge k24r (by omega) (by omega) k50.1 (by first | exact Or.inl ⟨i_ne (by rw [Int32.toInt_zero]; omega), by omega⟩ | exact Or.inr ⟨i_eq (by rw [Int32.toInt_zero]; omega), by omega⟩) (by rw [k87, k50.2.1]) (by omega) (by rw [k94]; omega) | exact EVR_n kge k24r (by omega) (by omega) k50.1 (fun q => by rcases q with q | q <;> first | exact q.1 (i_eq (by rw [Int32.toInt_zero]; omega)) | (have q2 := q.2; omega) | (have q1 := congrArg Int32.toInt q.1; rw [Int32.toInt_zero] at q1; omega)) k50.2.1 (by omega) (by omega) | exact EVR_s kge k24r (by omega) (by omega) (by omega) (by rw [k109a, k116, ← kfs]; exact k119) (by omega)
                exact ih20 v100 m89 n90 (by first | omega | assumption | exact (iv_rng _).2 | exact (iv_rng _).1 | decide) (by first | omega | assumption | exact (iv_rng _).2 | exact (iv_rng _).1 | decide) (by first | omega | assumption | (show x0.toInt ≤ v100.toInt; omega) | decide) kbe I91 K92 (by omega)
          · have c48 := iv_ne (X := v46.toInt) (Y := 124) c48 rfl (by decide)
            refine pv_aload_n (M := mX6_reckon) 0 dX6_reckon_35 36 rfl rfl rfl ?_
            refine mv_get (M := mX6_reckon) (v := .ref (aT + 1)) dX6_reckon_36 FX6 0 wd233 (by decide) haT.2.1 rfl rfl 39 rfl ?_
            refine pv_iload_n (M := mX6_reckon) 3 dX6_reckon_39 40 rfl rfl rfl ?_
            refine iv_iald (M := mX6_reckon) (X := y13.toInt) (l1 := (-2147483648)) (l2 := 2147483647) dX6_reckon_40 (law_a1 haT) rfl (by omega) (by omega) I16 (law_c1 haT) 41 rfl (fun v102 ev102 pv102 qv102 => ?_)
            have k41 : (cdC m aT y13.toInt.toNat).1 = v102.toInt := by show (m (aT + 1) y13.toInt.toNat).toInt = _; rw [ev102, K17 _ _ (wS_out (by omega) (by omega))]
            refine pv_bipush (M := mX6_reckon) (v := 38) dX6_reckon_41 43 rfl (by decide) ?_
            refine pv_icmp_ne (M := mX6_reckon) (tgt := 103) dX6_reckon_43 46 rfl (by decide) (fun c104 => ?_) (fun c104 => ?_)
            · have c104 := iv_ne (X := v102.toInt) (Y := 38) c104 rfl (by decide)
              refine pv_aload_n (M := mX6_reckon) 0 dX6_reckon_103 104 rfl rfl rfl ?_
              refine pv_aload_n (M := mX6_reckon) 0 dX6_reckon_104 105 rfl rfl rfl ?_
              refine mv_get (M := mX6_reckon) (v := .ref (aT + 1)) dX6_reckon_105 FX6 0 wd233 (by decide) haT.2.1 rfl rfl 108 rfl ?_
              refine pv_iload_n (M := mX6_reckon) 3 dX6_reckon_108 109 rfl rfl rfl ?_
              refine iv_iald (M := mX6_reckon) (X := y13.toInt) (l1 := (-2147483648)) (l2 := 2147483647) dX6_reckon_109 (law_a1 haT) rfl (by omega) (by omega) I16 (law_c1 haT) 110 rfl (fun v105 ev105 pv105 qv105 => ?_)
              have k109a : (cdC m aT y13.toInt.toNat).1 = v105.toInt := by show (m (aT + 1) y13.toInt.toNat).toInt = _; rw [ev105, K17 _ _ (wS_out (by omega) (by omega))]
              refine pv_aload_n (M := mX6_reckon) 0 dX6_reckon_110 111 rfl rfl rfl ?_
              refine mv_get (M := mX6_reckon) (v := .ref (aT + 2)) dX6_reckon_111 FX6 1 wd234 (by decide) haT.2.1 rfl rfl 114 rfl ?_
              refine pv_iload_n (M := mX6_reckon) 3 dX6_reckon_114 115 rfl rfl rfl ?_
              refine iv_iald (M := mX6_reckon) (X := y13.toInt) (l1 := (-1)) (l2 := 99999) dX6_reckon_115 (law_a2 haT) rfl (by omega) (by omega) I16 (law_c2 haT) 116 rfl (fun v107 ev107 pv107 qv107 => ?_)
              have k116 : (cdC m aT y13.toInt.toNat).2 = v107 := by show m (aT + 2) y13.toInt.toNat = _; rw [ev107, K17 _ _ (wS_out (by omega) (by omega))]
              have k116n := hp0 y13.toInt.toNat (by omega) (by omega)
              rw [k116] at k116n
              refine pv_callv (M := mX6_reckon) (as := [.int v105, .int v107]) (st := []) (kc2 := 0) (ks2 := 0) dX6_reckon_116 wd757 YX6_takeStep ⟨wd759, wd22⟩ (mk_get haT.2.1) rfl rfl (s_X6_takeStep_vz g hT I16 aT haT v105 v107 k24r (fun q => by omega)) rfl rfl (Nat.le_of_ble_eq_true rfl) (by decide) rfl rfl 119 rfl (fun rv h1 q111 => ?_)
              obtain ⟨m112, n113, rfl, rfl, I114, K115, rm112⟩ := q111
              replace rm112 : SR (stpC v105.toInt v107 (fsn m14 aT) (stM m14 aT)) (stM m112 aT) (m112 aT 11).toInt := rm112
              have K115c := K115
              have K115 := K17.trans (K115.sub (fun _ _ q => q))
              show PV _ _ _ _ _ _ _ 119 [.ref aT, .int x0, .int x1, .int y13, pv_U] [] _
              try have k119 := rm112
              refine iv_inc (M := mX6_reckon) (C := 1) dX6_reckon_119 122 rfl rfl (by decide) rfl rfl (by decide) (by omega) (by omega) (fun v117 ev117 => ?_)
              show PV _ _ _ _ _ _ _ 122 [.ref aT, .int x0, .int x1, .int v117, pv_U] [] _
              refine pv_goto (M := mX6_reckon) (tgt := 12) dX6_reckon_122 (by decide) ?_
              have kbe : EVR m m112 aT x1.toInt.toNat x0.toInt.toNat v117.toInt.toNat := by first | exact EVR_l kge k24r (by omega) (by omega) k50.1 (by first | exact Or.inl ⟨i_ne (by rw [Int32.toInt_zero]; omega), by omega⟩ | exact Or.inr ⟨i_eq (by rw [Int32.toInt_zero]; omega), by omega⟩) (by rw [k87, k50.2.1]) (by omega) (by rw [k94]; omega) | exact EVR_n kge k24r (by omega) (by omega) k50.1 (fun q => by rcases q with q | q <;> first | exact q.1 (i_eq (by rw [Int32.toInt_zero]; omega)) | (have q2 := q.2; omega) | (have q1 := congrArg Int32.toInt q.1; rw [Int32.toInt_zero] at q1; omega)) k50.2.1 (by omega) (by omega) | exact EVR_s kge k24r (by omega) (by omega) (by omega) (by rw [k109a, k116, ← kfs]; exact k119) (by omega)
              exact ih20 v117 m112 n113 (by first | omega | assumption | exact (iv_rng _).2 | exact (iv_rng _).1 | decide) (by first | omega | assumption | exact (iv_rng _).2 | exact (iv_rng _).1 | decide) (by first | omega | assumption | (show x0.toInt ≤ v117.toInt; omega) | decide) kbe I114 K115 (by omega)
            · have c104 := iv_eq (X := v102.toInt) (Y := 38) c104 rfl (by decide)
              refine pv_aload_n (M := mX6_reckon) 0 dX6_reckon_46 47 rfl rfl rfl ?_
              refine pv_callv (M := mX6_reckon) (as := []) (st := []) (kc2 := 0) (ks2 := 0) dX6_reckon_47 wd749 YX6_pop ⟨wd751, wd20⟩ (mk_get haT.2.1) rfl rfl (s_X6_pop_vz g hT I16 aT haT) rfl rfl (Nat.le_of_ble_eq_true rfl) (by decide) rfl rfl 50 rfl (fun rv h1 q119 => ?_)
              obtain ⟨m120, n121, v124, rfl, rfl, I122, K123, pv124, qv124, rv124⟩ := q119
              replace rv124 : v124 = hd0 (stM m14 aT) ∧ stM m120 aT = (stM m14 aT).tail ∧ m120 aT 11 = m14 aT 11 := rv124
              have K123c := K123
              have K123 := K17.trans (K123.sub (fun _ _ q => q))
              show PV _ _ _ _ _ _ _ 50 [.ref aT, .int x0, .int x1, .int y13, pv_U] [.int v124] _
              have k50 := rv124
              have k50r := congrArg Int32.toInt k50.2.2
              refine pv_istore (M := mX6_reckon) (lo2 := [.ref aT, .int x0, .int x1, .int y13, .int v124]) dX6_reckon_50 52 rfl (by decide) rfl rfl ?_
              refine pv_iload (M := mX6_reckon) dX6_reckon_52 54 rfl rfl ?_
              refine pv_if_eq (M := mX6_reckon) (tgt := 61) dX6_reckon_54 57 rfl (by decide) (fun c127 => ?_) (fun c127 => ?_)
              · have c127 := iv_eq (X := v124.toInt) (Y := 0) c127 rfl (by decide)
                refine pv_iconst (M := mX6_reckon) (v := 0) dX6_reckon_61 62 rfl (by decide) ?_
                refine pv_aload_n (M := mX6_reckon) 0 dX6_reckon_62 63 rfl rfl rfl ?_
                refine mv_get (M := mX6_reckon) (v := .ref (aT + 1)) dX6_reckon_63 FX6 0 wd233 (by decide) haT.2.1 rfl rfl 66 rfl ?_
                refine pv_iload_n (M := mX6_reckon) 3 dX6_reckon_66 67 rfl rfl rfl ?_
                refine iv_iald (M := mX6_reckon) (X := y13.toInt) (l1 := (-2147483648)) (l2 := 2147483647) dX6_reckon_67 (law_a1 haT) rfl (by omega) (by omega) I122 (law_c1 haT) 68 rfl (fun v128 ev128 pv128 qv128 => ?_)
                have k68 : (cdC m aT y13.toInt.toNat).1 = v128.toInt := by show (m (aT + 1) y13.toInt.toNat).toInt = _; rw [ev128, K123 _ _ (wS_out (by omega) (by omega))]
                refine pv_bipush (M := mX6_reckon) (v := 124) dX6_reckon_68 70 rfl (by decide) ?_
                refine pv_icmp_ne (M := mX6_reckon) (tgt := 77) dX6_reckon_70 73 rfl (by decide) (fun c130 => ?_) (fun c130 => ?_)
                · have c130 := iv_ne (X := v128.toInt) (Y := 124) c130 rfl (by decide)
                  refine pv_iconst (M := mX6_reckon) (v := 0) dX6_reckon_77 78 rfl (by decide) ?_
                  refine pv_icmp_ne (M := mX6_reckon) (tgt := 100) dX6_reckon_78 81 rfl (by decide) (fun q => absurd (by decide) q) (fun _ => ?_)
                  refine pv_aload_n (M := mX6_reckon) 0 dX6_reckon_81 82 rfl rfl rfl ?_
                  refine pv_iload (M := mX6_reckon) dX6_reckon_82 84 rfl rfl ?_
                  refine pv_callv (M := mX6_reckon) (as := [.int v124]) (st := []) (kc2 := 0) (ks2 := 0) dX6_reckon_84 wd753 YX6_push ⟨wd755, wd21⟩ (mk_get haT.2.1) rfl rfl (s_X6_push_vz g hT I122 aT haT v124) rfl rfl (Nat.le_of_ble_eq_true rfl) (by decide) rfl rfl 87 rfl (fun rv h1 q132 => ?_)
                  obtain ⟨m133, n134, rfl, rfl, I135, K136, rm133⟩ := q132
                  replace rm133 : stM m133 aT = psh v124 (stM m120 aT) ∧ m133 aT 11 = m120 aT 11 := rm133
                  have K136c := K136
                  have K136 := K123.trans (K136.sub (fun _ _ q => q))
                  show PV _ _ _ _ _ _ _ 87 [.ref aT, .int x0, .int x1, .int y13, .int v124] [] _
                  have k87 := rm133.1
                  have k87r := congrArg Int32.toInt rm133.2
                  refine pv_iload_n (M := mX6_reckon) 3 dX6_reckon_87 88 rfl rfl rfl ?_
                  refine pv_aload_n (M := mX6_reckon) 0 dX6_reckon_88 89 rfl rfl rfl ?_
                  refine mv_get (M := mX6_reckon) (v := .ref (aT + 2)) dX6_reckon_89 FX6 1 wd234 (by decide) haT.2.1 rfl rfl 92 rfl ?_
                  refine pv_iload_n (M := mX6_reckon) 3 dX6_reckon_92 93 rfl rfl rfl ?_
                  refine iv_iald (M := mX6_reckon) (X := y13.toInt) (l1 := (-1)) (l2 := 99999) dX6_reckon_93 (law_a2 haT) rfl (by omega) (by omega) I135 (law_c2 haT) 94 rfl (fun v139 ev139 pv139 qv139 => ?_)
                  have k94 : (cdC m aT y13.toInt.toNat).2 = v139 := by show m (aT + 2) y13.toInt.toNat = _; rw [ev139, K136 _ _ (wS_out (by omega) (by omega))]
                  refine pv_iconst (M := mX6_reckon) (v := 1) dX6_reckon_94 95 rfl (by decide) ?_
                  refine iv_isub (M := mX6_reckon) (X := v139.toInt) (Y := 1) dX6_reckon_95 96 rfl rfl (by decide) (by omega) (by omega) (fun v141 ev141 => ?_)
                  refine iv_max (M := mX6_reckon) (X := y13.toInt) (Y := v141.toInt) dX6_reckon_96 wd682 Wmmax (Nat.le_of_ble_eq_true rfl) (by decide) rfl rfl 99 rfl (fun v142 ev142 fv142 gv142 => ?_)
                  refine pv_istore_n (M := mX6_reckon) 3 (lo2 := [.ref aT, .int x0, .int x1, .int v142, .int v124]) dX6_reckon_99 100 rfl rfl (by decide) rfl rfl ?_
                  refine pv_goto (M := mX6_reckon) (tgt := 119) dX6_reckon_100 (by decide) ?_
                  try have k119 := rm133
                  refine iv_inc (M := mX6_reckon) (C := 1) dX6_reckon_119 122 rfl rfl (by decide) rfl rfl (by decide) (by omega) (by omega) (fun v144 ev144 => ?_)
                  show PV _ _ _ _ _ _ _ 122 [.ref aT, .int x0, .int x1, .int v144, .int v124] [] _
                  refine pv_goto (M := mX6_reckon) (tgt := 12) dX6_reckon_122 (by decide) ?_
                  refine pv_fg (lo2 := [.ref aT, .int x0, .int x1, .int v144, pv_U]) ⟨Or.inr rfl, ⟨Or.inr rfl, ⟨Or.inr rfl, ⟨Or.inr rfl, ⟨Or.inl rfl, trivial⟩⟩⟩⟩⟩ ?_
                  have kbe : EVR m m133 aT x1.toInt.toNat x0.toInt.toNat v144.toInt.toNat := by first | exact EVR_l kge k24r (by omega) (by omega) k50.1 (by first | exact Or.inl ⟨i_ne (by rw [Int32.toInt_zero]; omega), by omega⟩ | exact Or.inr ⟨i_eq (by rw [Int32.toInt_zero]; omega), by omega⟩) (by rw [k87, k50.2.1]) (by omega) (by rw [k94]; omega) | exact EVR_n kge k24r (by omega) (by omega) k50.1 (fun q => by rcases q with q | q <;> first | exact q.1 (i_eq (by rw [Int32.toInt_zero]; omega)) | (have q2 := q.2; omega) | (have q1 := congrArg Int32.toInt q.1; rw [Int32.toInt_zero] at q1; omega)) k50.2.1 (by omega) (by omega) | exact EVR_s kge k24r (by omega) (by omega) (by omega) (by rw [k109a, k116, ← kfs]; exact k119) (by omega)
                  exact ih20 v144 m133 n134 (by first | omega | assumption | exact (iv_rng _).2 | exact (iv_rng _).1 | decide) (by first | omega | assumption | exact (iv_rng _).2 | exact (iv_rng _).1 | decide) (by first | omega | assumption | (show x0.toInt ≤ v144.toInt; omega) | decide) kbe I135 K136 (by omega)
                · have c130 := iv_eq (X := v128.toInt) (Y := 124) c130 rfl (by decide)
                  refine pv_iconst (M := mX6_reckon) (v := 1) dX6_reckon_73 74 rfl (by decide) ?_
                  refine pv_goto (M := mX6_reckon) (tgt := 78) dX6_reckon_74 (by decide) ?_
                  refine pv_icmp_ne (M := mX6_reckon) (tgt := 100) dX6_reckon_78 81 rfl (by decide) (fun _ => ?_) (fun q => absurd q (by decide))
                  refine pv_goto (M := mX6_reckon) (tgt := 119) dX6_reckon_100 (by decide) ?_
                  try have k119 := rm120
                  refine iv_inc (M := mX6_reckon) (C := 1) dX6_reckon_119 122 rfl rfl (by decide) rfl rfl (by decide) (by omega) (by omega) (fun v148 ev148 => ?_)
                  show PV _ _ _ _ _ _ _ 122 [.ref aT, .int x0, .int x1, .int v148, .int v124] [] _
                  refine pv_goto (M := mX6_reckon) (tgt := 12) dX6_reckon_122 (by decide) ?_
                  refine pv_fg (lo2 := [.ref aT, .int x0, .int x1, .int v148, pv_U]) ⟨Or.inr rfl, ⟨Or.inr rfl, ⟨Or.inr rfl, ⟨Or.inr rfl, ⟨Or.inl rfl, trivial⟩⟩⟩⟩⟩ ?_
                  have kbe : EVR m m120 aT x1.toInt.toNat x0.toInt.toNat v148.toInt.toNat := by first | exact EVR_l kge k24r (by omega) (by omega) k50.1 (by first | exact Or.inl ⟨i_ne (by rw [Int32.toInt_zero]; omega), by omega⟩ | exact Or.inr ⟨i_eq (by rw [Int32.toInt_zero]; omega), by omega⟩) (by rw [k87, k50.2.1]) (by omega) (by rw [k94]; omega) | exact EVR_n kge k24r (by omega) (by omega) k50.1 (fun q => by rcases q with q | q <;> first | exact q.1 (i_eq (by rw [Int32.toInt_zero]; omega)) | (have q2 := q.2; omega) | (have q1 := congrArg Int32.toInt q.1; rw [Int32.toInt_zero] at q1; omega)) k50.2.1 (by omega) (by omega) | exact EVR_s kge k24r (by omega) (by omega) (by omega) (by rw [k109a, k116, ← kfs]; exact k119) (by omega)
                  exact ih20 v148 m120 n121 (by first | omega | assumption | exact (iv_rng _).2 | exact (iv_rng _).1 | decide) (by first | omega | assumption | exact (iv_rng _).2 | exact (iv_rng _).1 | decide) (by first | omega | assumption | (show x0.toInt ≤ v148.toInt; omega) | decide) kbe I122 K123 (by omega)
              · have c127 := iv_ne (X := v124.toInt) (Y := 0) c127 rfl (by decide)
                refine pv_iconst (M := mX6_reckon) (v := 1) dX6_reckon_57 58 rfl (by decide) ?_
                refine pv_goto (M := mX6_reckon) (tgt := 62) dX6_reckon_58 (by decide) ?_
                refine pv_aload_n (M := mX6_reckon) 0 dX6_reckon_62 63 rfl rfl rfl ?_
                refine mv_get (M := mX6_reckon) (v := .ref (aT + 1)) dX6_reckon_63 FX6 0 wd233 (by decide) haT.2.1 rfl rfl 66 rfl ?_
                refine pv_iload_n (M := mX6_reckon) 3 dX6_reckon_66 67 rfl rfl rfl ?_
                refine iv_iald (M := mX6_reckon) (X := y13.toInt) (l1 := (-2147483648)) (l2 := 2147483647) dX6_reckon_67 (law_a1 haT) rfl (by omega) (by omega) I122 (law_c1 haT) 68 rfl (fun v150 ev150 pv150 qv150 => ?_)
                have k68 : (cdC m aT y13.toInt.toNat).1 = v150.toInt := by show (m (aT + 1) y13.toInt.toNat).toInt = _; rw [ev150, K123 _ _ (wS_out (by omega) (by omega))]
                refine pv_bipush (M := mX6_reckon) (v := 124) dX6_reckon_68 70 rfl (by decide) ?_
                refine pv_icmp_ne (M := mX6_reckon) (tgt := 77) dX6_reckon_70 73 rfl (by decide) (fun c152 => ?_) (fun c152 => ?_)
                · have c152 := iv_ne (X := v150.toInt) (Y := 124) c152 rfl (by decide)
                  refine pv_iconst (M := mX6_reckon) (v := 0) dX6_reckon_77 78 rfl (by decide) ?_
                  refine pv_icmp_ne (M := mX6_reckon) (tgt := 100) dX6_reckon_78 81 rfl (by decide) (fun _ => ?_) (fun q => absurd q (by decide))
                  refine pv_goto (M := mX6_reckon) (tgt := 119) dX6_reckon_100 (by decide) ?_
                  try have k119 := rm120
                  refine iv_inc (M := mX6_reckon) (C := 1) dX6_reckon_119 122 rfl rfl (by decide) rfl rfl (by decide) (by omega) (by omega) (fun v155 ev155 => ?_)
                  show PV _ _ _ _ _ _ _ 122 [.ref aT, .int x0, .int x1, .int v155, .int v124] [] _
                  refine pv_goto (M := mX6_reckon) (tgt := 12) dX6_reckon_122 (by decide) ?_
                  refine pv_fg (lo2 := [.ref aT, .int x0, .int x1, .int v155, pv_U]) ⟨Or.inr rfl, ⟨Or.inr rfl, ⟨Or.inr rfl, ⟨Or.inr rfl, ⟨Or.inl rfl, trivial⟩⟩⟩⟩⟩ ?_
                  have kbe : EVR m m120 aT x1.toInt.toNat x0.toInt.toNat v155.toInt.toNat := by first | exact EVR_l kge k24r (by omega) (by omega) k50.1 (by first | exact Or.inl ⟨i_ne (by rw [Int32.toInt_zero]; omega), by omega⟩ | exact Or.inr ⟨i_eq (by rw [Int32.toInt_zero]; omega), by omega⟩) (by rw [k87, k50.2.1]) (by omega) (by rw [k94]; omega) | exact EVR_n kge k24r (by omega) (by omega) k50.1 (fun q => by rcases q with q | q <;> first | exact q.1 (i_eq (by rw [Int32.toInt_zero]; omega)) | (have q2 := q.2; omega) | (have q1 := congrArg Int32.toInt q.1; rw [Int32.toInt_zero] at q1; omega)) k50.2.1 (by omega) (by omega) | exact EVR_s kge k24r (by omega) (by omega) (by omega) (by rw [k109a, k116, ← kfs]; exact k119) (by omega)
                  exact ih20 v155 m120 n121 (by first | omega | assumption | exact (iv_rng _).2 | exact (iv_rng _).1 | decide) (by first | omega | assumption | exact (iv_rng _).2 | exact (iv_rng _).1 | decide) (by first | omega | assumption | (show x0.toInt ≤ v155.toInt; omega) | decide) kbe I122 K123 (by omega)
                · have c152 := iv_eq (X := v150.toInt) (Y := 124) c152 rfl (by decide)
                  refine pv_iconst (M := mX6_reckon) (v := 1) dX6_reckon_73 74 rfl (by decide) ?_
                  refine pv_goto (M := mX6_reckon) (tgt := 78) dX6_reckon_74 (by decide) ?_
                  refine pv_icmp_ne (M := mX6_reckon) (tgt := 100) dX6_reckon_78 81 rfl (by decide) (fun q => absurd (by decide) q) (fun _ => ?_)
                  refine pv_aload_n (M := mX6_reckon) 0 dX6_reckon_81 82 rfl rfl rfl ?_
                  refine pv_iload (M := mX6_reckon) dX6_reckon_82 84 rfl rfl ?_
                  refine pv_callv (M := mX6_reckon) (as := [.int v124]) (st := []) (kc2 := 0) (ks2 := 0) dX6_reckon_84 wd753 YX6_push ⟨wd755, wd21⟩ (mk_get haT.2.1) rfl rfl (s_X6_push_vz g hT I122 aT haT v124) rfl rfl (Nat.le_of_ble_eq_true rfl) (by decide) rfl rfl 87 rfl (fun rv h1 q158 => ?_)
                  obtain ⟨m159, n160, rfl, rfl, I161, K162, rm159⟩ := q158
                  replace rm159 : stM m159 aT = psh v124 (stM m120 aT) ∧ m159 aT 11 = m120 aT 11 := rm159
                  have K162c := K162
                  have K162 := K123.trans (K162.sub (fun _ _ q => q))
                  show PV _ _ _ _ _ _ _ 87 [.ref aT, .int x0, .int x1, .int y13, .int v124] [] _
                  have k87 := rm159.1
                  have k87r := congrArg Int32.toInt rm159.2
                  refine pv_iload_n (M := mX6_reckon) 3 dX6_reckon_87 88 rfl rfl rfl ?_
                  refine pv_aload_n (M := mX6_reckon) 0 dX6_reckon_88 89 rfl rfl rfl ?_
                  refine mv_get (M := mX6_reckon) (v := .ref (aT + 2)) dX6_reckon_89 FX6 1 wd234 (by decide) haT.2.1 rfl rfl 92 rfl ?_
                  refine pv_iload_n (M := mX6_reckon) 3 dX6_reckon_92 93 rfl rfl rfl ?_
                  refine iv_iald (M := mX6_reckon) (X := y13.toInt) (l1 := (-1)) (l2 := 99999) dX6_reckon_93 (law_a2 haT) rfl (by omega) (by omega) I161 (law_c2 haT) 94 rfl (fun v165 ev165 pv165 qv165 => ?_)
                  have k94 : (cdC m aT y13.toInt.toNat).2 = v165 := by show m (aT + 2) y13.toInt.toNat = _; rw [ev165, K162 _ _ (wS_out (by omega) (by omega))]
                  refine pv_iconst (M := mX6_reckon) (v := 1) dX6_reckon_94 95 rfl (by decide) ?_
                  refine iv_isub (M := mX6_reckon) (X := v165.toInt) (Y := 1) dX6_reckon_95 96 rfl rfl (by decide) (by omega) (by omega) (fun v167 ev167 => ?_)
                  refine iv_max (M := mX6_reckon) (X := y13.toInt) (Y := v167.toInt) dX6_reckon_96 wd682 Wmmax (Nat.le_of_ble_eq_true rfl) (by decide) rfl rfl 99 rfl (fun v168 ev168 fv168 gv168 => ?_)
                  refine pv_istore_n (M := mX6_reckon) 3 (lo2 := [.ref aT, .int x0, .int x1, .int v168, .int v124]) dX6_reckon_99 100 rfl rfl (by decide) rfl rfl ?_
                  refine pv_goto (M := mX6_reckon) (tgt := 119) dX6_reckon_100 (by decide) ?_
                  try have k119 := rm159
                  refine iv_inc (M := mX6_reckon) (C := 1) dX6_reckon_119 122 rfl rfl (by decide) rfl rfl (by decide) (by omega) (by omega) (fun v170 ev170 => ?_)
                  show PV _ _ _ _ _ _ _ 122 [.ref aT, .int x0, .int x1, .int v170, .int v124] [] _
                  refine pv_goto (M := mX6_reckon) (tgt := 12) dX6_reckon_122 (by decide) ?_
                  refine pv_fg (lo2 := [.ref aT, .int x0, .int x1, .int v170, pv_U]) ⟨Or.inr rfl, ⟨Or.inr rfl, ⟨Or.inr rfl, ⟨Or.inr rfl, ⟨Or.inl rfl, trivial⟩⟩⟩⟩⟩ ?_
                  have kbe : EVR m m159 aT x1.toInt.toNat x0.toInt.toNat v170.toInt.toNat := by first | exact EVR_l kge k24r (by omega) (by omega) k50.1 (by first | exact Or.inl ⟨i_ne (by rw [Int32.toInt_zero]; omega), by omega⟩ | exact Or.inr ⟨i_eq (by rw [Int32.toInt_zero]; omega), by omega⟩) (by rw [k87, k50.2.1]) (by omega) (by rw [k94]; omega) | exact EVR_n kge k24r (by omega) (by omega) k50.1 (fun q => by rcases q with q | q <;> first | exact q.1 (i_eq (by rw [Int32.toInt_zero]; omega)) | (have q2 := q.2; omega) | (have q1 := congrArg Int32.toInt q.1; rw [Int32.toInt_zero] at q1; omega)) k50.2.1 (by omega) (by omega) | exact EVR_s kge k24r (by omega) (by omega) (by omega) (by rw [k109a, k116, ← kfs]; exact k119) (by omega)
                  exact ih20 v170 m159 n160 (by first | omega | assumption | exact (iv_rng _).2 | exact (iv_rng _).1 | decide) (by first | omega | assumption | exact (iv_rng _).2 | exact (iv_rng _).1 | decide) (by first | omega | assumption | (show x0.toInt ≤ v170.toInt; omega) | decide) kbe I161 K162 (by omega)
  exact lp19 (((160 - x0.toInt) : Int).toNat + 1) x0 m7 n (by first | omega | assumption | exact (iv_rng _).2 | exact (iv_rng _).1 | decide) (by first | omega | assumption | exact (iv_rng _).2 | exact (iv_rng _).1 | decide) (by first | omega | assumption | (show x0.toInt ≤ x0.toInt; omega) | decide) (EVR_0 (by omega) (by omega)) I8 K9 (by omega)

set_option maxHeartbeats 2000000 in
set_option maxRecDepth 20000 in
theorem s_X6_holds_vz (g : pv_G) {T : List mv_T} {m : Nat → Nat → Int32} {n : Nat → Nat → Int64} {r : Nat → Value} (hT : TX T) (I : IV BB m) (aT : Nat) (haT : LawAt T aT) (x0 : Int32) (hl0 : 0 ≤ x0.toInt) (hh0 : x0.toInt ≤ 11) (t : Int → Int) (hp0 : LAWc m aT t (m aT 7).toInt.toNat) (hp1 : x0.toInt < (m aT 7).toInt) : PM g mX6_holds yX6_holds (sqI T BB (wS aT) r m 0 1 (fun m' v => (v.toInt = 1 ∧ chb (CDC t (cps t x0.toInt.toNat) (fsn m aT)) = true) ∨ (v.toInt = 0 ∧ chb (CDC t (cps t x0.toInt.toNat) (fsn m aT)) = false))) 4 0 0 [.ref aT, .int x0] (mk T m n r) := by
  have Kp : fr (wS aT) m m := fr.rf
  have zwT := haT.1
  refine PM.of 1 (lo := [.ref aT, .int x0, pv_U]) rfl (by decide) rfl rfl (Nat.le_of_ble_eq_true rfl) ?_
  refine pv_aload_n (M := mX6_holds) 0 dX6_holds_0 1 rfl rfl rfl ?_
  refine pv_aload_n (M := mX6_holds) 0 dX6_holds_1 2 rfl rfl rfl ?_
  refine mv_get (M := mX6_holds) (v := .ref (aT + 5)) dX6_holds_2 FX6 5 wd238 (by decide) haT.2.1 rfl rfl 5 rfl ?_
  refine pv_iload_n (M := mX6_holds) 1 dX6_holds_5 6 rfl rfl rfl ?_
  refine iv_iald (M := mX6_holds) (X := x0.toInt) (l1 := 0) (l2 := 160) dX6_holds_6 (law_a5 haT) rfl (by omega) (by omega) I (law_c5 haT) 7 rfl (fun v1 ev1 pv1 qv1 => ?_)
  have k7 : v1 = m (aT + 5) x0.toInt.toNat := ev1
  refine pv_aload_n (M := mX6_holds) 0 dX6_holds_7 8 rfl rfl rfl ?_
  refine mv_get (M := mX6_holds) (v := .ref (aT + 6)) dX6_holds_8 FX6 6 wd239 (by decide) haT.2.1 rfl rfl 11 rfl ?_
  refine pv_iload_n (M := mX6_holds) 1 dX6_holds_11 12 rfl rfl rfl ?_
  refine iv_iald (M := mX6_holds) (X := x0.toInt) (l1 := 0) (l2 := 160) dX6_holds_12 (law_a6 haT) rfl (by omega) (by omega) I (law_c6 haT) 13 rfl (fun v3 ev3 pv3 qv3 => ?_)
  have k13 : v3 = m (aT + 6) x0.toInt.toNat := ev3
  have kR := hp0 x0.toInt.toNat (by omega)
  refine pv_callv (M := mX6_holds) (as := [.int v1, .int v3]) (st := []) (kc2 := 0) (ks2 := 0) dX6_holds_13 wd745 YX6_reckon ⟨wd747, wd19⟩ (mk_get haT.2.1) rfl rfl (s_X6_reckon_vz g hT I aT haT v1 (by omega) (by omega) v3 (by omega) (by omega) (NUN_m kR.2.2.1.2 k7 k13)) rfl rfl (Nat.le_of_ble_eq_true rfl) (by decide) rfl rfl 16 rfl (fun rv h1 q6 => ?_)
  obtain ⟨m7, n8, v11, rfl, rfl, I9, K10, pv11, qv11, rv11⟩ := q6
  replace rv11 : RKZ (ev (cdC m aT) (fsn m aT) v3.toInt.toNat v1.toInt.toNat []) v11 (m7 aT 11) := rv11
  have K10c := K10
  have K10 := Kp.trans (K10.sub (fun _ _ q => q))
  show PV _ _ _ _ _ _ _ 16 [.ref aT, .int x0, pv_U] [.int v11] _
  have k16 := RKZ_of (by have q := rv11; rw [k7, k13] at q; exact q) kR.2.2.1.1 (by omega)
  refine pv_istore_n (M := mX6_holds) 2 (lo2 := [.ref aT, .int x0, .int v11]) dX6_holds_16 17 rfl rfl (by decide) rfl rfl ?_
  refine pv_aload_n (M := mX6_holds) 0 dX6_holds_17 18 rfl rfl rfl ?_
  refine iv_get (M := mX6_holds) (l1 := 0) (l2 := 1) dX6_holds_18 FX6 11 wd246 (by decide) haT.2.1 rfl I9 (law_b11 haT) 21 rfl (fun v13 ev13 pv13 qv13 => ?_)
  have wv13 : v13.toInt = (m7 aT 11).toInt := congrArg Int32.toInt ev13
  refine pv_if_ne (M := mX6_holds) (tgt := 32) dX6_holds_21 24 rfl (by decide) (fun c14 => ?_) (fun c14 => ?_)
  · have c14 := iv_ne (X := v13.toInt) (Y := 0) c14 rfl (by decide)
    refine pv_iconst (M := mX6_holds) (v := 0) dX6_holds_32 33 rfl (by decide) ?_
    have z15 : (0 : Int32).toInt = 0 := by decide
    exact pv_iret (M := mX6_holds) dX6_holds_33 rfl rfl ⟨_, _, _, rfl, rfl, I9, K10, by decide, by decide, (Or.inr ⟨by decide, chb_n k16 (by first | exact Or.inl (by omega) | exact Or.inr (i_eq (by rw [Int32.toInt_zero]; omega)))⟩)⟩
  · have c14 := iv_eq (X := v13.toInt) (Y := 0) c14 rfl (by decide)
    refine pv_iload_n (M := mX6_holds) 2 dX6_holds_24 25 rfl rfl rfl ?_
    refine pv_if_eq (M := mX6_holds) (tgt := 32) dX6_holds_25 28 rfl (by decide) (fun c16 => ?_) (fun c16 => ?_)
    · have c16 := iv_eq (X := v11.toInt) (Y := 0) c16 rfl (by decide)
      refine pv_iconst (M := mX6_holds) (v := 0) dX6_holds_32 33 rfl (by decide) ?_
      have z17 : (0 : Int32).toInt = 0 := by decide
      exact pv_iret (M := mX6_holds) dX6_holds_33 rfl rfl ⟨_, _, _, rfl, rfl, I9, K10, by decide, by decide, (Or.inr ⟨by decide, chb_n k16 (by first | exact Or.inl (by omega) | exact Or.inr (i_eq (by rw [Int32.toInt_zero]; omega)))⟩)⟩
    · have c16 := iv_ne (X := v11.toInt) (Y := 0) c16 rfl (by decide)
      refine pv_iconst (M := mX6_holds) (v := 1) dX6_holds_28 29 rfl (by decide) ?_
      refine pv_goto (M := mX6_holds) (tgt := 33) dX6_holds_29 (by decide) ?_
      have z18 : (1 : Int32).toInt = 1 := by decide
      exact pv_iret (M := mX6_holds) dX6_holds_33 rfl rfl ⟨_, _, _, rfl, rfl, I9, K10, by decide, by decide, (Or.inl ⟨by decide, chb_y k16 (by omega) (i_ne (by rw [Int32.toInt_zero]; omega))⟩)⟩

set_option maxHeartbeats 2000000 in
set_option maxRecDepth 20000 in
theorem s_X6_forbids_vz (g : pv_G) {T : List mv_T} {m : Nat → Nat → Int32} {n : Nat → Nat → Int64} {r : Nat → Value} (hT : TX T) (I : IV BB m) (aT : Nat) (haT : LawAt T aT) (t : Int → Int) (hp0 : LAWc m aT t (m aT 7).toInt.toNat) : PM g mX6_forbids yX6_forbids (sqI T BB (wS aT) r m 0 1 (fun m' v => (v.toInt = 1 ∧ FRB t (m aT 7).toInt.toNat (fsn m aT)) ∨ (v.toInt = 0 ∧ ¬ FRB t (m aT 7).toInt.toNat (fsn m aT)))) 5 0 0 [.ref aT] (mk T m n r) := by
  have Kp : fr (wS aT) m m := fr.rf
  have zwT := haT.1
  refine PM.of 1 (lo := [.ref aT, pv_U]) rfl (by decide) rfl rfl (Nat.le_of_ble_eq_true rfl) ?_
  refine pv_iconst (M := mX6_forbids) (v := 0) dX6_forbids_0 1 rfl (by decide) ?_
  refine pv_istore_n (M := mX6_forbids) 1 (lo2 := [.ref aT, .int 0]) dX6_forbids_1 2 rfl rfl (by decide) rfl rfl ?_
  have lp7 : ∀ (fuel6 : Nat) (y1 : Int32) (m2 : Nat → Nat → Int32) (n3 : Nat → Nat → Int64), (0 ≤ y1.toInt) → (y1.toInt ≤ 12) → (∀ q, q < y1.toInt.toNat → ¬ (t (cps t q) = 110 ∧ chb (CDC t (cps t q) (fsn m aT)) = true)) → IV BB m2 → fr (wS aT) m m2 → ((12 - y1.toInt) : Int).toNat < fuel6 → PV none g mX6_forbids (sqI T BB (wS aT) r m 0 1 (fun m' v => (v.toInt = 1 ∧ FRB t (m aT 7).toInt.toNat (fsn m aT)) ∨ (v.toInt = 0 ∧ ¬ FRB t (m aT 7).toInt.toNat (fsn m aT)))) 5 0 0 2 [.ref aT, .int y1] [] (mk T m2 n3 r) := by
    intro fuel6
    induction fuel6 with
    | zero => intro y1 m2 n3 b9 b10 b11 I4 K5 z12; omega
    | succ fuel6 ih8 =>
      intro y1 m2 n3 b9 b10 b11 I4 K5 z12
      have kgn := (show ∀ q, q < y1.toInt.toNat → ¬ (t (cps t q) = 110 ∧ chb (CDC t (cps t q) (fsn m aT)) = true) by assumption)
      have k7e : (m2 aT 7).toInt = (m aT 7).toInt := congrArg Int32.toInt (K5 _ _ (wS_out (by omega) (by omega)))
      have kfs : fsn m2 aT = fsn m aT := fsn_eq (fun j => K5 _ _ (wS_out (by omega) (by omega)))
      have klw : LAWc m2 aT t (m2 aT 7).toInt.toNat := by rw [k7e]; exact LAWc_m hp0 (K5 _ _ (wS_out (by omega) (by omega))) (fun a j h1 h2 => K5 _ _ (wS_out (by omega) (by omega)))
      refine pv_iload_n (M := mX6_forbids) 1 dX6_forbids_2 3 rfl rfl rfl ?_
      refine pv_aload_n (M := mX6_forbids) 0 dX6_forbids_3 4 rfl rfl rfl ?_
      refine iv_get (M := mX6_forbids) (l1 := 0) (l2 := 12) dX6_forbids_4 FX6 7 wd240 (by decide) haT.2.1 rfl I4 (law_b7 haT) 7 rfl (fun v17 ev17 pv17 qv17 => ?_)
      have wv17 : v17.toInt = (m2 aT 7).toInt := congrArg Int32.toInt ev17
      refine pv_icmp_ge (M := mX6_forbids) (tgt := 37) dX6_forbids_7 10 rfl (by decide) (fun c18 => ?_) (fun c18 => ?_)
      · have c18 := iv_le (X := v17.toInt) (Y := y1.toInt) c18 rfl rfl
        refine pv_iconst (M := mX6_forbids) (v := 0) dX6_forbids_37 38 rfl (by decide) ?_
        have z19 : (0 : Int32).toInt = 0 := by decide
        exact pv_iret (M := mX6_forbids) dX6_forbids_38 rfl rfl ⟨_, _, _, rfl, rfl, I4, K5, by decide, by decide, (Or.inr ⟨by decide, fun ⟨q, h1, h2⟩ => kgn q (by omega) h2⟩)⟩
      · have c18 := iv_nle (X := v17.toInt) (Y := y1.toInt) c18 rfl rfl
        refine pv_aload_n (M := mX6_forbids) 0 dX6_forbids_10 11 rfl rfl rfl ?_
        refine mv_get (M := mX6_forbids) (v := .ref (aT + 3)) dX6_forbids_11 FX6 3 wd236 (by decide) haT.2.1 rfl rfl 14 rfl ?_
        refine pv_iload_n (M := mX6_forbids) 1 dX6_forbids_14 15 rfl rfl rfl ?_
        refine iv_iald (M := mX6_forbids) (X := y1.toInt) (l1 := (-2147483648)) (l2 := 2147483647) dX6_forbids_15 (law_a3 haT) rfl (by omega) (by omega) I4 (law_c3 haT) 16 rfl (fun v20 ev20 pv20 qv20 => ?_)
        have k16 : v20.toInt = t (cps t y1.toInt.toNat) := by rw [← (klw y1.toInt.toNat (by omega)).1, ev20]
        refine pv_bipush (M := mX6_forbids) (v := 110) dX6_forbids_16 18 rfl (by decide) ?_
        refine pv_icmp_ne (M := mX6_forbids) (tgt := 31) dX6_forbids_18 21 rfl (by decide) (fun c22 => ?_) (fun c22 => ?_)
        · have c22 := iv_ne (X := v20.toInt) (Y := 110) c22 rfl (by decide)
          refine iv_inc (M := mX6_forbids) (C := 1) dX6_forbids_31 34 rfl rfl (by decide) rfl rfl (by decide) (by omega) (by omega) (fun v23 ev23 => ?_)
          show PV _ _ _ _ _ _ _ 34 [.ref aT, .int v23] [] _
          refine pv_goto (M := mX6_forbids) (tgt := 2) dX6_forbids_34 (by decide) ?_
          have kbn : ∀ q, q < v23.toInt.toNat → ¬ (t (cps t q) = 110 ∧ chb (CDC t (cps t q) (fsn m aT)) = true) := fun q h z => if y : q = (y1.toInt).toNat then (by subst y; first | (have z1 := z.1; omega) | (have w := (k26.resolve_left (fun x => by have x1 := x.1; omega)).2; rw [w] at z; exact absurd z.2 (by decide))) else kgn q (by omega) z
          exact ih8 v23 m2 n3 (by first | omega | assumption | exact (iv_rng _).2 | exact (iv_rng _).1 | decide) (by first | omega | assumption | exact (iv_rng _).2 | exact (iv_rng _).1 | decide) kbn I4 K5 (by omega)
        · have c22 := iv_eq (X := v20.toInt) (Y := 110) c22 rfl (by decide)
          refine pv_aload_n (M := mX6_forbids) 0 dX6_forbids_21 22 rfl rfl rfl ?_
          refine pv_iload_n (M := mX6_forbids) 1 dX6_forbids_22 23 rfl rfl rfl ?_
          refine pv_callv (M := mX6_forbids) (as := [.int y1]) (st := []) (kc2 := 0) (ks2 := 0) dX6_forbids_23 wd741 YX6_holds ⟨wd743, wd18⟩ (mk_get haT.2.1) rfl rfl (s_X6_holds_vz g hT I4 aT haT y1 (by omega) (by omega) t klw (by omega)) rfl rfl (Nat.le_of_ble_eq_true rfl) (by decide) rfl rfl 26 rfl (fun rv h1 q25 => ?_)
          obtain ⟨m26, n27, v30, rfl, rfl, I28, K29, pv30, qv30, rv30⟩ := q25
          replace rv30 : (v30.toInt = 1 ∧ chb (CDC t (cps t y1.toInt.toNat) (fsn m2 aT)) = true) ∨ (v30.toInt = 0 ∧ chb (CDC t (cps t y1.toInt.toNat) (fsn m2 aT)) = false) := rv30
          have K29c := K29
          have K29 := K5.trans (K29.sub (fun _ _ q => q))
          show PV _ _ _ _ _ _ _ 26 [.ref aT, .int y1] [.int v30] _
          have k26 := rv30
          rw [kfs] at k26
          refine pv_if_eq (M := mX6_forbids) (tgt := 31) dX6_forbids_26 29 rfl (by decide) (fun c33 => ?_) (fun c33 => ?_)
          · have c33 := iv_eq (X := v30.toInt) (Y := 0) c33 rfl (by decide)
            refine iv_inc (M := mX6_forbids) (C := 1) dX6_forbids_31 34 rfl rfl (by decide) rfl rfl (by decide) (by omega) (by omega) (fun v34 ev34 => ?_)
            show PV _ _ _ _ _ _ _ 34 [.ref aT, .int v34] [] _
            refine pv_goto (M := mX6_forbids) (tgt := 2) dX6_forbids_34 (by decide) ?_
            have kbn : ∀ q, q < v34.toInt.toNat → ¬ (t (cps t q) = 110 ∧ chb (CDC t (cps t q) (fsn m aT)) = true) := fun q h z => if y : q = (y1.toInt).toNat then (by subst y; first | (have z1 := z.1; omega) | (have w := (k26.resolve_left (fun x => by have x1 := x.1; omega)).2; rw [w] at z; exact absurd z.2 (by decide))) else kgn q (by omega) z
            exact ih8 v34 m26 n27 (by first | omega | assumption | exact (iv_rng _).2 | exact (iv_rng _).1 | decide) (by first | omega | assumption | exact (iv_rng _).2 | exact (iv_rng _).1 | decide) kbn I28 K29 (by omega)
          · have c33 := iv_ne (X := v30.toInt) (Y := 0) c33 rfl (by decide)
            refine pv_iconst (M := mX6_forbids) (v := 1) dX6_forbids_29 30 rfl (by decide) ?_
            have z36 : (1 : Int32).toInt = 1 := by decide
            exact pv_iret (M := mX6_forbids) dX6_forbids_30 rfl rfl ⟨_, _, _, rfl, rfl, I28, K29, by decide, by decide, (Or.inl ⟨by decide, y1.toInt.toNat, by omega, by omega, (k26.resolve_right (fun x => by have x1 := x.1; omega)).2⟩)⟩
  have z37 : (0 : Int32).toInt = 0 := by decide
  exact lp7 (((12 - 0) : Int).toNat + 1) 0 m n (by first | omega | assumption | exact (iv_rng _).2 | exact (iv_rng _).1 | decide) (by first | omega | assumption | exact (iv_rng _).2 | exact (iv_rng _).1 | decide) (fun q h => by rw [Int32.toInt_zero] at h; omega) I Kp (by omega)

set_option maxHeartbeats 2000000 in
set_option maxRecDepth 20000 in
theorem s_X6_priceNow_vz (g : pv_G) {T : List mv_T} {m : Nat → Nat → Int32} {n : Nat → Nat → Int64} {r : Nat → Value} (hT : TX T) (I : IV BB m) (aT : Nat) (haT : LawAt T aT) (t : Int → Int) (hp0 : LAWc m aT t (m aT 7).toInt.toNat) : PM g mX6_priceNow yX6_priceNow (sqI T BB (wS aT) r m (-2147483648) 2147483647 (fun m' v => v.toInt = prc t (fsn m aT) (m aT 7).toInt.toNat 0)) 5 0 0 [.ref aT] (mk T m n r) := by
  have Kp : fr (wS aT) m m := fr.rf
  have zwT := haT.1
  refine PM.of 2 (lo := [.ref aT, pv_U, pv_U]) rfl (by decide) rfl rfl (Nat.le_of_ble_eq_true rfl) ?_
  refine pv_iconst (M := mX6_priceNow) (v := 0) dX6_priceNow_0 1 rfl (by decide) ?_
  refine pv_istore_n (M := mX6_priceNow) 1 (lo2 := [.ref aT, .int 0, pv_U]) dX6_priceNow_1 2 rfl rfl (by decide) rfl rfl ?_
  have lp7 : ∀ (fuel6 : Nat) (y1 : Int32) (m2 : Nat → Nat → Int32) (n3 : Nat → Nat → Int64), (0 ≤ y1.toInt) → (y1.toInt ≤ 12) → (y1.toInt ≤ (m aT 7).toInt) → (prc t (fsn m aT) (m aT 7).toInt.toNat 0 = prc t (fsn m aT) ((m aT 7).toInt.toNat - y1.toInt.toNat) y1.toInt.toNat) → IV BB m2 → fr (wS aT) m m2 → ((12 - y1.toInt) : Int).toNat < fuel6 → PV none g mX6_priceNow (sqI T BB (wS aT) r m (-2147483648) 2147483647 (fun m' v => v.toInt = prc t (fsn m aT) (m aT 7).toInt.toNat 0)) 5 0 0 2 [.ref aT, .int y1, pv_U] [] (mk T m2 n3 r) := by
    intro fuel6
    induction fuel6 with
    | zero => intro y1 m2 n3 b9 b10 b11 b12 I4 K5 z13; omega
    | succ fuel6 ih8 =>
      intro y1 m2 n3 b9 b10 b11 b12 I4 K5 z13
      have kgn := (show prc t (fsn m aT) (m aT 7).toInt.toNat 0 = prc t (fsn m aT) ((m aT 7).toInt.toNat - y1.toInt.toNat) y1.toInt.toNat by assumption)
      have k7e : (m2 aT 7).toInt = (m aT 7).toInt := congrArg Int32.toInt (K5 _ _ (wS_out (by omega) (by omega)))
      have kfs : fsn m2 aT = fsn m aT := fsn_eq (fun j => K5 _ _ (wS_out (by omega) (by omega)))
      have klw : LAWc m2 aT t (m2 aT 7).toInt.toNat := by rw [k7e]; exact LAWc_m hp0 (K5 _ _ (wS_out (by omega) (by omega))) (fun a j h1 h2 => K5 _ _ (wS_out (by omega) (by omega)))
      refine pv_iload_n (M := mX6_priceNow) 1 dX6_priceNow_2 3 rfl rfl rfl ?_
      refine pv_aload_n (M := mX6_priceNow) 0 dX6_priceNow_3 4 rfl rfl rfl ?_
      refine iv_get (M := mX6_priceNow) (l1 := 0) (l2 := 12) dX6_priceNow_4 FX6 7 wd240 (by decide) haT.2.1 rfl I4 (law_b7 haT) 7 rfl (fun v18 ev18 pv18 qv18 => ?_)
      have wv18 : v18.toInt = (m2 aT 7).toInt := congrArg Int32.toInt ev18
      refine pv_icmp_ge (M := mX6_priceNow) (tgt := 74) dX6_priceNow_7 10 rfl (by decide) (fun c19 => ?_) (fun c19 => ?_)
      · have c19 := iv_le (X := v18.toInt) (Y := y1.toInt) c19 rfl rfl
        refine pv_iconst (M := mX6_priceNow) (v := 1) dX6_priceNow_74 75 rfl (by decide) ?_
        have z20 : (1 : Int32).toInt = 1 := by decide
        exact pv_iret (M := mX6_priceNow) dX6_priceNow_75 rfl rfl ⟨_, _, _, rfl, rfl, I4, K5, by decide, by decide, (by rw [kgn, show (m aT 7).toInt.toNat - y1.toInt.toNat = 0 by omega]; rfl)⟩
      · have c19 := iv_nle (X := v18.toInt) (Y := y1.toInt) c19 rfl rfl
        have k10 : (m aT 7).toInt.toNat - y1.toInt.toNat = (m aT 7).toInt.toNat - (y1.toInt.toNat + 1) + 1 := by omega
        rw [k10] at kgn
        refine pv_aload_n (M := mX6_priceNow) 0 dX6_priceNow_10 11 rfl rfl rfl ?_
        refine mv_get (M := mX6_priceNow) (v := .ref (aT + 3)) dX6_priceNow_11 FX6 3 wd236 (by decide) haT.2.1 rfl rfl 14 rfl ?_
        refine pv_iload_n (M := mX6_priceNow) 1 dX6_priceNow_14 15 rfl rfl rfl ?_
        refine iv_iald (M := mX6_priceNow) (X := y1.toInt) (l1 := (-2147483648)) (l2 := 2147483647) dX6_priceNow_15 (law_a3 haT) rfl (by omega) (by omega) I4 (law_c3 haT) 16 rfl (fun v23 ev23 pv23 qv23 => ?_)
        have k16 : v23.toInt = t (cps t y1.toInt.toNat) := by rw [← (klw y1.toInt.toNat (by omega)).1, ev23]
        refine pv_bipush (M := mX6_priceNow) (v := 112) dX6_priceNow_16 18 rfl (by decide) ?_
        refine pv_icmp_ne (M := mX6_priceNow) (tgt := 68) dX6_priceNow_18 21 rfl (by decide) (fun c25 => ?_) (fun c25 => ?_)
        · have c25 := iv_ne (X := v23.toInt) (Y := 112) c25 rfl (by decide)
          refine iv_inc (M := mX6_priceNow) (C := 1) dX6_priceNow_68 71 rfl rfl (by decide) rfl rfl (by decide) (by omega) (by omega) (fun v26 ev26 => ?_)
          show PV _ _ _ _ _ _ _ 71 [.ref aT, .int v26, pv_U] [] _
          refine pv_goto (M := mX6_priceNow) (tgt := 2) dX6_priceNow_71 (by decide) ?_
          have kbn : prc t (fsn m aT) (m aT 7).toInt.toNat 0 = prc t (fsn m aT) ((m aT 7).toInt.toNat - v26.toInt.toNat) v26.toInt.toNat := by rw [kgn, prc_n (by first | exact Or.inl (by omega) | exact Or.inr (k26.resolve_left (fun x => by have x1 := x.1; omega)).2)]; congr 1 <;> omega
          exact ih8 v26 m2 n3 (by first | omega | assumption | exact (iv_rng _).2 | exact (iv_rng _).1 | decide) (by first | omega | assumption | exact (iv_rng _).2 | exact (iv_rng _).1 | decide) (by omega) kbn I4 K5 (by omega)
        · have c25 := iv_eq (X := v23.toInt) (Y := 112) c25 rfl (by decide)
          refine pv_aload_n (M := mX6_priceNow) 0 dX6_priceNow_21 22 rfl rfl rfl ?_
          refine pv_iload_n (M := mX6_priceNow) 1 dX6_priceNow_22 23 rfl rfl rfl ?_
          refine pv_callv (M := mX6_priceNow) (as := [.int y1]) (st := []) (kc2 := 0) (ks2 := 0) dX6_priceNow_23 wd741 YX6_holds ⟨wd743, wd18⟩ (mk_get haT.2.1) rfl rfl (s_X6_holds_vz g hT I4 aT haT y1 (by omega) (by omega) t klw (by omega)) rfl rfl (Nat.le_of_ble_eq_true rfl) (by decide) rfl rfl 26 rfl (fun rv h1 q28 => ?_)
          obtain ⟨m29, n30, v33, rfl, rfl, I31, K32, pv33, qv33, rv33⟩ := q28
          replace rv33 : (v33.toInt = 1 ∧ chb (CDC t (cps t y1.toInt.toNat) (fsn m2 aT)) = true) ∨ (v33.toInt = 0 ∧ chb (CDC t (cps t y1.toInt.toNat) (fsn m2 aT)) = false) := rv33
          have K32c := K32
          have K32 := K5.trans (K32.sub (fun _ _ q => q))
          show PV _ _ _ _ _ _ _ 26 [.ref aT, .int y1, pv_U] [.int v33] _
          have k26 := rv33
          rw [kfs] at k26
          have k7f : (m29 aT 7).toInt = (m aT 7).toInt := congrArg Int32.toInt (K32 _ _ (wS_out (by omega) (by omega)))
          have kft : fsn m29 aT = fsn m aT := fsn_eq (fun j => K32 _ _ (wS_out (by omega) (by omega)))
          have klx : LAWc m29 aT t (m29 aT 7).toInt.toNat := by rw [k7f]; exact LAWc_m hp0 (K32 _ _ (wS_out (by omega) (by omega))) (fun a j h1 h2 => K32 _ _ (wS_out (by omega) (by omega)))
          have kRx := klx y1.toInt.toNat (by omega)
          refine pv_if_eq (M := mX6_priceNow) (tgt := 68) dX6_priceNow_26 29 rfl (by decide) (fun c40 => ?_) (fun c40 => ?_)
          · have c40 := iv_eq (X := v33.toInt) (Y := 0) c40 rfl (by decide)
            refine iv_inc (M := mX6_priceNow) (C := 1) dX6_priceNow_68 71 rfl rfl (by decide) rfl rfl (by decide) (by omega) (by omega) (fun v41 ev41 => ?_)
            show PV _ _ _ _ _ _ _ 71 [.ref aT, .int v41, pv_U] [] _
            refine pv_goto (M := mX6_priceNow) (tgt := 2) dX6_priceNow_71 (by decide) ?_
            have kbn : prc t (fsn m aT) (m aT 7).toInt.toNat 0 = prc t (fsn m aT) ((m aT 7).toInt.toNat - v41.toInt.toNat) v41.toInt.toNat := by rw [kgn, prc_n (by first | exact Or.inl (by omega) | exact Or.inr (k26.resolve_left (fun x => by have x1 := x.1; omega)).2)]; congr 1 <;> omega
            exact ih8 v41 m29 n30 (by first | omega | assumption | exact (iv_rng _).2 | exact (iv_rng _).1 | decide) (by first | omega | assumption | exact (iv_rng _).2 | exact (iv_rng _).1 | decide) (by omega) kbn I31 K32 (by omega)
          · have c40 := iv_ne (X := v33.toInt) (Y := 0) c40 rfl (by decide)
            have k29 := (k26.resolve_right (fun x => by have x1 := x.1; omega)).2
            refine pv_aload_n (M := mX6_priceNow) 0 dX6_priceNow_29 30 rfl rfl rfl ?_
            refine pv_aload_n (M := mX6_priceNow) 0 dX6_priceNow_30 31 rfl rfl rfl ?_
            refine mv_get (M := mX6_priceNow) (v := .ref (aT + 4)) dX6_priceNow_31 FX6 4 wd237 (by decide) haT.2.1 rfl rfl 34 rfl ?_
            refine pv_iload_n (M := mX6_priceNow) 1 dX6_priceNow_34 35 rfl rfl rfl ?_
            refine iv_iald (M := mX6_priceNow) (X := y1.toInt) (l1 := 0) (l2 := 160) dX6_priceNow_35 (law_a4 haT) rfl (by omega) (by omega) I31 (law_c4 haT) 36 rfl (fun v44 ev44 pv44 qv44 => ?_)
            have k36 : v44 = m29 (aT + 4) y1.toInt.toNat := ev44
            refine pv_aload_n (M := mX6_priceNow) 0 dX6_priceNow_36 37 rfl rfl rfl ?_
            refine mv_get (M := mX6_priceNow) (v := .ref (aT + 5)) dX6_priceNow_37 FX6 5 wd238 (by decide) haT.2.1 rfl rfl 40 rfl ?_
            refine pv_iload_n (M := mX6_priceNow) 1 dX6_priceNow_40 41 rfl rfl rfl ?_
            refine iv_iald (M := mX6_priceNow) (X := y1.toInt) (l1 := 0) (l2 := 160) dX6_priceNow_41 (law_a5 haT) rfl (by omega) (by omega) I31 (law_c5 haT) 42 rfl (fun v46 ev46 pv46 qv46 => ?_)
            have k42 : v46 = m29 (aT + 5) y1.toInt.toNat := ev46
            refine pv_callv (M := mX6_priceNow) (as := [.int v44, .int v46]) (st := []) (kc2 := 0) (ks2 := 0) dX6_priceNow_42 wd745 YX6_reckon ⟨wd747, wd19⟩ (mk_get haT.2.1) rfl rfl (s_X6_reckon_vz g hT I31 aT haT v44 (by omega) (by omega) v46 (by omega) (by omega) (NUN_m (kRx.2.1 (by omega)).2 k36 k42)) rfl rfl (Nat.le_of_ble_eq_true rfl) (by decide) rfl rfl 45 rfl (fun rv h1 q48 => ?_)
            obtain ⟨m49, n50, v53, rfl, rfl, I51, K52, pv53, qv53, rv53⟩ := q48
            replace rv53 : RKZ (ev (cdC m29 aT) (fsn m29 aT) v46.toInt.toNat v44.toInt.toNat []) v53 (m49 aT 11) := rv53
            have K52c := K52
            have K52 := K32.trans (K52.sub (fun _ _ q => q))
            show PV _ _ _ _ _ _ _ 45 [.ref aT, .int y1, pv_U] [.int v53] _
            have k45 := RKZ_of (by have q := rv53; rw [k36, k42, kft] at q; exact q) (kRx.2.1 (by omega)).1 (by omega)
            refine pv_istore_n (M := mX6_priceNow) 2 (lo2 := [.ref aT, .int y1, .int v53]) dX6_priceNow_45 46 rfl rfl (by decide) rfl rfl ?_
            refine pv_aload_n (M := mX6_priceNow) 0 dX6_priceNow_46 47 rfl rfl rfl ?_
            refine iv_get (M := mX6_priceNow) (l1 := 0) (l2 := 1) dX6_priceNow_47 FX6 11 wd246 (by decide) haT.2.1 rfl I51 (law_b11 haT) 50 rfl (fun v55 ev55 pv55 qv55 => ?_)
            have wv55 : v55.toInt = (m49 aT 11).toInt := congrArg Int32.toInt ev55
            refine pv_if_eq (M := mX6_priceNow) (tgt := 57) dX6_priceNow_50 53 rfl (by decide) (fun c56 => ?_) (fun c56 => ?_)
            · have c56 := iv_eq (X := v55.toInt) (Y := 0) c56 rfl (by decide)
              refine pv_iconst (M := mX6_priceNow) (v := 0) dX6_priceNow_57 58 rfl (by decide) ?_
              refine pv_bipush (M := mX6_priceNow) (v := 99) dX6_priceNow_58 60 rfl (by decide) ?_
              refine pv_iload_n (M := mX6_priceNow) 2 dX6_priceNow_60 61 rfl rfl rfl ?_
              refine iv_min (M := mX6_priceNow) (X := 99) (Y := v53.toInt) dX6_priceNow_61 wd768 Wmmin (Nat.le_of_ble_eq_true rfl) (by decide) (by decide) rfl 64 rfl (fun v57 ev57 fv57 gv57 => ?_)
              refine iv_max (M := mX6_priceNow) (X := 0) (Y := v57.toInt) dX6_priceNow_64 wd682 Wmmax (Nat.le_of_ble_eq_true rfl) (by decide) (by decide) rfl 67 rfl (fun v58 ev58 fv58 gv58 => ?_)
              exact pv_iret (M := mX6_priceNow) dX6_priceNow_67 rfl rfl ⟨_, _, _, rfl, rfl, I51, K52, (iv_rng v58).1, (iv_rng v58).2, (by rw [kgn, prc_y (by omega) k29]; exact prv_of k45 (fun q => by omega) (fun q => by omega))⟩
            · have c56 := iv_ne (X := v55.toInt) (Y := 0) c56 rfl (by decide)
              refine pv_iconst (M := mX6_priceNow) (v := 0) dX6_priceNow_53 54 rfl (by decide) ?_
              refine pv_goto (M := mX6_priceNow) (tgt := 67) dX6_priceNow_54 (by decide) ?_
              have z59 : (0 : Int32).toInt = 0 := by decide
              exact pv_iret (M := mX6_priceNow) dX6_priceNow_67 rfl rfl ⟨_, _, _, rfl, rfl, I51, K52, by decide, by decide, (by rw [kgn, prc_y (by omega) k29]; exact prv_of k45 (fun q => by omega) (fun q => by omega))⟩
  have z60 : (0 : Int32).toInt = 0 := by decide
  exact lp7 (((12 - 0) : Int).toNat + 1) 0 m n (by first | omega | assumption | exact (iv_rng _).2 | exact (iv_rng _).1 | decide) (by first | omega | assumption | exact (iv_rng _).2 | exact (iv_rng _).1 | decide) (by rw [Int32.toInt_zero]; have q := I aT 7; rw [law_b7 haT] at q; exact q.1) (by rw [Int32.toInt_zero]; rfl) I Kp (by omega)
