set_option maxHeartbeats 2000000 in
set_option maxRecDepth 20000 in
theorem s_X6_show_vz (g : pv_G) {T : List mv_T} {m : Nat → Nat → Int32} {n : Nat → Nat → Int64} {r : Nat → Value} (hT : TX T) (I : IV BB m) (aT : Nat) (haT : LawAt T aT) (a0 : Nat) (ha0 : BlankAt T a0) (x1 : Int32) (hl1 : 0 ≤ x1.toInt) (hh1 : x1.toInt ≤ 7) (x2 : Int32) (hl2 : 0 ≤ x2.toInt) (hh2 : x2.toInt ≤ 39) (x3 : Int32) (hl3 : 0 ≤ x3.toInt) (hh3 : x3.toInt ≤ 7) (x4 : Int32) (hl4 : 0 ≤ x4.toInt) (hh4 : x4.toInt ≤ 999) (hp0 : RST m a0) (hp1 : x2.toInt < (m (a0 + 3) 1).toInt) (hp2 : a0 + 6 < aT) : PM g mX6_show yX6_show (sqV T BB (wl [((aT + 7), (aT + 7), none)]) r m (fun m' => FCT (m' (aT + 7)) (m (a0 + 6)) (m (a0 + 2)) 0 0 (wrN m a0) x2.toInt x3.toInt x4.toInt x1.toInt)) 2 0 0 [.ref aT, .ref a0, .int x1, .int x2, .int x3, .int x4] (mk T m n r) := by
  have Kp : fr (wl [((aT + 7), (aT + 7), none)]) m m := fr.rf
  have zwT := haT.1
  have zb0 := ha0.2.2.2.2.2.2.2
  refine PM.of 1 (lo := [.ref aT, .ref a0, .int x1, .int x2, .int x3, .int x4, pv_U]) rfl (by decide) rfl rfl (Nat.le_of_ble_eq_true rfl) ?_
  refine pv_aload_n (M := mX6_show) 1 dX6_show_0 1 rfl rfl rfl ?_
  refine pv_iload_n (M := mX6_show) 3 dX6_show_1 2 rfl rfl rfl ?_
  refine pv_callv (M := mX6_show) (as := [.int x2]) (st := []) (kc2 := 0) (ks2 := 0) dX6_show_2 wd727 YX0_ownAt ⟨wd709, wd710⟩ (mk_get ha0.1) rfl rfl (s_X0_ownAt_vz g hT I a0 ha0 x2) rfl rfl (Nat.le_of_ble_eq_true rfl) (by decide) rfl rfl 5 rfl (fun rv h1 q1 => ?_)
  obtain ⟨v2, rfl, rfl, pv2, qv2, rv2⟩ := q1
  replace rv2 : (0 ≤ x2.toInt ∧ x2.toInt < (m (a0 + 3) 1).toInt ∧ v2 = m (a0 + 5) x2.toInt.toNat) ∨ ((x2.toInt < 0 ∨ (m (a0 + 3) 1).toInt ≤ x2.toInt) ∧ v2.toInt = -1) := rv2
  show PV _ _ _ _ _ _ _ 5 [.ref aT, .ref a0, .int x1, .int x2, .int x3, .int x4, pv_U] [.int v2] _
  have k5 : v2 = m (a0 + 5) x2.toInt.toNat := (rv2.resolve_right (fun q => by have q1 := q.1; omega)).2.2
  have kR := RST_at hp0 (by omega) hp1
  have kR1 := kR.1
  have kR2 := kR.2.1.1
  have kw : (m (a0 + 1) 1).toInt ≤ 40 := by have q := I (a0 + 1) 1; rw [ha0.2.1.2.2.1] at q; exact q.2
  unfold wrN at kR2
  refine pv_istore (M := mX6_show) (lo2 := [.ref aT, .ref a0, .int x1, .int x2, .int x3, .int x4, .int v2]) dX6_show_5 7 rfl (by decide) rfl rfl ?_
  refine pv_aload_n (M := mX6_show) 0 dX6_show_7 8 rfl rfl rfl ?_
  refine mv_get (M := mX6_show) (v := .ref (aT + 7)) dX6_show_8 FX6 8 wd243 (by decide) haT.2.1 rfl rfl 11 rfl ?_
  refine pv_iconst (M := mX6_show) (v := 0) dX6_show_11 12 rfl (by decide) ?_
  refine pv_aload_n (M := mX6_show) 1 dX6_show_12 13 rfl rfl rfl ?_
  refine mv_get (M := mX6_show) (v := .ref (a0 + 3)) dX6_show_13 FX0 1 wd211 (by decide) ha0.1 rfl rfl 16 rfl ?_
  refine pv_iload_n (M := mX6_show) 3 dX6_show_16 17 rfl rfl rfl ?_
  refine pv_callv (M := mX6_show) (as := [.int x2]) (st := [.int 0, .ref (aT + 7)]) (kc2 := 0) (ks2 := 0) dX6_show_17 wd728 YX8_at ⟨wd705, wd706⟩ (mk_get ha0.2.2.1.1) rfl rfl (s_X8_at_vz g hT I (a0 + 3) 40 ha0.2.2.1 x2) rfl rfl (Nat.le_of_ble_eq_true rfl) (by decide) rfl rfl 20 rfl (fun rv h1 q9 => ?_)
  obtain ⟨v10, rfl, rfl, pv10, qv10, rv10⟩ := q9
  replace rv10 : (0 ≤ x2.toInt ∧ x2.toInt < (m (a0 + 3) 1).toInt ∧ v10 = m ((a0 + 3) + 1) x2.toInt.toNat) ∨ ((x2.toInt < 0 ∨ (m (a0 + 3) 1).toInt ≤ x2.toInt) ∧ v10.toInt = -1) := rv10
  show PV _ _ _ _ _ _ _ 20 [.ref aT, .ref a0, .int x1, .int x2, .int x3, .int x4, .int v2] [.int v10, .int 0, .ref (aT + 7)] _
  have k20 : v10 = m (a0 + 4) x2.toInt.toNat := (rv10.resolve_right (fun q => by have q1 := q.1; omega)).2.2
  refine iv_iast (M := mX6_show) (X := 0) (l1 := (-2147483648)) (l2 := 2147483647) dX6_show_20 (law_a7 haT) (by decide) (by omega) (by omega) I (law_c7 haT) (iv_rng v10).1 (iv_rng v10).2 21 rfl (fun m12 e15 I13 => ?_)
  have K14 := Kp.set e15 (wl_r (by omega) (by omega))
  have w16 : (m12 (a0 + 3) 1).toInt = (m (a0 + 3) 1).toInt := by rw [e15, up2_ne (by omega)]
  refine pv_aload_n (M := mX6_show) 0 dX6_show_21 22 rfl rfl rfl ?_
  refine mv_get (M := mX6_show) (v := .ref (aT + 7)) dX6_show_22 FX6 8 wd243 (by decide) haT.2.1 rfl rfl 25 rfl ?_
  refine pv_iconst (M := mX6_show) (v := 1) dX6_show_25 26 rfl (by decide) ?_
  refine pv_iload_n (M := mX6_show) 3 dX6_show_26 27 rfl rfl rfl ?_
  refine iv_iast (M := mX6_show) (X := 1) (l1 := (-2147483648)) (l2 := 2147483647) dX6_show_27 (law_a7 haT) (by decide) (by omega) (by omega) I13 (law_c7 haT) (iv_rng x2).1 (iv_rng x2).2 28 rfl (fun m17 e20 I18 => ?_)
  have K19 := K14.set e20 (wl_r (by omega) (by omega))
  have w21 : (m17 (a0 + 3) 1).toInt = (m12 (a0 + 3) 1).toInt := by rw [e20, up2_ne (by omega)]
  refine pv_aload_n (M := mX6_show) 0 dX6_show_28 29 rfl rfl rfl ?_
  refine mv_get (M := mX6_show) (v := .ref (aT + 7)) dX6_show_29 FX6 8 wd243 (by decide) haT.2.1 rfl rfl 32 rfl ?_
  refine pv_iconst (M := mX6_show) (v := 2) dX6_show_32 33 rfl (by decide) ?_
  refine pv_iload (M := mX6_show) dX6_show_33 35 rfl rfl ?_
  refine iv_iast (M := mX6_show) (X := 2) (l1 := (-2147483648)) (l2 := 2147483647) dX6_show_35 (law_a7 haT) (by decide) (by omega) (by omega) I18 (law_c7 haT) (iv_rng v2).1 (iv_rng v2).2 36 rfl (fun m22 e25 I23 => ?_)
  have K24 := K19.set e25 (wl_r (by omega) (by omega))
  have w26 : (m22 (a0 + 3) 1).toInt = (m17 (a0 + 3) 1).toInt := by rw [e25, up2_ne (by omega)]
  refine pv_aload_n (M := mX6_show) 0 dX6_show_36 37 rfl rfl rfl ?_
  refine mv_get (M := mX6_show) (v := .ref (aT + 7)) dX6_show_37 FX6 8 wd243 (by decide) haT.2.1 rfl rfl 40 rfl ?_
  refine pv_iconst (M := mX6_show) (v := 3) dX6_show_40 41 rfl (by decide) ?_
  refine pv_aload_n (M := mX6_show) 1 dX6_show_41 42 rfl rfl rfl ?_
  refine mv_get (M := mX6_show) (v := .ref (a0 + 3)) dX6_show_42 FX0 1 wd211 (by decide) ha0.1 rfl rfl 45 rfl ?_
  refine iv_get (M := mX6_show) (l1 := 0) (l2 := 40) dX6_show_45 FX8 1 wd201 (by decide) ha0.2.2.1.1 rfl I23 ha0.2.2.1.2.2.1 48 rfl (fun v27 ev27 pv27 qv27 => ?_)
  have wv27 : v27.toInt = (m22 (a0 + 3) 1).toInt := congrArg Int32.toInt ev27
  refine iv_iast (M := mX6_show) (X := 3) (l1 := (-2147483648)) (l2 := 2147483647) dX6_show_48 (law_a7 haT) (by decide) (by omega) (by omega) I23 (law_c7 haT) (iv_rng v27).1 (iv_rng v27).2 49 rfl (fun m28 e31 I29 => ?_)
  have K30 := K24.set e31 (wl_r (by omega) (by omega))
  have w32 : (m28 (a0 + 3) 1).toInt = (m22 (a0 + 3) 1).toInt := by rw [e31, up2_ne (by omega)]
  refine pv_aload_n (M := mX6_show) 0 dX6_show_49 50 rfl rfl rfl ?_
  refine mv_get (M := mX6_show) (v := .ref (aT + 7)) dX6_show_50 FX6 8 wd243 (by decide) haT.2.1 rfl rfl 53 rfl ?_
  refine pv_iconst (M := mX6_show) (v := 4) dX6_show_53 54 rfl (by decide) ?_
  refine pv_aload_n (M := mX6_show) 1 dX6_show_54 55 rfl rfl rfl ?_
  refine pv_aload_n (M := mX6_show) 0 dX6_show_55 56 rfl rfl rfl ?_
  refine mv_get (M := mX6_show) (v := .ref (aT + 7)) dX6_show_56 FX6 8 wd243 (by decide) haT.2.1 rfl rfl 59 rfl ?_
  refine pv_iconst (M := mX6_show) (v := 0) dX6_show_59 60 rfl (by decide) ?_
  refine iv_iald (M := mX6_show) (X := 0) (l1 := (-2147483648)) (l2 := 2147483647) dX6_show_60 (law_a7 haT) (by decide) (by omega) (by omega) I29 (law_c7 haT) 61 rfl (fun v33 ev33 pv33 qv33 => ?_)
  have kv61 : v33 = m (a0 + 4) x2.toInt.toNat := by rw [ev33, e31, up2_ne (by omega), e25, up2_ne (by omega), e20, up2_ne (by omega), e15, up2_at (by omega)]; exact k20
  refine pv_callv (M := mX6_show) (as := [.int v33]) (st := [.int 4, .ref (aT + 7)]) (kc2 := 0) (ks2 := 0) dX6_show_61 wd729 YX0_howOften ⟨wd730, wd731⟩ (mk_get ha0.1) rfl rfl (s_X0_howOften_vz g hT I29 a0 ha0 v33) rfl rfl (Nat.le_of_ble_eq_true rfl) (by decide) rfl rfl 64 rfl (fun rv h1 q35 => ?_)
  obtain ⟨v36, rfl, rfl, pv36, qv36, rv36⟩ := q35
  replace rv36 : v36.toInt = ctr (m28 (a0 + 4)) v33.toInt (m28 (a0 + 3) 1).toInt.toNat := rv36
  show PV _ _ _ _ _ _ _ 64 [.ref aT, .ref a0, .int x1, .int x2, .int x3, .int x4, .int v2] [.int v36, .int 4, .ref (aT + 7)] _
  have kf64 : m28 (a0 + 4) = m (a0 + 4) := funext fun j => by rw [e31, up2_ne (by omega), e25, up2_ne (by omega), e20, up2_ne (by omega), e15, up2_ne (by omega)]
  have k64 : v36.toInt = ctr (m (a0 + 4)) (m (a0 + 4) x2.toInt.toNat).toInt (m (a0 + 3) 1).toInt.toNat := by rw [rv36, kf64, kv61, show (m28 (a0 + 3) 1).toInt = (m (a0 + 3) 1).toInt from (by omega)]
  refine iv_iast (M := mX6_show) (X := 4) (l1 := (-2147483648)) (l2 := 2147483647) dX6_show_64 (law_a7 haT) (by decide) (by omega) (by omega) I29 (law_c7 haT) (iv_rng v36).1 (iv_rng v36).2 65 rfl (fun m39 e42 I40 => ?_)
  have K41 := K30.set e42 (wl_r (by omega) (by omega))
  have w43 : (m39 (a0 + 3) 1).toInt = (m28 (a0 + 3) 1).toInt := by rw [e42, up2_ne (by omega)]
  refine pv_aload_n (M := mX6_show) 0 dX6_show_65 66 rfl rfl rfl ?_
  refine mv_get (M := mX6_show) (v := .ref (aT + 7)) dX6_show_66 FX6 8 wd243 (by decide) haT.2.1 rfl rfl 69 rfl ?_
  refine pv_iconst (M := mX6_show) (v := 5) dX6_show_69 70 rfl (by decide) ?_
  refine pv_iload (M := mX6_show) dX6_show_70 72 rfl rfl ?_
  refine iv_iast (M := mX6_show) (X := 5) (l1 := (-2147483648)) (l2 := 2147483647) dX6_show_72 (law_a7 haT) (by decide) (by omega) (by omega) I40 (law_c7 haT) (iv_rng x3).1 (iv_rng x3).2 73 rfl (fun m44 e47 I45 => ?_)
  have K46 := K41.set e47 (wl_r (by omega) (by omega))
  have w48 : (m44 (a0 + 3) 1).toInt = (m39 (a0 + 3) 1).toInt := by rw [e47, up2_ne (by omega)]
  refine pv_aload_n (M := mX6_show) 0 dX6_show_73 74 rfl rfl rfl ?_
  refine mv_get (M := mX6_show) (v := .ref (aT + 7)) dX6_show_74 FX6 8 wd243 (by decide) haT.2.1 rfl rfl 77 rfl ?_
  refine pv_bipush (M := mX6_show) (v := 6) dX6_show_77 79 rfl (by decide) ?_
  refine pv_iload (M := mX6_show) dX6_show_79 81 rfl rfl ?_
  refine iv_iast (M := mX6_show) (X := 6) (l1 := (-2147483648)) (l2 := 2147483647) dX6_show_81 (law_a7 haT) (by decide) (by omega) (by omega) I45 (law_c7 haT) (iv_rng x4).1 (iv_rng x4).2 82 rfl (fun m49 e52 I50 => ?_)
  have K51 := K46.set e52 (wl_r (by omega) (by omega))
  have w53 : (m49 (a0 + 3) 1).toInt = (m44 (a0 + 3) 1).toInt := by rw [e52, up2_ne (by omega)]
  refine pv_aload_n (M := mX6_show) 0 dX6_show_82 83 rfl rfl rfl ?_
  refine mv_get (M := mX6_show) (v := .ref (aT + 7)) dX6_show_83 FX6 8 wd243 (by decide) haT.2.1 rfl rfl 86 rfl ?_
  refine pv_bipush (M := mX6_show) (v := 7) dX6_show_86 88 rfl (by decide) ?_
  refine pv_iload_n (M := mX6_show) 2 dX6_show_88 89 rfl rfl rfl ?_
  refine iv_iast (M := mX6_show) (X := 7) (l1 := (-2147483648)) (l2 := 2147483647) dX6_show_89 (law_a7 haT) (by decide) (by omega) (by omega) I50 (law_c7 haT) (iv_rng x1).1 (iv_rng x1).2 90 rfl (fun m54 e57 I55 => ?_)
  have K56 := K51.set e57 (wl_r (by omega) (by omega))
  have w58 : (m54 (a0 + 3) 1).toInt = (m49 (a0 + 3) 1).toInt := by rw [e57, up2_ne (by omega)]
  refine pv_aload_n (M := mX6_show) 0 dX6_show_90 91 rfl rfl rfl ?_
  refine mv_get (M := mX6_show) (v := .ref (aT + 7)) dX6_show_91 FX6 8 wd243 (by decide) haT.2.1 rfl rfl 94 rfl ?_
  refine pv_bipush (M := mX6_show) (v := 8) dX6_show_94 96 rfl (by decide) ?_
  refine pv_aload_n (M := mX6_show) 1 dX6_show_96 97 rfl rfl rfl ?_
  refine pv_iload (M := mX6_show) dX6_show_97 99 rfl rfl ?_
  refine pv_iconst (M := mX6_show) (v := 1) dX6_show_99 100 rfl (by decide) ?_
  refine iv_subU (M := mX6_show) dX6_show_100 101 rfl (fun v59 ev59 => ?_)
  have k101 : v59.toInt = (m (a0 + 5) x2.toInt.toNat).toInt - 1 := by rw [ev59]; exact iv_subE (congrArg Int32.toInt k5) (by decide) (by omega) (by omega)
  refine pv_callv (M := mX6_show) (as := [.int v59]) (st := [.int 8, .ref (aT + 7)]) (kc2 := 0) (ks2 := 0) dX6_show_101 wd733 YX0_goneAt ⟨wd734, wd735⟩ (mk_get ha0.1) rfl rfl (s_X0_goneAt_vz g hT I55 a0 ha0 v59) rfl rfl (Nat.le_of_ble_eq_true rfl) (by decide) rfl rfl 104 rfl (fun rv h1 q61 => ?_)
  obtain ⟨v62, rfl, rfl, pv62, qv62, rv62⟩ := q61
  replace rv62 : v62.toInt = gon (m54 (a0 + 6)) 0 (wrN m54 a0) v59.toInt := rv62
  show PV _ _ _ _ _ _ _ 104 [.ref aT, .ref a0, .int x1, .int x2, .int x3, .int x4, .int v2] [.int v62, .int 8, .ref (aT + 7)] _
  have kf104 : ∀ a j, a ≠ aT + 7 → m54 a j = m a j := fun a j q => by rw [e57, up2_ne (by omega), e52, up2_ne (by omega), e47, up2_ne (by omega), e42, up2_ne (by omega), e31, up2_ne (by omega), e25, up2_ne (by omega), e20, up2_ne (by omega), e15, up2_ne (by omega)]
  have k104 : v62.toInt = gon (m (a0 + 6)) 0 (wrN m a0) ((m (a0 + 5) x2.toInt.toNat).toInt - 1) := by rw [rv62, k101, show m54 (a0 + 6) = m (a0 + 6) from funext fun j => kf104 _ j (by omega), show wrN m54 a0 = wrN m a0 from (by unfold wrN; rw [kf104 (a0 + 1) 1 (by omega)])]
  refine iv_iast (M := mX6_show) (X := 8) (l1 := (-2147483648)) (l2 := 2147483647) dX6_show_104 (law_a7 haT) (by decide) (by omega) (by omega) I55 (law_c7 haT) (iv_rng v62).1 (iv_rng v62).2 105 rfl (fun m65 e68 I66 => ?_)
  have K67 := K56.set e68 (wl_r (by omega) (by omega))
  have w69 : (m65 (a0 + 3) 1).toInt = (m54 (a0 + 3) 1).toInt := by rw [e68, up2_ne (by omega)]
  refine pv_aload_n (M := mX6_show) 0 dX6_show_105 106 rfl rfl rfl ?_
  refine mv_get (M := mX6_show) (v := .ref (aT + 7)) dX6_show_106 FX6 8 wd243 (by decide) haT.2.1 rfl rfl 109 rfl ?_
  refine pv_bipush (M := mX6_show) (v := 9) dX6_show_109 111 rfl (by decide) ?_
  refine pv_aload_n (M := mX6_show) 1 dX6_show_111 112 rfl rfl rfl ?_
  refine pv_iload (M := mX6_show) dX6_show_112 114 rfl rfl ?_
  refine pv_iconst (M := mX6_show) (v := 1) dX6_show_114 115 rfl (by decide) ?_
  refine iv_addU (M := mX6_show) dX6_show_115 116 rfl (fun v70 ev70 => ?_)
  have k116 : v70.toInt = (m (a0 + 5) x2.toInt.toNat).toInt + 1 := by rw [ev70]; exact iv_addE (congrArg Int32.toInt k5) (by decide) (by omega) (by omega)
  refine pv_callv (M := mX6_show) (as := [.int v70]) (st := [.int 9, .ref (aT + 7)]) (kc2 := 0) (ks2 := 0) dX6_show_116 wd733 YX0_goneAt ⟨wd734, wd735⟩ (mk_get ha0.1) rfl rfl (s_X0_goneAt_vz g hT I66 a0 ha0 v70) rfl rfl (Nat.le_of_ble_eq_true rfl) (by decide) rfl rfl 119 rfl (fun rv h1 q72 => ?_)
  obtain ⟨v73, rfl, rfl, pv73, qv73, rv73⟩ := q72
  replace rv73 : v73.toInt = gon (m65 (a0 + 6)) 0 (wrN m65 a0) v70.toInt := rv73
  show PV _ _ _ _ _ _ _ 119 [.ref aT, .ref a0, .int x1, .int x2, .int x3, .int x4, .int v2] [.int v73, .int 9, .ref (aT + 7)] _
  have kf119 : ∀ a j, a ≠ aT + 7 → m65 a j = m a j := fun a j q => by rw [e68, up2_ne (by omega), e57, up2_ne (by omega), e52, up2_ne (by omega), e47, up2_ne (by omega), e42, up2_ne (by omega), e31, up2_ne (by omega), e25, up2_ne (by omega), e20, up2_ne (by omega), e15, up2_ne (by omega)]
  have k119 : v73.toInt = gon (m (a0 + 6)) 0 (wrN m a0) ((m (a0 + 5) x2.toInt.toNat).toInt + 1) := by rw [rv73, k116, show m65 (a0 + 6) = m (a0 + 6) from funext fun j => kf119 _ j (by omega), show wrN m65 a0 = wrN m a0 from (by unfold wrN; rw [kf119 (a0 + 1) 1 (by omega)])]
  refine iv_iast (M := mX6_show) (X := 9) (l1 := (-2147483648)) (l2 := 2147483647) dX6_show_119 (law_a7 haT) (by decide) (by omega) (by omega) I66 (law_c7 haT) (iv_rng v73).1 (iv_rng v73).2 120 rfl (fun m76 e79 I77 => ?_)
  have K78 := K67.set e79 (wl_r (by omega) (by omega))
  have w80 : (m76 (a0 + 3) 1).toInt = (m65 (a0 + 3) 1).toInt := by rw [e79, up2_ne (by omega)]
  exact pv_vret (M := mX6_show) dX6_show_120 rfl ⟨_, _, rfl, rfl, I77, K78, FCT_of hp0 (by omega) hp1 (by rw [e79, up2_ne (by omega), e68, up2_ne (by omega), e57, up2_ne (by omega), e52, up2_ne (by omega), e47, up2_ne (by omega), e42, up2_ne (by omega), e31, up2_ne (by omega), e25, up2_ne (by omega), e20, up2_ne (by omega), e15, up2_at (by omega)]; exact k20) (by rw [e79, up2_ne (by omega), e68, up2_ne (by omega), e57, up2_ne (by omega), e52, up2_ne (by omega), e47, up2_ne (by omega), e42, up2_ne (by omega), e31, up2_ne (by omega), e25, up2_ne (by omega), e20, up2_at (by omega)]) (by rw [e79, up2_ne (by omega), e68, up2_ne (by omega), e57, up2_ne (by omega), e52, up2_ne (by omega), e47, up2_ne (by omega), e42, up2_ne (by omega), e31, up2_ne (by omega), e25, up2_at (by omega)]; exact k5) (by rw [e79, up2_ne (by omega), e68, up2_ne (by omega), e57, up2_ne (by omega), e52, up2_ne (by omega), e47, up2_ne (by omega), e42, up2_ne (by omega), e31, up2_at (by omega)]; omega) (by rw [e79, up2_ne (by omega), e68, up2_ne (by omega), e57, up2_ne (by omega), e52, up2_ne (by omega), e47, up2_ne (by omega), e42, up2_at (by omega)]; exact k64) (by rw [e79, up2_ne (by omega), e68, up2_ne (by omega), e57, up2_ne (by omega), e52, up2_ne (by omega), e47, up2_at (by omega)]) (by rw [e79, up2_ne (by omega), e68, up2_ne (by omega), e57, up2_ne (by omega), e52, up2_at (by omega)]) (by rw [e79, up2_ne (by omega), e68, up2_ne (by omega), e57, up2_at (by omega)]) (by rw [e79, up2_ne (by omega), e68, up2_at (by omega)]; exact k104) (by rw [e79, up2_at (by omega)]; exact k119) rfl rfl⟩
