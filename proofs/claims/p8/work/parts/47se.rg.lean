set_option maxHeartbeats 2000000 in
set_option maxRecDepth 20000 in
theorem s_X12_feels_vz (g : pv_G) {T : List mv_T} {m : Nat → Nat → Int32} {n : Nat → Nat → Int64} {r : Nat → Value} (hT : TX T) (I : IV BB m) (x0 : Int32) (hl0 : 0 ≤ x0.toInt) (hh0 : x0.toInt ≤ 7) (x1 : Int32) (hl1 : 0 ≤ x1.toInt) (hh1 : x1.toInt ≤ 39) (x2 : Int32) (hp0 : x1.toInt < nu m x0.toInt 0) : PM g mX12_feels yX12_feels (sqV T BB (wl [(142, 142, none)]) r m (fun m' => FCT (m' 142) (m 128) (m 125) (40 * x0.toInt.toNat) (40 * x0.toInt.toNat) (m 124 x0.toInt.toNat).toInt.toNat x1.toInt x2.toInt (m 123 1).toInt x0.toInt)) 2 0 0 [.ref 123, .int x0, .int x1, .int x2] (mk T m n r) := by
  have Kp : fr (wl [(142, 142, none)]) m m := fr.rf
  refine PM.of 1 (lo := [.ref 123, .int x0, .int x1, .int x2, pv_U]) rfl (by decide) rfl rfl (Nat.le_of_ble_eq_true rfl) ?_
  refine pv_aload_n (M := mX12_feels) 0 dX12_feels_0 1 rfl rfl rfl ?_
  refine pv_iload_n (M := mX12_feels) 1 dX12_feels_1 2 rfl rfl rfl ?_
  refine pv_iload_n (M := mX12_feels) 2 dX12_feels_2 3 rfl rfl rfl ?_
  refine pv_callv (M := mX12_feels) (as := [.int x0, .int x1]) (st := []) (kc2 := 0) (ks2 := 0) dX12_feels_3 wd1397 YX12_numberAt ⟨wd1399, wd57⟩ (mk_get (tl123 hT)) rfl rfl (s_X12_numberAt_vz g hT I x0 (by omega) (by omega) x1 (by omega) (by omega) (by first | omega | assumption | exact (iv_rng _).2 | exact (iv_rng _).1 | decide)) rfl rfl (Nat.le_of_ble_eq_true rfl) (by decide) rfl rfl 6 rfl (fun rv h1 q1 => ?_)
  obtain ⟨v2, rfl, rfl, pv2, qv2, rv2⟩ := q1
  replace rv2 : (v2.toInt < (m 124 x0.toInt.toNat).toInt ∧ (m 128 (40 * x0.toInt + v2.toInt).toNat).toInt = 0) ∧ IsN (m 128) (40 * x0.toInt.toNat) (m 124 x0.toInt.toNat).toInt.toNat x1.toInt.toNat v2.toInt.toNat := rv2
  show PV _ _ _ _ _ _ _ 6 [.ref 123, .int x0, .int x1, .int x2, pv_U] [.int v2] _
  have kN := rv2.2
  have kA := rv2.1
  refine pv_istore (M := mX12_feels) (lo2 := [.ref 123, .int x0, .int x1, .int x2, .int v2]) dX12_feels_6 8 rfl (by decide) rfl rfl ?_
  refine pv_aload_n (M := mX12_feels) 0 dX12_feels_8 9 rfl rfl rfl ?_
  refine mv_get (M := mX12_feels) (v := .ref 142) dX12_feels_9 FX12 33 wd1206 (by decide) (tl123 hT) rfl rfl 12 rfl ?_
  refine pv_iconst (M := mX12_feels) (v := 0) dX12_feels_12 13 rfl (by decide) ?_
  refine pv_aload_n (M := mX12_feels) 0 dX12_feels_13 14 rfl rfl rfl ?_
  refine mv_get (M := mX12_feels) (v := .ref 125) dX12_feels_14 FX12 6 wd1179 (by decide) (tl123 hT) rfl rfl 17 rfl ?_
  refine pv_bipush (M := mX12_feels) (v := 40) dX12_feels_17 19 rfl (by decide) ?_
  refine pv_iload_n (M := mX12_feels) 1 dX12_feels_19 20 rfl rfl rfl ?_
  refine iv_imul (M := mX12_feels) (X := 40) (Y := x0.toInt) dX12_feels_20 21 rfl (by decide) rfl (by omega) (by omega) (fun v5 ev5 => ?_)
  refine pv_iload (M := mX12_feels) dX12_feels_21 23 rfl rfl ?_
  refine iv_iadd (M := mX12_feels) (X := v5.toInt) (Y := v2.toInt) dX12_feels_23 24 rfl rfl rfl (by omega) (by omega) (fun v6 ev6 => ?_)
  refine iv_iald (M := mX12_feels) (X := v6.toInt) (l1 := 0) (l2 := 25) dX12_feels_24 (tl125 hT) rfl (by omega) (by omega) I (fun _ => rfl) 25 rfl (fun v7 ev7 pv7 qv7 => ?_)
  have k25 : v7 = m 125 (40 * x0.toInt.toNat + v2.toInt.toNat) := ev7.trans (congrArg (fun z => m 125 z) (by omega))
  refine iv_iast (M := mX12_feels) (X := 0) (l1 := (-2147483648)) (l2 := 2147483647) dX12_feels_25 (tl142 hT) (by decide) (by omega) (by omega) I (fun _ => rfl) (iv_rng v7).1 (iv_rng v7).2 26 rfl (fun m9 e12 I10 => ?_)
  have K11 := Kp.set e12 rfl
  refine pv_aload_n (M := mX12_feels) 0 dX12_feels_26 27 rfl rfl rfl ?_
  refine mv_get (M := mX12_feels) (v := .ref 142) dX12_feels_27 FX12 33 wd1206 (by decide) (tl123 hT) rfl rfl 30 rfl ?_
  refine pv_iconst (M := mX12_feels) (v := 1) dX12_feels_30 31 rfl (by decide) ?_
  refine pv_iload_n (M := mX12_feels) 2 dX12_feels_31 32 rfl rfl rfl ?_
  refine iv_iast (M := mX12_feels) (X := 1) (l1 := (-2147483648)) (l2 := 2147483647) dX12_feels_32 (tl142 hT) (by decide) (by omega) (by omega) I10 (fun _ => rfl) (iv_rng x1).1 (iv_rng x1).2 33 rfl (fun m13 e16 I14 => ?_)
  have K15 := K11.set e16 rfl
  refine pv_aload_n (M := mX12_feels) 0 dX12_feels_33 34 rfl rfl rfl ?_
  refine mv_get (M := mX12_feels) (v := .ref 142) dX12_feels_34 FX12 33 wd1206 (by decide) (tl123 hT) rfl rfl 37 rfl ?_
  refine pv_iconst (M := mX12_feels) (v := 2) dX12_feels_37 38 rfl (by decide) ?_
  refine pv_iload (M := mX12_feels) dX12_feels_38 40 rfl rfl ?_
  refine iv_iast (M := mX12_feels) (X := 2) (l1 := (-2147483648)) (l2 := 2147483647) dX12_feels_40 (tl142 hT) (by decide) (by omega) (by omega) I14 (fun _ => rfl) (iv_rng v2).1 (iv_rng v2).2 41 rfl (fun m17 e20 I18 => ?_)
  have K19 := K15.set e20 rfl
  refine pv_aload_n (M := mX12_feels) 0 dX12_feels_41 42 rfl rfl rfl ?_
  refine mv_get (M := mX12_feels) (v := .ref 142) dX12_feels_42 FX12 33 wd1206 (by decide) (tl123 hT) rfl rfl 45 rfl ?_
  refine pv_iconst (M := mX12_feels) (v := 3) dX12_feels_45 46 rfl (by decide) ?_
  refine pv_aload_n (M := mX12_feels) 0 dX12_feels_46 47 rfl rfl rfl ?_
  refine pv_iload_n (M := mX12_feels) 1 dX12_feels_47 48 rfl rfl rfl ?_
  refine pv_callv (M := mX12_feels) (as := [.int x0]) (st := [.int 3, .ref 142]) (kc2 := 0) (ks2 := 0) dX12_feels_48 wd1393 YX12_leftMany ⟨wd1395, wd56⟩ (mk_get (tl123 hT)) rfl rfl (s_X12_leftMany g hT I18 x0 (by omega) (by omega)) rfl rfl (Nat.le_of_ble_eq_true rfl) (by decide) rfl rfl 51 rfl (fun rv h1 q21 => ?_)
  obtain ⟨v22, rfl, rfl, pv22, qv22, rv22⟩ := q21
  replace rv22 : v22.toInt = nu m17 x0.toInt 0 := rv22
  show PV _ _ _ _ _ _ _ 51 [.ref 123, .int x0, .int x1, .int x2, .int v2] [.int v22, .int 3, .ref 142] _
  have k51 : v22.toInt = nu m x0.toInt 0 := by rw [rv22]; unfold nu; rw [show m17 128 = m 128 from funext fun j => K19 128 j rfl, show m17 124 = m 124 from funext fun j => K19 124 j rfl]
  refine iv_iast (M := mX12_feels) (X := 3) (l1 := (-2147483648)) (l2 := 2147483647) dX12_feels_51 (tl142 hT) (by decide) (by omega) (by omega) I18 (fun _ => rfl) (iv_rng v22).1 (iv_rng v22).2 52 rfl (fun m24 e27 I25 => ?_)
  have K26 := K19.set e27 rfl
  refine pv_aload_n (M := mX12_feels) 0 dX12_feels_52 53 rfl rfl rfl ?_
  refine mv_get (M := mX12_feels) (v := .ref 142) dX12_feels_53 FX12 33 wd1206 (by decide) (tl123 hT) rfl rfl 56 rfl ?_
  refine pv_iconst (M := mX12_feels) (v := 4) dX12_feels_56 57 rfl (by decide) ?_
  refine pv_aload_n (M := mX12_feels) 0 dX12_feels_57 58 rfl rfl rfl ?_
  refine pv_iload_n (M := mX12_feels) 1 dX12_feels_58 59 rfl rfl rfl ?_
  refine pv_aload_n (M := mX12_feels) 0 dX12_feels_59 60 rfl rfl rfl ?_
  refine mv_get (M := mX12_feels) (v := .ref 125) dX12_feels_60 FX12 6 wd1179 (by decide) (tl123 hT) rfl rfl 63 rfl ?_
  refine pv_bipush (M := mX12_feels) (v := 40) dX12_feels_63 65 rfl (by decide) ?_
  refine pv_iload_n (M := mX12_feels) 1 dX12_feels_65 66 rfl rfl rfl ?_
  refine iv_imul (M := mX12_feels) (X := 40) (Y := x0.toInt) dX12_feels_66 67 rfl (by decide) rfl (by omega) (by omega) (fun v28 ev28 => ?_)
  refine pv_iload (M := mX12_feels) dX12_feels_67 69 rfl rfl ?_
  refine iv_iadd (M := mX12_feels) (X := v28.toInt) (Y := v2.toInt) dX12_feels_69 70 rfl rfl rfl (by omega) (by omega) (fun v29 ev29 => ?_)
  refine iv_iald (M := mX12_feels) (X := v29.toInt) (l1 := 0) (l2 := 25) dX12_feels_70 (tl125 hT) rfl (by omega) (by omega) I25 (fun _ => rfl) 71 rfl (fun v30 ev30 pv30 qv30 => ?_)
  have k71 : v30 = m 125 (40 * x0.toInt.toNat + v2.toInt.toNat) := ev30.trans ((K26 125 _ rfl).trans (congrArg (fun z => m 125 z) (by omega)))
  refine pv_callv (M := mX12_feels) (as := [.int x0, .int v30]) (st := [.int 4, .ref 142]) (kc2 := 0) (ks2 := 0) dX12_feels_71 wd1507 YX12_howOften ⟨wd1509, wd79⟩ (mk_get (tl123 hT)) rfl rfl (s_X12_howOften_vz g hT I25 x0 (by omega) (by omega) v30) rfl rfl (Nat.le_of_ble_eq_true rfl) (by decide) rfl rfl 74 rfl (fun rv h1 q32 => ?_)
  obtain ⟨v33, rfl, rfl, pv33, qv33, rv33⟩ := q32
  replace rv33 : v33.toInt = hof (m24 128) (m24 125) (40 * x0.toInt.toNat) (40 * x0.toInt.toNat) v30.toInt (m24 124 x0.toInt.toNat).toInt.toNat := rv33
  show PV _ _ _ _ _ _ _ 74 [.ref 123, .int x0, .int x1, .int x2, .int v2] [.int v33, .int 4, .ref 142] _
  have k74 : v33.toInt = hof (m 128) (m 125) (40 * x0.toInt.toNat) (40 * x0.toInt.toNat) (m 125 (40 * x0.toInt.toNat + v2.toInt.toNat)).toInt (m 124 x0.toInt.toNat).toInt.toNat := by rw [rv33, k71, show m24 128 = m 128 from funext fun j => K26 128 j rfl, show m24 125 = m 125 from funext fun j => K26 125 j rfl, show m24 124 = m 124 from funext fun j => K26 124 j rfl]
  refine iv_iast (M := mX12_feels) (X := 4) (l1 := (-2147483648)) (l2 := 2147483647) dX12_feels_74 (tl142 hT) (by decide) (by omega) (by omega) I25 (fun _ => rfl) (iv_rng v33).1 (iv_rng v33).2 75 rfl (fun m35 e38 I36 => ?_)
  have K37 := K26.set e38 rfl
  refine pv_aload_n (M := mX12_feels) 0 dX12_feels_75 76 rfl rfl rfl ?_
  refine mv_get (M := mX12_feels) (v := .ref 142) dX12_feels_76 FX12 33 wd1206 (by decide) (tl123 hT) rfl rfl 79 rfl ?_
  refine pv_iconst (M := mX12_feels) (v := 5) dX12_feels_79 80 rfl (by decide) ?_
  refine pv_iload_n (M := mX12_feels) 3 dX12_feels_80 81 rfl rfl rfl ?_
  refine iv_iast (M := mX12_feels) (X := 5) (l1 := (-2147483648)) (l2 := 2147483647) dX12_feels_81 (tl142 hT) (by decide) (by omega) (by omega) I36 (fun _ => rfl) (iv_rng x2).1 (iv_rng x2).2 82 rfl (fun m39 e42 I40 => ?_)
  have K41 := K37.set e42 rfl
  refine pv_aload_n (M := mX12_feels) 0 dX12_feels_82 83 rfl rfl rfl ?_
  refine mv_get (M := mX12_feels) (v := .ref 142) dX12_feels_83 FX12 33 wd1206 (by decide) (tl123 hT) rfl rfl 86 rfl ?_
  refine pv_bipush (M := mX12_feels) (v := 6) dX12_feels_86 88 rfl (by decide) ?_
  refine pv_aload_n (M := mX12_feels) 0 dX12_feels_88 89 rfl rfl rfl ?_
  refine iv_get (M := mX12_feels) (l1 := 0) (l2 := 999) dX12_feels_89 FX12 1 wd1174 (by decide) (tl123 hT) rfl I40 rfl 92 rfl (fun v43 ev43 pv43 qv43 => ?_)
  have k92 : v43 = m 123 1 := ev43.trans (K41 123 1 rfl)
  refine iv_iast (M := mX12_feels) (X := 6) (l1 := (-2147483648)) (l2 := 2147483647) dX12_feels_92 (tl142 hT) (by decide) (by omega) (by omega) I40 (fun _ => rfl) (iv_rng v43).1 (iv_rng v43).2 93 rfl (fun m45 e48 I46 => ?_)
  have K47 := K41.set e48 rfl
  refine pv_aload_n (M := mX12_feels) 0 dX12_feels_93 94 rfl rfl rfl ?_
  refine mv_get (M := mX12_feels) (v := .ref 142) dX12_feels_94 FX12 33 wd1206 (by decide) (tl123 hT) rfl rfl 97 rfl ?_
  refine pv_bipush (M := mX12_feels) (v := 7) dX12_feels_97 99 rfl (by decide) ?_
  refine pv_iload_n (M := mX12_feels) 1 dX12_feels_99 100 rfl rfl rfl ?_
  refine iv_iast (M := mX12_feels) (X := 7) (l1 := (-2147483648)) (l2 := 2147483647) dX12_feels_100 (tl142 hT) (by decide) (by omega) (by omega) I46 (fun _ => rfl) (iv_rng x0).1 (iv_rng x0).2 101 rfl (fun m49 e52 I50 => ?_)
  have K51 := K47.set e52 rfl
  refine pv_aload_n (M := mX12_feels) 0 dX12_feels_101 102 rfl rfl rfl ?_
  refine mv_get (M := mX12_feels) (v := .ref 142) dX12_feels_102 FX12 33 wd1206 (by decide) (tl123 hT) rfl rfl 105 rfl ?_
  refine pv_bipush (M := mX12_feels) (v := 8) dX12_feels_105 107 rfl (by decide) ?_
  refine pv_aload_n (M := mX12_feels) 0 dX12_feels_107 108 rfl rfl rfl ?_
  refine pv_iload_n (M := mX12_feels) 1 dX12_feels_108 109 rfl rfl rfl ?_
  refine pv_iload (M := mX12_feels) dX12_feels_109 111 rfl rfl ?_
  refine pv_iconst (M := mX12_feels) (v := 1) dX12_feels_111 112 rfl (by decide) ?_
  refine iv_isub (M := mX12_feels) (X := v2.toInt) (Y := 1) dX12_feels_112 113 rfl rfl (by decide) (by omega) (by omega) (fun v53 ev53 => ?_)
  have k113 : v53.toInt = v2.toInt - 1 := by omega
  refine pv_callv (M := mX12_feels) (as := [.int x0, .int v53]) (st := [.int 8, .ref 142]) (kc2 := 0) (ks2 := 0) dX12_feels_113 wd1511 YX12_isStruckAt ⟨wd1513, wd80⟩ (mk_get (tl123 hT)) rfl rfl (s_X12_isStruckAt_vz g hT I50 x0 (by omega) (by omega) v53 (by omega) (by omega)) rfl rfl (Nat.le_of_ble_eq_true rfl) (by decide) rfl rfl 116 rfl (fun rv h1 q55 => ?_)
  obtain ⟨v56, rfl, rfl, pv56, qv56, rv56⟩ := q55
  replace rv56 : v56.toInt = gon (m49 128) (40 * x0.toInt.toNat) (m49 124 x0.toInt.toNat).toInt.toNat v53.toInt := rv56
  show PV _ _ _ _ _ _ _ 116 [.ref 123, .int x0, .int x1, .int x2, .int v2] [.int v56, .int 8, .ref 142] _
  have k116 : v56.toInt = gon (m 128) (40 * x0.toInt.toNat) (m 124 x0.toInt.toNat).toInt.toNat (v2.toInt - 1) := by rw [rv56, k113, show m49 128 = m 128 from funext fun j => K51 128 j rfl, show m49 124 = m 124 from funext fun j => K51 124 j rfl]
  refine pv_if_eq (M := mX12_feels) (tgt := 123) dX12_feels_116 119 rfl (by decide) (fun c58 => ?_) (fun c58 => ?_)
  · have c58 := iv_eq (X := v56.toInt) (Y := 0) c58 rfl (by decide)
    refine pv_iconst (M := mX12_feels) (v := 0) dX12_feels_123 124 rfl (by decide) ?_
    refine iv_iast (M := mX12_feels) (X := 8) (l1 := (-2147483648)) (l2 := 2147483647) dX12_feels_124 (tl142 hT) (by decide) (by omega) (by omega) I50 (fun _ => rfl) (by decide) (by decide) 125 rfl (fun m59 e62 I60 => ?_)
    have K61 := K51.set e62 rfl
    refine pv_aload_n (M := mX12_feels) 0 dX12_feels_125 126 rfl rfl rfl ?_
    refine mv_get (M := mX12_feels) (v := .ref 142) dX12_feels_126 FX12 33 wd1206 (by decide) (tl123 hT) rfl rfl 129 rfl ?_
    refine pv_bipush (M := mX12_feels) (v := 9) dX12_feels_129 131 rfl (by decide) ?_
    refine pv_aload_n (M := mX12_feels) 0 dX12_feels_131 132 rfl rfl rfl ?_
    refine pv_iload_n (M := mX12_feels) 1 dX12_feels_132 133 rfl rfl rfl ?_
    refine pv_iload (M := mX12_feels) dX12_feels_133 135 rfl rfl ?_
    refine pv_iconst (M := mX12_feels) (v := 1) dX12_feels_135 136 rfl (by decide) ?_
    refine iv_iadd (M := mX12_feels) (X := v2.toInt) (Y := 1) dX12_feels_136 137 rfl rfl (by decide) (by omega) (by omega) (fun v63 ev63 => ?_)
    have k137 : v63.toInt = v2.toInt + 1 := by omega
    refine pv_callv (M := mX12_feels) (as := [.int x0, .int v63]) (st := [.int 9, .ref 142]) (kc2 := 0) (ks2 := 0) dX12_feels_137 wd1511 YX12_isStruckAt ⟨wd1513, wd80⟩ (mk_get (tl123 hT)) rfl rfl (s_X12_isStruckAt_vz g hT I60 x0 (by omega) (by omega) v63 (by omega) (by omega)) rfl rfl (Nat.le_of_ble_eq_true rfl) (by decide) rfl rfl 140 rfl (fun rv h1 q65 => ?_)
    obtain ⟨v66, rfl, rfl, pv66, qv66, rv66⟩ := q65
    replace rv66 : v66.toInt = gon (m59 128) (40 * x0.toInt.toNat) (m59 124 x0.toInt.toNat).toInt.toNat v63.toInt := rv66
    show PV _ _ _ _ _ _ _ 140 [.ref 123, .int x0, .int x1, .int x2, .int v2] [.int v66, .int 9, .ref 142] _
    have k140 : v66.toInt = gon (m 128) (40 * x0.toInt.toNat) (m 124 x0.toInt.toNat).toInt.toNat (v2.toInt + 1) := by rw [rv66, k137, show m59 128 = m 128 from funext fun j => K61 128 j rfl, show m59 124 = m 124 from funext fun j => K61 124 j rfl]
    refine pv_if_eq (M := mX12_feels) (tgt := 147) dX12_feels_140 143 rfl (by decide) (fun c68 => ?_) (fun c68 => ?_)
    · have c68 := iv_eq (X := v66.toInt) (Y := 0) c68 rfl (by decide)
      refine pv_iconst (M := mX12_feels) (v := 0) dX12_feels_147 148 rfl (by decide) ?_
      refine iv_iast (M := mX12_feels) (X := 9) (l1 := (-2147483648)) (l2 := 2147483647) dX12_feels_148 (tl142 hT) (by decide) (by omega) (by omega) I60 (fun _ => rfl) (by decide) (by decide) 149 rfl (fun m69 e72 I70 => ?_)
      have K71 := K61.set e72 rfl
      exact pv_vret (M := mX12_feels) dX12_feels_149 rfl ⟨_, _, rfl, rfl, I70, K71, (FCT_rf (b := x0.toInt) (w := v2.toInt) kN (by omega) (by rw [e72, up2_ne (by omega), e62, up2_ne (by omega), e52, up2_ne (by omega), e48, up2_ne (by omega), e42, up2_ne (by omega), e38, up2_ne (by omega), e27, up2_ne (by omega), e20, up2_ne (by omega), e16, up2_ne (by omega), e12, up2_at (by omega)]; exact k25) (by rw [e72, up2_ne (by omega), e62, up2_ne (by omega), e52, up2_ne (by omega), e48, up2_ne (by omega), e42, up2_ne (by omega), e38, up2_ne (by omega), e27, up2_ne (by omega), e20, up2_ne (by omega), e16, up2_at (by omega)]) (by rw [e72, up2_ne (by omega), e62, up2_ne (by omega), e52, up2_ne (by omega), e48, up2_ne (by omega), e42, up2_ne (by omega), e38, up2_ne (by omega), e27, up2_ne (by omega), e20, up2_at (by omega)]) (by rw [e72, up2_ne (by omega), e62, up2_ne (by omega), e52, up2_ne (by omega), e48, up2_ne (by omega), e42, up2_ne (by omega), e38, up2_ne (by omega), e27, up2_at (by omega)]; exact k51) (by rw [e72, up2_ne (by omega), e62, up2_ne (by omega), e52, up2_ne (by omega), e48, up2_ne (by omega), e42, up2_ne (by omega), e38, up2_at (by omega)]; exact k74) (by rw [e72, up2_ne (by omega), e62, up2_ne (by omega), e52, up2_ne (by omega), e48, up2_ne (by omega), e42, up2_at (by omega)]) (by rw [e72, up2_ne (by omega), e62, up2_ne (by omega), e52, up2_ne (by omega), e48, up2_at (by omega)]; rw [k92]) (by rw [e72, up2_ne (by omega), e62, up2_ne (by omega), e52, up2_at (by omega)]) (by rw [e72, up2_ne (by omega), e62, up2_at (by omega)]; rw [← k116]; first | (rw [Int32.toInt_zero]; omega) | (have z1 : (1 : Int32).toInt = 1 := (by decide); omega)) (by rw [e72, up2_at (by omega)]; rw [← k140]; first | (rw [Int32.toInt_zero]; omega) | (have z1 : (1 : Int32).toInt = 1 := (by decide); omega)) rfl rfl)⟩
    · have c68 := iv_ne (X := v66.toInt) (Y := 0) c68 rfl (by decide)
      refine pv_iconst (M := mX12_feels) (v := 1) dX12_feels_143 144 rfl (by decide) ?_
      refine pv_goto (M := mX12_feels) (tgt := 148) dX12_feels_144 (by decide) ?_
      refine iv_iast (M := mX12_feels) (X := 9) (l1 := (-2147483648)) (l2 := 2147483647) dX12_feels_148 (tl142 hT) (by decide) (by omega) (by omega) I60 (fun _ => rfl) (by decide) (by decide) 149 rfl (fun m73 e76 I74 => ?_)
      have K75 := K61.set e76 rfl
      exact pv_vret (M := mX12_feels) dX12_feels_149 rfl ⟨_, _, rfl, rfl, I74, K75, (FCT_rf (b := x0.toInt) (w := v2.toInt) kN (by omega) (by rw [e76, up2_ne (by omega), e62, up2_ne (by omega), e52, up2_ne (by omega), e48, up2_ne (by omega), e42, up2_ne (by omega), e38, up2_ne (by omega), e27, up2_ne (by omega), e20, up2_ne (by omega), e16, up2_ne (by omega), e12, up2_at (by omega)]; exact k25) (by rw [e76, up2_ne (by omega), e62, up2_ne (by omega), e52, up2_ne (by omega), e48, up2_ne (by omega), e42, up2_ne (by omega), e38, up2_ne (by omega), e27, up2_ne (by omega), e20, up2_ne (by omega), e16, up2_at (by omega)]) (by rw [e76, up2_ne (by omega), e62, up2_ne (by omega), e52, up2_ne (by omega), e48, up2_ne (by omega), e42, up2_ne (by omega), e38, up2_ne (by omega), e27, up2_ne (by omega), e20, up2_at (by omega)]) (by rw [e76, up2_ne (by omega), e62, up2_ne (by omega), e52, up2_ne (by omega), e48, up2_ne (by omega), e42, up2_ne (by omega), e38, up2_ne (by omega), e27, up2_at (by omega)]; exact k51) (by rw [e76, up2_ne (by omega), e62, up2_ne (by omega), e52, up2_ne (by omega), e48, up2_ne (by omega), e42, up2_ne (by omega), e38, up2_at (by omega)]; exact k74) (by rw [e76, up2_ne (by omega), e62, up2_ne (by omega), e52, up2_ne (by omega), e48, up2_ne (by omega), e42, up2_at (by omega)]) (by rw [e76, up2_ne (by omega), e62, up2_ne (by omega), e52, up2_ne (by omega), e48, up2_at (by omega)]; rw [k92]) (by rw [e76, up2_ne (by omega), e62, up2_ne (by omega), e52, up2_at (by omega)]) (by rw [e76, up2_ne (by omega), e62, up2_at (by omega)]; rw [← k116]; first | (rw [Int32.toInt_zero]; omega) | (have z1 : (1 : Int32).toInt = 1 := (by decide); omega)) (by rw [e76, up2_at (by omega)]; rw [← k140]; first | (rw [Int32.toInt_zero]; omega) | (have z1 : (1 : Int32).toInt = 1 := (by decide); omega)) rfl rfl)⟩
  · have c58 := iv_ne (X := v56.toInt) (Y := 0) c58 rfl (by decide)
    refine pv_iconst (M := mX12_feels) (v := 1) dX12_feels_119 120 rfl (by decide) ?_
    refine pv_goto (M := mX12_feels) (tgt := 124) dX12_feels_120 (by decide) ?_
    refine iv_iast (M := mX12_feels) (X := 8) (l1 := (-2147483648)) (l2 := 2147483647) dX12_feels_124 (tl142 hT) (by decide) (by omega) (by omega) I50 (fun _ => rfl) (by decide) (by decide) 125 rfl (fun m77 e80 I78 => ?_)
    have K79 := K51.set e80 rfl
    refine pv_aload_n (M := mX12_feels) 0 dX12_feels_125 126 rfl rfl rfl ?_
    refine mv_get (M := mX12_feels) (v := .ref 142) dX12_feels_126 FX12 33 wd1206 (by decide) (tl123 hT) rfl rfl 129 rfl ?_
    refine pv_bipush (M := mX12_feels) (v := 9) dX12_feels_129 131 rfl (by decide) ?_
    refine pv_aload_n (M := mX12_feels) 0 dX12_feels_131 132 rfl rfl rfl ?_
    refine pv_iload_n (M := mX12_feels) 1 dX12_feels_132 133 rfl rfl rfl ?_
    refine pv_iload (M := mX12_feels) dX12_feels_133 135 rfl rfl ?_
    refine pv_iconst (M := mX12_feels) (v := 1) dX12_feels_135 136 rfl (by decide) ?_
    refine iv_iadd (M := mX12_feels) (X := v2.toInt) (Y := 1) dX12_feels_136 137 rfl rfl (by decide) (by omega) (by omega) (fun v81 ev81 => ?_)
    have k137 : v81.toInt = v2.toInt + 1 := by omega
    refine pv_callv (M := mX12_feels) (as := [.int x0, .int v81]) (st := [.int 9, .ref 142]) (kc2 := 0) (ks2 := 0) dX12_feels_137 wd1511 YX12_isStruckAt ⟨wd1513, wd80⟩ (mk_get (tl123 hT)) rfl rfl (s_X12_isStruckAt_vz g hT I78 x0 (by omega) (by omega) v81 (by omega) (by omega)) rfl rfl (Nat.le_of_ble_eq_true rfl) (by decide) rfl rfl 140 rfl (fun rv h1 q83 => ?_)
    obtain ⟨v84, rfl, rfl, pv84, qv84, rv84⟩ := q83
    replace rv84 : v84.toInt = gon (m77 128) (40 * x0.toInt.toNat) (m77 124 x0.toInt.toNat).toInt.toNat v81.toInt := rv84
    show PV _ _ _ _ _ _ _ 140 [.ref 123, .int x0, .int x1, .int x2, .int v2] [.int v84, .int 9, .ref 142] _
    have k140 : v84.toInt = gon (m 128) (40 * x0.toInt.toNat) (m 124 x0.toInt.toNat).toInt.toNat (v2.toInt + 1) := by rw [rv84, k137, show m77 128 = m 128 from funext fun j => K79 128 j rfl, show m77 124 = m 124 from funext fun j => K79 124 j rfl]
    refine pv_if_eq (M := mX12_feels) (tgt := 147) dX12_feels_140 143 rfl (by decide) (fun c86 => ?_) (fun c86 => ?_)
    · have c86 := iv_eq (X := v84.toInt) (Y := 0) c86 rfl (by decide)
      refine pv_iconst (M := mX12_feels) (v := 0) dX12_feels_147 148 rfl (by decide) ?_
      refine iv_iast (M := mX12_feels) (X := 9) (l1 := (-2147483648)) (l2 := 2147483647) dX12_feels_148 (tl142 hT) (by decide) (by omega) (by omega) I78 (fun _ => rfl) (by decide) (by decide) 149 rfl (fun m87 e90 I88 => ?_)
      have K89 := K79.set e90 rfl
      exact pv_vret (M := mX12_feels) dX12_feels_149 rfl ⟨_, _, rfl, rfl, I88, K89, (FCT_rf (b := x0.toInt) (w := v2.toInt) kN (by omega) (by rw [e90, up2_ne (by omega), e80, up2_ne (by omega), e52, up2_ne (by omega), e48, up2_ne (by omega), e42, up2_ne (by omega), e38, up2_ne (by omega), e27, up2_ne (by omega), e20, up2_ne (by omega), e16, up2_ne (by omega), e12, up2_at (by omega)]; exact k25) (by rw [e90, up2_ne (by omega), e80, up2_ne (by omega), e52, up2_ne (by omega), e48, up2_ne (by omega), e42, up2_ne (by omega), e38, up2_ne (by omega), e27, up2_ne (by omega), e20, up2_ne (by omega), e16, up2_at (by omega)]) (by rw [e90, up2_ne (by omega), e80, up2_ne (by omega), e52, up2_ne (by omega), e48, up2_ne (by omega), e42, up2_ne (by omega), e38, up2_ne (by omega), e27, up2_ne (by omega), e20, up2_at (by omega)]) (by rw [e90, up2_ne (by omega), e80, up2_ne (by omega), e52, up2_ne (by omega), e48, up2_ne (by omega), e42, up2_ne (by omega), e38, up2_ne (by omega), e27, up2_at (by omega)]; exact k51) (by rw [e90, up2_ne (by omega), e80, up2_ne (by omega), e52, up2_ne (by omega), e48, up2_ne (by omega), e42, up2_ne (by omega), e38, up2_at (by omega)]; exact k74) (by rw [e90, up2_ne (by omega), e80, up2_ne (by omega), e52, up2_ne (by omega), e48, up2_ne (by omega), e42, up2_at (by omega)]) (by rw [e90, up2_ne (by omega), e80, up2_ne (by omega), e52, up2_ne (by omega), e48, up2_at (by omega)]; rw [k92]) (by rw [e90, up2_ne (by omega), e80, up2_ne (by omega), e52, up2_at (by omega)]) (by rw [e90, up2_ne (by omega), e80, up2_at (by omega)]; rw [← k116]; first | (rw [Int32.toInt_zero]; omega) | (have z1 : (1 : Int32).toInt = 1 := (by decide); omega)) (by rw [e90, up2_at (by omega)]; rw [← k140]; first | (rw [Int32.toInt_zero]; omega) | (have z1 : (1 : Int32).toInt = 1 := (by decide); omega)) rfl rfl)⟩
    · have c86 := iv_ne (X := v84.toInt) (Y := 0) c86 rfl (by decide)
      refine pv_iconst (M := mX12_feels) (v := 1) dX12_feels_143 144 rfl (by decide) ?_
      refine pv_goto (M := mX12_feels) (tgt := 148) dX12_feels_144 (by decide) ?_
      refine iv_iast (M := mX12_feels) (X := 9) (l1 := (-2147483648)) (l2 := 2147483647) dX12_feels_148 (tl142 hT) (by decide) (by omega) (by omega) I78 (fun _ => rfl) (by decide) (by decide) 149 rfl (fun m91 e94 I92 => ?_)
      have K93 := K79.set e94 rfl
      exact pv_vret (M := mX12_feels) dX12_feels_149 rfl ⟨_, _, rfl, rfl, I92, K93, (FCT_rf (b := x0.toInt) (w := v2.toInt) kN (by omega) (by rw [e94, up2_ne (by omega), e80, up2_ne (by omega), e52, up2_ne (by omega), e48, up2_ne (by omega), e42, up2_ne (by omega), e38, up2_ne (by omega), e27, up2_ne (by omega), e20, up2_ne (by omega), e16, up2_ne (by omega), e12, up2_at (by omega)]; exact k25) (by rw [e94, up2_ne (by omega), e80, up2_ne (by omega), e52, up2_ne (by omega), e48, up2_ne (by omega), e42, up2_ne (by omega), e38, up2_ne (by omega), e27, up2_ne (by omega), e20, up2_ne (by omega), e16, up2_at (by omega)]) (by rw [e94, up2_ne (by omega), e80, up2_ne (by omega), e52, up2_ne (by omega), e48, up2_ne (by omega), e42, up2_ne (by omega), e38, up2_ne (by omega), e27, up2_ne (by omega), e20, up2_at (by omega)]) (by rw [e94, up2_ne (by omega), e80, up2_ne (by omega), e52, up2_ne (by omega), e48, up2_ne (by omega), e42, up2_ne (by omega), e38, up2_ne (by omega), e27, up2_at (by omega)]; exact k51) (by rw [e94, up2_ne (by omega), e80, up2_ne (by omega), e52, up2_ne (by omega), e48, up2_ne (by omega), e42, up2_ne (by omega), e38, up2_at (by omega)]; exact k74) (by rw [e94, up2_ne (by omega), e80, up2_ne (by omega), e52, up2_ne (by omega), e48, up2_ne (by omega), e42, up2_at (by omega)]) (by rw [e94, up2_ne (by omega), e80, up2_ne (by omega), e52, up2_ne (by omega), e48, up2_at (by omega)]; rw [k92]) (by rw [e94, up2_ne (by omega), e80, up2_ne (by omega), e52, up2_at (by omega)]) (by rw [e94, up2_ne (by omega), e80, up2_at (by omega)]; rw [← k116]; first | (rw [Int32.toInt_zero]; omega) | (have z1 : (1 : Int32).toInt = 1 := (by decide); omega)) (by rw [e94, up2_at (by omega)]; rw [← k140]; first | (rw [Int32.toInt_zero]; omega) | (have z1 : (1 : Int32).toInt = 1 := (by decide); omega)) rfl rfl)⟩
