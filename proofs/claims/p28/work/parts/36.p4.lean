set_option maxHeartbeats 2000000 in
set_option maxRecDepth 20000 in
theorem s_X12_readsClause (g : pv_G) {T : List mv_T} {m : Nat → Nat → Int32} {n : Nat → Nat → Int64} {r : Nat → Value} (hT : TX T) (I : IV BB m) (hp0 : (m 123 16).toInt ≤ (m 123 12).toInt) (hp1 : (m 123 12).toInt ≤ (m 123 13).toInt) (hp2 : SX m) : PM g mX12_readsClause yX12_readsClause (sqI T BB (wl [(123, 123, some 12), (123, 123, some 14), (123, 123, some 15), (123, 123, some 16), (123, 123, some 17), (123, 123, some 18), (123, 123, some 19), (130, 130, none), (131, 131, none), (132, 132, none), (133, 133, none), (134, 134, none), (135, 135, none)]) r m 0 1 (fun m' v => v.toInt = 0 ∨ (SX m' ∧ (m' 123 16).toInt ≤ (m' 123 12).toInt ∧ (m 123 12).toInt + 1 ≤ (m' 123 12).toInt ∧ (m' 123 12).toInt ≤ (m' 123 13).toInt ∧ (m' 123 13).toInt = (m 123 13).toInt))) 8 0 0 [.ref 123] (mk T m n r) := by
  have Kp : fr (wl [(123, 123, some 12), (123, 123, some 14), (123, 123, some 15), (123, 123, some 16), (123, 123, some 17), (123, 123, some 18), (123, 123, some 19), (130, 130, none), (131, 131, none), (132, 132, none), (133, 133, none), (134, 134, none), (135, 135, none)]) m m := fr.rf
  have z291 : 0 ≤ (m 123 12).toInt ∧ (m 123 12).toInt ≤ 160 := I 123 12
  have z292 : 0 ≤ (m 123 13).toInt ∧ (m 123 13).toInt ≤ 160 := I 123 13
  have z293 : 0 ≤ (m 123 16).toInt ∧ (m 123 16).toInt ≤ 180 := I 123 16
  have z294 : 0 ≤ (m 123 17).toInt ∧ (m 123 17).toInt ≤ 180 := I 123 17
  have z295 : 0 ≤ (m 123 18).toInt ∧ (m 123 18).toInt ≤ 12 := I 123 18
  refine PM.of 1 (lo := [.ref 123, pv_U]) rfl (by decide) rfl rfl (Nat.le_of_ble_eq_true rfl) ?_
  refine pv_aload_n (M := mX12_readsClause) 0 dX12_readsClause_0 1 rfl rfl rfl ?_
  refine pv_callv (M := mX12_readsClause) (as := []) (st := []) (kc2 := 0) (ks2 := 0) dX12_readsClause_1 wd1417 YX12_here ⟨wd1419, wd60⟩ (mk_get (tl123 hT)) rfl rfl (s_X12_here g hT I) rfl rfl (Nat.le_of_ble_eq_true rfl) (by decide) rfl rfl 4 rfl (fun rv h1 q1 => ?_)
  obtain ⟨v2, rfl, rfl, pv2, qv2, rv2⟩ := q1
  replace rv2 : v2.toInt = hereV m ∧ (v2.toInt = -1 ∨ (m 123 12).toInt < (m 123 13).toInt) := rv2
  show PV _ _ _ _ _ _ _ 4 [.ref 123, pv_U] [.int v2] _
  refine pv_istore_n (M := mX12_readsClause) 1 (lo2 := [.ref 123, .int v2]) dX12_readsClause_4 5 rfl rfl (by decide) rfl rfl ?_
  refine pv_iload_n (M := mX12_readsClause) 1 dX12_readsClause_5 6 rfl rfl rfl ?_
  refine pv_bipush (M := mX12_readsClause) (v := 110) dX12_readsClause_6 8 rfl (by decide) ?_
  refine pv_icmp_eq (M := mX12_readsClause) (tgt := 27) dX12_readsClause_8 11 rfl (by decide) (fun c3 => ?_) (fun c3 => ?_)
  · have c3 := iv_eq (X := v2.toInt) (Y := 110) c3 rfl (by decide)
    refine pv_aload_n (M := mX12_readsClause) 0 dX12_readsClause_27 28 rfl rfl rfl ?_
    refine iv_get (M := mX12_readsClause) (l1 := 0) (l2 := 12) dX12_readsClause_28 FX12 18 wd1191 (by decide) (tl123 hT) rfl I rfl 31 rfl (fun v4 ev4 pv4 qv4 => ?_)
    have wv4 : v4.toInt = (m 123 18).toInt := congrArg Int32.toInt ev4
    refine pv_bipush (M := mX12_readsClause) (v := 12) dX12_readsClause_31 33 rfl (by decide) ?_
    refine pv_icmp_ne (M := mX12_readsClause) (tgt := 46) dX12_readsClause_33 36 rfl (by decide) (fun c5 => ?_) (fun c5 => ?_)
    · have c5 := iv_ne (X := v4.toInt) (Y := 12) c5 rfl (by decide)
      refine pv_aload_n (M := mX12_readsClause) 0 dX12_readsClause_46 47 rfl rfl rfl ?_
      refine mv_get (M := mX12_readsClause) (v := .ref 132) dX12_readsClause_47 FX12 23 wd1196 (by decide) (tl123 hT) rfl rfl 50 rfl ?_
      refine pv_aload_n (M := mX12_readsClause) 0 dX12_readsClause_50 51 rfl rfl rfl ?_
      refine iv_get (M := mX12_readsClause) (l1 := 0) (l2 := 12) dX12_readsClause_51 FX12 18 wd1191 (by decide) (tl123 hT) rfl I rfl 54 rfl (fun v6 ev6 pv6 qv6 => ?_)
      have wv6 : v6.toInt = (m 123 18).toInt := congrArg Int32.toInt ev6
      refine pv_iload_n (M := mX12_readsClause) 1 dX12_readsClause_54 55 rfl rfl rfl ?_
      refine iv_iast (M := mX12_readsClause) (X := v6.toInt) (l1 := (-2147483648)) (l2 := 2147483647) dX12_readsClause_55 (tl132 hT) rfl (by omega) (by omega) I (fun _ => rfl) (iv_rng v2).1 (iv_rng v2).2 56 rfl (fun m7 e10 I8 => ?_)
      have K9 := Kp.set e10 rfl
      have w11 : (m7 123 12).toInt = (m 123 12).toInt := by rw [e10, up2_ne (by omega)]
      have w12 : (m7 123 13).toInt = (m 123 13).toInt := by rw [e10, up2_ne (by omega)]
      have w13 : (m7 123 16).toInt = (m 123 16).toInt := by rw [e10, up2_ne (by omega)]
      have w14 : (m7 123 17).toInt = (m 123 17).toInt := by rw [e10, up2_ne (by omega)]
      have w15 : (m7 123 18).toInt = (m 123 18).toInt := by rw [e10, up2_ne (by omega)]
      have e1 := e10
      refine pv_aload_n (M := mX12_readsClause) 0 dX12_readsClause_56 57 rfl rfl rfl ?_
      refine pv_aload_n (M := mX12_readsClause) 0 dX12_readsClause_57 58 rfl rfl rfl ?_
      refine iv_get (M := mX12_readsClause) (l1 := 0) (l2 := 160) dX12_readsClause_58 FX12 12 wd1185 (by decide) (tl123 hT) rfl I8 rfl 61 rfl (fun v17 ev17 pv17 qv17 => ?_)
      have wv17 : v17.toInt = (m7 123 12).toInt := congrArg Int32.toInt ev17
      refine pv_iconst (M := mX12_readsClause) (v := 1) dX12_readsClause_61 62 rfl (by decide) ?_
      refine iv_iadd (M := mX12_readsClause) (X := v17.toInt) (Y := 1) dX12_readsClause_62 63 rfl rfl (by decide) (by omega) (by omega) (fun v18 ev18 => ?_)
      refine iv_put (M := mX12_readsClause) (l1 := 0) (l2 := 160) dX12_readsClause_63 FX12 12 wd1185 (by decide) rfl (tl123 hT) rfl rfl rfl I8 rfl (by omega) (by omega) 66 rfl (fun m19 e22 I20 => ?_)
      have K21 := K9.set e22 rfl
      have w23 : (m19 123 12).toInt = v18.toInt := by rw [e22, up2_eq]
      have w24 : (m19 123 13).toInt = (m7 123 13).toInt := by rw [e22, up2_ne (by omega)]
      have w25 : (m19 123 16).toInt = (m7 123 16).toInt := by rw [e22, up2_ne (by omega)]
      have w26 : (m19 123 17).toInt = (m7 123 17).toInt := by rw [e22, up2_ne (by omega)]
      have w27 : (m19 123 18).toInt = (m7 123 18).toInt := by rw [e22, up2_ne (by omega)]
      have e2 := e22
      refine pv_aload_n (M := mX12_readsClause) 0 dX12_readsClause_66 67 rfl rfl rfl ?_
      refine mv_get (M := mX12_readsClause) (v := .ref 133) dX12_readsClause_67 FX12 24 wd1197 (by decide) (tl123 hT) rfl rfl 70 rfl ?_
      refine pv_aload_n (M := mX12_readsClause) 0 dX12_readsClause_70 71 rfl rfl rfl ?_
      refine iv_get (M := mX12_readsClause) (l1 := 0) (l2 := 12) dX12_readsClause_71 FX12 18 wd1191 (by decide) (tl123 hT) rfl I20 rfl 74 rfl (fun v29 ev29 pv29 qv29 => ?_)
      have wv29 : v29.toInt = (m19 123 18).toInt := congrArg Int32.toInt ev29
      refine pv_aload_n (M := mX12_readsClause) 0 dX12_readsClause_74 75 rfl rfl rfl ?_
      refine iv_get (M := mX12_readsClause) (l1 := 0) (l2 := 180) dX12_readsClause_75 FX12 16 wd1189 (by decide) (tl123 hT) rfl I20 rfl 78 rfl (fun v30 ev30 pv30 qv30 => ?_)
      have wv30 : v30.toInt = (m19 123 16).toInt := congrArg Int32.toInt ev30
      refine iv_iast (M := mX12_readsClause) (X := v29.toInt) (l1 := 0) (l2 := 180) dX12_readsClause_78 (tl133 hT) rfl (by omega) (by omega) I20 (fun _ => rfl) (by omega) (by omega) 79 rfl (fun m31 e34 I32 => ?_)
      have K33 := K21.set e34 rfl
      have w35 : (m31 123 12).toInt = (m19 123 12).toInt := by rw [e34, up2_ne (by omega)]
      have w36 : (m31 123 13).toInt = (m19 123 13).toInt := by rw [e34, up2_ne (by omega)]
      have w37 : (m31 123 16).toInt = (m19 123 16).toInt := by rw [e34, up2_ne (by omega)]
      have w38 : (m31 123 17).toInt = (m19 123 17).toInt := by rw [e34, up2_ne (by omega)]
      have w39 : (m31 123 18).toInt = (m19 123 18).toInt := by rw [e34, up2_ne (by omega)]
      have e3 := e34
      refine pv_aload_n (M := mX12_readsClause) 0 dX12_readsClause_79 80 rfl rfl rfl ?_
      refine pv_iconst (M := mX12_readsClause) (v := 0) dX12_readsClause_80 81 rfl (by decide) ?_
      refine iv_put (M := mX12_readsClause) (l1 := (-2147483648)) (l2 := 2147483647) dX12_readsClause_81 FX12 15 wd1188 (by decide) rfl (tl123 hT) rfl rfl rfl I32 rfl (by decide) (by decide) 84 rfl (fun m41 e44 I42 => ?_)
      have K43 := K33.set e44 rfl
      have w45 : (m41 123 12).toInt = (m31 123 12).toInt := by rw [e44, up2_ne (by omega)]
      have w46 : (m41 123 13).toInt = (m31 123 13).toInt := by rw [e44, up2_ne (by omega)]
      have w47 : (m41 123 16).toInt = (m31 123 16).toInt := by rw [e44, up2_ne (by omega)]
      have w48 : (m41 123 17).toInt = (m31 123 17).toInt := by rw [e44, up2_ne (by omega)]
      have w49 : (m41 123 18).toInt = (m31 123 18).toInt := by rw [e44, up2_ne (by omega)]
      have e4 := e44
      refine pv_aload_n (M := mX12_readsClause) 0 dX12_readsClause_84 85 rfl rfl rfl ?_
      refine pv_iconst (M := mX12_readsClause) (v := 0) dX12_readsClause_85 86 rfl (by decide) ?_
      refine iv_put (M := mX12_readsClause) (l1 := 0) (l2 := 180) dX12_readsClause_86 FX12 17 wd1190 (by decide) rfl (tl123 hT) rfl rfl rfl I42 rfl (by decide) (by decide) 89 rfl (fun m51 e54 I52 => ?_)
      have K53 := K43.set e54 rfl
      have w55 : (m51 123 12).toInt = (m41 123 12).toInt := by rw [e54, up2_ne (by omega)]
      have w56 : (m51 123 13).toInt = (m41 123 13).toInt := by rw [e54, up2_ne (by omega)]
      have w57 : (m51 123 16).toInt = (m41 123 16).toInt := by rw [e54, up2_ne (by omega)]
      have w58 : (m51 123 17).toInt = 0 := by rw [e54, up2_eq] <;> rfl
      have w59 : (m51 123 18).toInt = (m41 123 18).toInt := by rw [e54, up2_ne (by omega)]
      have e5 := e54
      have s5 := SLK_new (m := m51) (by omega)
      refine pv_iload_n (M := mX12_readsClause) 1 dX12_readsClause_89 90 rfl rfl rfl ?_
      refine pv_bipush (M := mX12_readsClause) (v := 112) dX12_readsClause_90 92 rfl (by decide) ?_
      refine pv_icmp_ne (M := mX12_readsClause) (tgt := 104) dX12_readsClause_92 95 rfl (by decide) (fun c62 => ?_) (fun c62 => ?_)
      · have c62 := iv_ne (X := v2.toInt) (Y := 112) c62 rfl (by decide)
        have q6 : FR4 m51 m51 ∧ KB (m 123 16).toInt m51 m51 ∧ WFc (m51 130) (m 123 16).toInt.toNat (m51 123 16).toInt.toNat ∧ (m 123 16).toInt ≤ (m51 123 16).toInt ∧ 0 ≤ SLK m51 ∧ (m51 123 17).toInt = 0 ∧ (m51 123 12).toInt ≤ (m51 123 12).toInt ∧ (m51 123 12).toInt ≤ (m51 123 13).toInt ∧ (m51 123 13).toInt = (m51 123 13).toInt := by first | (have kS := kR.resolve_left (by omega); have z1 := kS.2.1; have z2 := kS.2.2.2.1; have z3 := kS.2.2.2.2.2.1; have z4 := kS.2.2.2.2.2.2.1; have z5 := kS.2.2.2.2.2.2.2; exact ⟨f6, kS.2.2.1, HW_done kS.1 (show (m51 123 17).toInt = 0 by omega), kS.1.1.2.1, by omega, by omega, by omega, by omega, by omega⟩) | exact ⟨⟨fun _ => rfl, fun _ => rfl, fun _ => rfl, rfl⟩, KB.rf, WFc_nil (by omega), by omega, by rw [s5]; omega, by omega, by omega, by omega, by omega⟩
        have q61 := q6.2.2.2.1
        have q62 := q6.2.2.2.2.2.1
        have q63 := q6.2.2.2.2.2.2.1
        have q64 := q6.2.2.2.2.2.2.2.1
        have q65 := q6.2.2.2.2.2.2.2.2
        refine pv_aload_n (M := mX12_readsClause) 0 dX12_readsClause_104 105 rfl rfl rfl ?_
        refine mv_get (M := mX12_readsClause) (v := .ref 134) dX12_readsClause_105 FX12 25 wd1198 (by decide) (tl123 hT) rfl rfl 108 rfl ?_
        refine pv_aload_n (M := mX12_readsClause) 0 dX12_readsClause_108 109 rfl rfl rfl ?_
        refine iv_get (M := mX12_readsClause) (l1 := 0) (l2 := 12) dX12_readsClause_109 FX12 18 wd1191 (by decide) (tl123 hT) rfl I52 rfl 112 rfl (fun v69 ev69 pv69 qv69 => ?_)
        have wv69 : v69.toInt = (m51 123 18).toInt := congrArg Int32.toInt ev69
        refine pv_aload_n (M := mX12_readsClause) 0 dX12_readsClause_112 113 rfl rfl rfl ?_
        refine iv_get (M := mX12_readsClause) (l1 := 0) (l2 := 180) dX12_readsClause_113 FX12 16 wd1189 (by decide) (tl123 hT) rfl I52 rfl 116 rfl (fun v70 ev70 pv70 qv70 => ?_)
        have wv70 : v70.toInt = (m51 123 16).toInt := congrArg Int32.toInt ev70
        refine iv_iast (M := mX12_readsClause) (X := v69.toInt) (l1 := 0) (l2 := 180) dX12_readsClause_116 (tl134 hT) rfl (by omega) (by omega) I52 (fun _ => rfl) (by omega) (by omega) 117 rfl (fun m71 e74 I72 => ?_)
        have K73 := K53.set e74 rfl
        have w75 : (m71 123 12).toInt = (m51 123 12).toInt := by rw [e74, up2_ne (by omega)]
        have w76 : (m71 123 13).toInt = (m51 123 13).toInt := by rw [e74, up2_ne (by omega)]
        have w77 : (m71 123 16).toInt = (m51 123 16).toInt := by rw [e74, up2_ne (by omega)]
        have w78 : (m71 123 17).toInt = (m51 123 17).toInt := by rw [e74, up2_ne (by omega)]
        have w79 : (m71 123 18).toInt = (m51 123 18).toInt := by rw [e74, up2_ne (by omega)]
        have e7 := e74
        refine pv_aload_n (M := mX12_readsClause) 0 dX12_readsClause_117 118 rfl rfl rfl ?_
        refine pv_callv (M := mX12_readsClause) (as := []) (st := []) (kc2 := 0) (ks2 := 0) dX12_readsClause_118 wd1468 YX12_readsCondition ⟨wd1470, wd71⟩ (mk_get (tl123 hT)) rfl rfl (s_X12_readsCondition g hT I72 ((m51 123 16).toInt) (by rw [SLK_eq (m := m51) (by rw [e74, up2_ne (by omega)]) (by rw [e74, up2_ne (by omega)]) (by rw [e74, up2_ne (by omega)]) (fun j => by rw [e74, up2_ne (by omega)])]; exact q6.2.2.2.2.1) (by first | omega | assumption | exact (iv_rng _).2 | exact (iv_rng _).1 | decide) (by first | omega | assumption | exact (iv_rng _).2 | exact (iv_rng _).1 | decide)) rfl rfl (Nat.le_of_ble_eq_true rfl) (by decide) rfl rfl 121 rfl (fun rv h1 q81 => ?_)
        obtain ⟨m82, n83, v86, rfl, rfl, I84, K85, pv86, qv86, rv86⟩ := q81
        replace rv86 : v86.toInt = 0 ∨ (WFc (m82 130) ((m51 123 16).toInt).toNat (m82 123 16).toInt.toNat ∧ KB ((m51 123 16).toInt) m71 m82 ∧ 0 ≤ SLK m82 ∧ ((m51 123 16).toInt) ≤ (m82 123 16).toInt ∧ (m71 123 12).toInt ≤ (m82 123 12).toInt ∧ (m82 123 12).toInt ≤ (m82 123 13).toInt ∧ (m82 123 13).toInt = (m71 123 13).toInt ∧ (m82 123 17).toInt = 0) := rv86
        have K85c := K85
        have w87 : (m82 123 13).toInt = (m71 123 13).toInt := congrArg Int32.toInt (K85 123 13 rfl)
        have w88 : (m82 123 18).toInt = (m71 123 18).toInt := congrArg Int32.toInt (K85 123 18 rfl)
        have K85 := K73.trans (K85.sub (wl_sub (by decide)))
        show PV _ _ _ _ _ _ _ 121 [.ref 123, .int v2] [.int v86] _
        have kC := rv86
        have f8 : FR4 m71 m82 := ⟨fun j => K85c 133 j rfl, fun j => K85c 134 j rfl, fun j => K85c 135 j rfl, K85c 123 18 rfl⟩
        refine pv_if_ne (M := mX12_readsClause) (tgt := 126) dX12_readsClause_121 124 rfl (by decide) (fun c91 => ?_) (fun c91 => ?_)
        · have c91 := iv_ne (X := v86.toInt) (Y := 0) c91 rfl (by decide)
          have kc := kC.resolve_left (by omega)
          have kc1 := kc.2.2.2.1
          have kc2 : (m82 123 16).toInt ≤ (m82 123 12).toInt := SLK_cm kc.2.2.1
          have kc3 := kc.2.2.2.2.1
          have kc4 := kc.2.2.2.2.2.1
          have kc5 := kc.2.2.2.2.2.2.1
          refine pv_aload_n (M := mX12_readsClause) 0 dX12_readsClause_126 127 rfl rfl rfl ?_
          refine mv_get (M := mX12_readsClause) (v := .ref 135) dX12_readsClause_127 FX12 26 wd1199 (by decide) (tl123 hT) rfl rfl 130 rfl ?_
          refine pv_aload_n (M := mX12_readsClause) 0 dX12_readsClause_130 131 rfl rfl rfl ?_
          refine iv_get (M := mX12_readsClause) (l1 := 0) (l2 := 12) dX12_readsClause_131 FX12 18 wd1191 (by decide) (tl123 hT) rfl I84 rfl 134 rfl (fun v98 ev98 pv98 qv98 => ?_)
          have wv98 : v98.toInt = (m82 123 18).toInt := congrArg Int32.toInt ev98
          refine pv_aload_n (M := mX12_readsClause) 0 dX12_readsClause_134 135 rfl rfl rfl ?_
          refine iv_get (M := mX12_readsClause) (l1 := 0) (l2 := 180) dX12_readsClause_135 FX12 16 wd1189 (by decide) (tl123 hT) rfl I84 rfl 138 rfl (fun v99 ev99 pv99 qv99 => ?_)
          have wv99 : v99.toInt = (m82 123 16).toInt := congrArg Int32.toInt ev99
          refine iv_iast (M := mX12_readsClause) (X := v98.toInt) (l1 := 0) (l2 := 180) dX12_readsClause_138 (tl135 hT) rfl (by omega) (by omega) I84 (fun _ => rfl) (by omega) (by omega) 139 rfl (fun m100 e103 I101 => ?_)
          have K102 := K85.set e103 rfl
          have w104 : (m100 123 12).toInt = (m82 123 12).toInt := by rw [e103, up2_ne (by omega)]
          have w105 : (m100 123 13).toInt = (m82 123 13).toInt := by rw [e103, up2_ne (by omega)]
          have w106 : (m100 123 16).toInt = (m82 123 16).toInt := by rw [e103, up2_ne (by omega)]
          have w107 : (m100 123 17).toInt = (m82 123 17).toInt := by rw [e103, up2_ne (by omega)]
          have w108 : (m100 123 18).toInt = (m82 123 18).toInt := by rw [e103, up2_ne (by omega)]
          have e9 := e103
          refine pv_aload_n (M := mX12_readsClause) 0 dX12_readsClause_139 140 rfl rfl rfl ?_
          refine pv_aload_n (M := mX12_readsClause) 0 dX12_readsClause_140 141 rfl rfl rfl ?_
          refine iv_get (M := mX12_readsClause) (l1 := 0) (l2 := 12) dX12_readsClause_141 FX12 18 wd1191 (by decide) (tl123 hT) rfl I101 rfl 144 rfl (fun v110 ev110 pv110 qv110 => ?_)
          have wv110 : v110.toInt = (m100 123 18).toInt := congrArg Int32.toInt ev110
          refine pv_iconst (M := mX12_readsClause) (v := 1) dX12_readsClause_144 145 rfl (by decide) ?_
          refine iv_iadd (M := mX12_readsClause) (X := v110.toInt) (Y := 1) dX12_readsClause_145 146 rfl rfl (by decide) (by omega) (by omega) (fun v111 ev111 => ?_)
          refine iv_put (M := mX12_readsClause) (l1 := 0) (l2 := 12) dX12_readsClause_146 FX12 18 wd1191 (by decide) rfl (tl123 hT) rfl rfl rfl I101 rfl (by omega) (by omega) 149 rfl (fun m112 e115 I113 => ?_)
          have K114 := K102.set e115 rfl
          have w116 : (m112 123 12).toInt = (m100 123 12).toInt := by rw [e115, up2_ne (by omega)]
          have w117 : (m112 123 13).toInt = (m100 123 13).toInt := by rw [e115, up2_ne (by omega)]
          have w118 : (m112 123 16).toInt = (m100 123 16).toInt := by rw [e115, up2_ne (by omega)]
          have w119 : (m112 123 17).toInt = (m100 123 17).toInt := by rw [e115, up2_ne (by omega)]
          have w120 : (m112 123 18).toInt = v111.toInt := by rw [e115, up2_eq]
          refine pv_iconst (M := mX12_readsClause) (v := 1) dX12_readsClause_149 150 rfl (by decide) ?_
          have z121 : (1 : Int32).toInt = 1 := by decide
          exact pv_iret (M := mX12_readsClause) dX12_readsClause_150 rfl rfl ⟨_, _, _, rfl, rfl, I113, K114, by decide, by decide, (Or.inr ⟨SX_clause hp2 (m 123 18).toInt.toNat (by omega) e1 e2 e3 (by omega) (by omega) e4 e5 q6.1 q6.2.1 q6.2.2.1 q6.2.2.2.1 e7 (by omega) (by omega) f8 kc.2.1 kc.1 kc.2.2.2.1 e9 (by omega) (by omega) e115 (by omega) (by omega), by omega, by omega, by omega, by omega⟩)⟩
        · have c91 := iv_eq (X := v86.toInt) (Y := 0) c91 rfl (by decide)
          refine pv_iconst (M := mX12_readsClause) (v := 0) dX12_readsClause_124 125 rfl (by decide) ?_
          have z122 : (0 : Int32).toInt = 0 := by decide
          exact pv_iret (M := mX12_readsClause) dX12_readsClause_125 rfl rfl ⟨_, _, _, rfl, rfl, I84, K85, by decide, by decide, (Or.inl (by decide))⟩
      · have c62 := iv_eq (X := v2.toInt) (Y := 112) c62 rfl (by decide)
        omega
    · have c5 := iv_eq (X := v4.toInt) (Y := 12) c5 rfl (by decide)
      refine pv_aload_n (M := mX12_readsClause) 0 dX12_readsClause_36 37 rfl rfl rfl ?_
      refine pv_iconst (M := mX12_readsClause) (v := 4) dX12_readsClause_37 38 rfl (by decide) ?_
      refine pv_aload_n (M := mX12_readsClause) 0 dX12_readsClause_38 39 rfl rfl rfl ?_
      refine iv_get (M := mX12_readsClause) (l1 := 0) (l2 := 160) dX12_readsClause_39 FX12 12 wd1185 (by decide) (tl123 hT) rfl I rfl 42 rfl (fun v123 ev123 pv123 qv123 => ?_)
      have wv123 : v123.toInt = (m 123 12).toInt := congrArg Int32.toInt ev123
      refine pv_callv (M := mX12_readsClause) (as := [.int 4, .int v123]) (st := []) (kc2 := 0) (ks2 := 0) dX12_readsClause_42 wd1421 YX12_wrongAt ⟨wd1423, wd61⟩ (mk_get (tl123 hT)) rfl rfl (s_X12_wrongAt g hT I 4 (by decide) (by decide) v123 (by omega) (by omega)) rfl rfl (Nat.le_of_ble_eq_true rfl) (by decide) rfl rfl 45 rfl (fun rv h1 q124 => ?_)
      obtain ⟨m125, n126, v129, rfl, rfl, I127, K128, pv129, qv129, rv129⟩ := q124
      have K128c := K128
      have w130 : (m125 123 12).toInt = (m 123 12).toInt := congrArg Int32.toInt (K128 123 12 rfl)
      have w131 : (m125 123 13).toInt = (m 123 13).toInt := congrArg Int32.toInt (K128 123 13 rfl)
      have w132 : (m125 123 16).toInt = (m 123 16).toInt := congrArg Int32.toInt (K128 123 16 rfl)
      have w133 : (m125 123 17).toInt = (m 123 17).toInt := congrArg Int32.toInt (K128 123 17 rfl)
      have w134 : (m125 123 18).toInt = (m 123 18).toInt := congrArg Int32.toInt (K128 123 18 rfl)
      have K128 := Kp.trans (K128.sub (wl_sub (by decide)))
      show PV _ _ _ _ _ _ _ 45 [.ref 123, .int v2] [.int v129] _
      exact pv_iret (M := mX12_readsClause) dX12_readsClause_45 rfl (iv_nz (by omega) (by omega)) ⟨_, _, _, rfl, rfl, I127, K128, by omega, by omega, (Or.inl (by omega))⟩
  · have c3 := iv_ne (X := v2.toInt) (Y := 110) c3 rfl (by decide)
    refine pv_iload_n (M := mX12_readsClause) 1 dX12_readsClause_11 12 rfl rfl rfl ?_
    refine pv_bipush (M := mX12_readsClause) (v := 112) dX12_readsClause_12 14 rfl (by decide) ?_
    refine pv_icmp_eq (M := mX12_readsClause) (tgt := 27) dX12_readsClause_14 17 rfl (by decide) (fun c135 => ?_) (fun c135 => ?_)
    · have c135 := iv_eq (X := v2.toInt) (Y := 112) c135 rfl (by decide)
      refine pv_aload_n (M := mX12_readsClause) 0 dX12_readsClause_27 28 rfl rfl rfl ?_
      refine iv_get (M := mX12_readsClause) (l1 := 0) (l2 := 12) dX12_readsClause_28 FX12 18 wd1191 (by decide) (tl123 hT) rfl I rfl 31 rfl (fun v136 ev136 pv136 qv136 => ?_)
      have wv136 : v136.toInt = (m 123 18).toInt := congrArg Int32.toInt ev136
      refine pv_bipush (M := mX12_readsClause) (v := 12) dX12_readsClause_31 33 rfl (by decide) ?_
      refine pv_icmp_ne (M := mX12_readsClause) (tgt := 46) dX12_readsClause_33 36 rfl (by decide) (fun c137 => ?_) (fun c137 => ?_)
      · have c137 := iv_ne (X := v136.toInt) (Y := 12) c137 rfl (by decide)
        refine pv_aload_n (M := mX12_readsClause) 0 dX12_readsClause_46 47 rfl rfl rfl ?_
        refine mv_get (M := mX12_readsClause) (v := .ref 132) dX12_readsClause_47 FX12 23 wd1196 (by decide) (tl123 hT) rfl rfl 50 rfl ?_
        refine pv_aload_n (M := mX12_readsClause) 0 dX12_readsClause_50 51 rfl rfl rfl ?_
        refine iv_get (M := mX12_readsClause) (l1 := 0) (l2 := 12) dX12_readsClause_51 FX12 18 wd1191 (by decide) (tl123 hT) rfl I rfl 54 rfl (fun v138 ev138 pv138 qv138 => ?_)
        have wv138 : v138.toInt = (m 123 18).toInt := congrArg Int32.toInt ev138
        refine pv_iload_n (M := mX12_readsClause) 1 dX12_readsClause_54 55 rfl rfl rfl ?_
        refine iv_iast (M := mX12_readsClause) (X := v138.toInt) (l1 := (-2147483648)) (l2 := 2147483647) dX12_readsClause_55 (tl132 hT) rfl (by omega) (by omega) I (fun _ => rfl) (iv_rng v2).1 (iv_rng v2).2 56 rfl (fun m139 e142 I140 => ?_)
        have K141 := Kp.set e142 rfl
        have w143 : (m139 123 12).toInt = (m 123 12).toInt := by rw [e142, up2_ne (by omega)]
        have w144 : (m139 123 13).toInt = (m 123 13).toInt := by rw [e142, up2_ne (by omega)]
        have w145 : (m139 123 16).toInt = (m 123 16).toInt := by rw [e142, up2_ne (by omega)]
        have w146 : (m139 123 17).toInt = (m 123 17).toInt := by rw [e142, up2_ne (by omega)]
        have w147 : (m139 123 18).toInt = (m 123 18).toInt := by rw [e142, up2_ne (by omega)]
        have e1 := e142
        refine pv_aload_n (M := mX12_readsClause) 0 dX12_readsClause_56 57 rfl rfl rfl ?_
        refine pv_aload_n (M := mX12_readsClause) 0 dX12_readsClause_57 58 rfl rfl rfl ?_
        refine iv_get (M := mX12_readsClause) (l1 := 0) (l2 := 160) dX12_readsClause_58 FX12 12 wd1185 (by decide) (tl123 hT) rfl I140 rfl 61 rfl (fun v149 ev149 pv149 qv149 => ?_)
        have wv149 : v149.toInt = (m139 123 12).toInt := congrArg Int32.toInt ev149
        refine pv_iconst (M := mX12_readsClause) (v := 1) dX12_readsClause_61 62 rfl (by decide) ?_
        refine iv_iadd (M := mX12_readsClause) (X := v149.toInt) (Y := 1) dX12_readsClause_62 63 rfl rfl (by decide) (by omega) (by omega) (fun v150 ev150 => ?_)
        refine iv_put (M := mX12_readsClause) (l1 := 0) (l2 := 160) dX12_readsClause_63 FX12 12 wd1185 (by decide) rfl (tl123 hT) rfl rfl rfl I140 rfl (by omega) (by omega) 66 rfl (fun m151 e154 I152 => ?_)
        have K153 := K141.set e154 rfl
        have w155 : (m151 123 12).toInt = v150.toInt := by rw [e154, up2_eq]
        have w156 : (m151 123 13).toInt = (m139 123 13).toInt := by rw [e154, up2_ne (by omega)]
        have w157 : (m151 123 16).toInt = (m139 123 16).toInt := by rw [e154, up2_ne (by omega)]
        have w158 : (m151 123 17).toInt = (m139 123 17).toInt := by rw [e154, up2_ne (by omega)]
        have w159 : (m151 123 18).toInt = (m139 123 18).toInt := by rw [e154, up2_ne (by omega)]
        have e2 := e154
        refine pv_aload_n (M := mX12_readsClause) 0 dX12_readsClause_66 67 rfl rfl rfl ?_
        refine mv_get (M := mX12_readsClause) (v := .ref 133) dX12_readsClause_67 FX12 24 wd1197 (by decide) (tl123 hT) rfl rfl 70 rfl ?_
        refine pv_aload_n (M := mX12_readsClause) 0 dX12_readsClause_70 71 rfl rfl rfl ?_
        refine iv_get (M := mX12_readsClause) (l1 := 0) (l2 := 12) dX12_readsClause_71 FX12 18 wd1191 (by decide) (tl123 hT) rfl I152 rfl 74 rfl (fun v161 ev161 pv161 qv161 => ?_)
        have wv161 : v161.toInt = (m151 123 18).toInt := congrArg Int32.toInt ev161
        refine pv_aload_n (M := mX12_readsClause) 0 dX12_readsClause_74 75 rfl rfl rfl ?_
        refine iv_get (M := mX12_readsClause) (l1 := 0) (l2 := 180) dX12_readsClause_75 FX12 16 wd1189 (by decide) (tl123 hT) rfl I152 rfl 78 rfl (fun v162 ev162 pv162 qv162 => ?_)
        have wv162 : v162.toInt = (m151 123 16).toInt := congrArg Int32.toInt ev162
        refine iv_iast (M := mX12_readsClause) (X := v161.toInt) (l1 := 0) (l2 := 180) dX12_readsClause_78 (tl133 hT) rfl (by omega) (by omega) I152 (fun _ => rfl) (by omega) (by omega) 79 rfl (fun m163 e166 I164 => ?_)
        have K165 := K153.set e166 rfl
        have w167 : (m163 123 12).toInt = (m151 123 12).toInt := by rw [e166, up2_ne (by omega)]
        have w168 : (m163 123 13).toInt = (m151 123 13).toInt := by rw [e166, up2_ne (by omega)]
        have w169 : (m163 123 16).toInt = (m151 123 16).toInt := by rw [e166, up2_ne (by omega)]
        have w170 : (m163 123 17).toInt = (m151 123 17).toInt := by rw [e166, up2_ne (by omega)]
        have w171 : (m163 123 18).toInt = (m151 123 18).toInt := by rw [e166, up2_ne (by omega)]
        have e3 := e166
        refine pv_aload_n (M := mX12_readsClause) 0 dX12_readsClause_79 80 rfl rfl rfl ?_
        refine pv_iconst (M := mX12_readsClause) (v := 0) dX12_readsClause_80 81 rfl (by decide) ?_
        refine iv_put (M := mX12_readsClause) (l1 := (-2147483648)) (l2 := 2147483647) dX12_readsClause_81 FX12 15 wd1188 (by decide) rfl (tl123 hT) rfl rfl rfl I164 rfl (by decide) (by decide) 84 rfl (fun m173 e176 I174 => ?_)
        have K175 := K165.set e176 rfl
        have w177 : (m173 123 12).toInt = (m163 123 12).toInt := by rw [e176, up2_ne (by omega)]
        have w178 : (m173 123 13).toInt = (m163 123 13).toInt := by rw [e176, up2_ne (by omega)]
        have w179 : (m173 123 16).toInt = (m163 123 16).toInt := by rw [e176, up2_ne (by omega)]
        have w180 : (m173 123 17).toInt = (m163 123 17).toInt := by rw [e176, up2_ne (by omega)]
        have w181 : (m173 123 18).toInt = (m163 123 18).toInt := by rw [e176, up2_ne (by omega)]
        have e4 := e176
        refine pv_aload_n (M := mX12_readsClause) 0 dX12_readsClause_84 85 rfl rfl rfl ?_
        refine pv_iconst (M := mX12_readsClause) (v := 0) dX12_readsClause_85 86 rfl (by decide) ?_
        refine iv_put (M := mX12_readsClause) (l1 := 0) (l2 := 180) dX12_readsClause_86 FX12 17 wd1190 (by decide) rfl (tl123 hT) rfl rfl rfl I174 rfl (by decide) (by decide) 89 rfl (fun m183 e186 I184 => ?_)
        have K185 := K175.set e186 rfl
        have w187 : (m183 123 12).toInt = (m173 123 12).toInt := by rw [e186, up2_ne (by omega)]
        have w188 : (m183 123 13).toInt = (m173 123 13).toInt := by rw [e186, up2_ne (by omega)]
        have w189 : (m183 123 16).toInt = (m173 123 16).toInt := by rw [e186, up2_ne (by omega)]
        have w190 : (m183 123 17).toInt = 0 := by rw [e186, up2_eq] <;> rfl
        have w191 : (m183 123 18).toInt = (m173 123 18).toInt := by rw [e186, up2_ne (by omega)]
        have e5 := e186
        have s5 := SLK_new (m := m183) (by omega)
        refine pv_iload_n (M := mX12_readsClause) 1 dX12_readsClause_89 90 rfl rfl rfl ?_
        refine pv_bipush (M := mX12_readsClause) (v := 112) dX12_readsClause_90 92 rfl (by decide) ?_
        refine pv_icmp_ne (M := mX12_readsClause) (tgt := 104) dX12_readsClause_92 95 rfl (by decide) (fun c194 => ?_) (fun c194 => ?_)
        · have c194 := iv_ne (X := v2.toInt) (Y := 112) c194 rfl (by decide)
          omega
        · have c194 := iv_eq (X := v2.toInt) (Y := 112) c194 rfl (by decide)
          refine pv_aload_n (M := mX12_readsClause) 0 dX12_readsClause_95 96 rfl rfl rfl ?_
          refine pv_callv (M := mX12_readsClause) (as := []) (st := []) (kc2 := 0) (ks2 := 0) dX12_readsClause_96 wd1425 YX12_readsSum ⟨wd1427, wd62⟩ (mk_get (tl123 hT)) rfl rfl (s_X12_readsSum g hT I184 ((m 123 16).toInt) 0 (by have q := HW_new' (m := m183) (by omega) (by omega); rw [show (m183 123 16).toInt = (m 123 16).toInt by omega] at q; exact q) (by decide) (by rw [s5]; omega) (by first | omega | assumption | exact (iv_rng _).2 | exact (iv_rng _).1 | decide) (by first | omega | assumption | exact (iv_rng _).2 | exact (iv_rng _).1 | decide) (NS_new (by omega))) rfl rfl (Nat.le_of_ble_eq_true rfl) (by decide) rfl rfl 99 rfl (fun rv h1 q195 => ?_)
          obtain ⟨m196, n197, v200, rfl, rfl, I198, K199, pv200, qv200, rv200⟩ := q195
          replace rv200 : v200.toInt = 0 ∨ RS ((m 123 16).toInt) (0 + 1) m183 m196 := rv200
          have K199c := K199
          have w201 : (m196 123 13).toInt = (m183 123 13).toInt := congrArg Int32.toInt (K199 123 13 rfl)
          have w202 : (m196 123 18).toInt = (m183 123 18).toInt := congrArg Int32.toInt (K199 123 18 rfl)
          have K199 := K185.trans (K199.sub (wl_sub (by decide)))
          show PV _ _ _ _ _ _ _ 99 [.ref 123, .int v2] [.int v200] _
          have kR := rv200
          have f6 : FR4 m183 m196 := ⟨fun j => K199c 133 j rfl, fun j => K199c 134 j rfl, fun j => K199c 135 j rfl, K199c 123 18 rfl⟩
          refine pv_if_ne (M := mX12_readsClause) (tgt := 104) dX12_readsClause_99 102 rfl (by decide) (fun c205 => ?_) (fun c205 => ?_)
          · have c205 := iv_ne (X := v200.toInt) (Y := 0) c205 rfl (by decide)
            have q6 : FR4 m183 m196 ∧ KB (m 123 16).toInt m183 m196 ∧ WFc (m196 130) (m 123 16).toInt.toNat (m196 123 16).toInt.toNat ∧ (m 123 16).toInt ≤ (m196 123 16).toInt ∧ 0 ≤ SLK m196 ∧ (m196 123 17).toInt = 0 ∧ (m183 123 12).toInt ≤ (m196 123 12).toInt ∧ (m196 123 12).toInt ≤ (m196 123 13).toInt ∧ (m196 123 13).toInt = (m183 123 13).toInt := by first | (have kS := kR.resolve_left (by omega); have z1 := kS.2.1; have z2 := kS.2.2.2.1; have z3 := kS.2.2.2.2.2.1; have z4 := kS.2.2.2.2.2.2.1; have z5 := kS.2.2.2.2.2.2.2; exact ⟨f6, kS.2.2.1, HW_done kS.1 (show (m196 123 17).toInt = 0 by omega), kS.1.1.2.1, by omega, by omega, by omega, by omega, by omega⟩) | exact ⟨⟨fun _ => rfl, fun _ => rfl, fun _ => rfl, rfl⟩, KB.rf, WFc_nil (by omega), by omega, by rw [s5]; omega, by omega, by omega, by omega, by omega⟩
            have q61 := q6.2.2.2.1
            have q62 := q6.2.2.2.2.2.1
            have q63 := q6.2.2.2.2.2.2.1
            have q64 := q6.2.2.2.2.2.2.2.1
            have q65 := q6.2.2.2.2.2.2.2.2
            refine pv_aload_n (M := mX12_readsClause) 0 dX12_readsClause_104 105 rfl rfl rfl ?_
            refine mv_get (M := mX12_readsClause) (v := .ref 134) dX12_readsClause_105 FX12 25 wd1198 (by decide) (tl123 hT) rfl rfl 108 rfl ?_
            refine pv_aload_n (M := mX12_readsClause) 0 dX12_readsClause_108 109 rfl rfl rfl ?_
            refine iv_get (M := mX12_readsClause) (l1 := 0) (l2 := 12) dX12_readsClause_109 FX12 18 wd1191 (by decide) (tl123 hT) rfl I198 rfl 112 rfl (fun v212 ev212 pv212 qv212 => ?_)
            have wv212 : v212.toInt = (m196 123 18).toInt := congrArg Int32.toInt ev212
            refine pv_aload_n (M := mX12_readsClause) 0 dX12_readsClause_112 113 rfl rfl rfl ?_
            refine iv_get (M := mX12_readsClause) (l1 := 0) (l2 := 180) dX12_readsClause_113 FX12 16 wd1189 (by decide) (tl123 hT) rfl I198 rfl 116 rfl (fun v213 ev213 pv213 qv213 => ?_)
            have wv213 : v213.toInt = (m196 123 16).toInt := congrArg Int32.toInt ev213
            refine iv_iast (M := mX12_readsClause) (X := v212.toInt) (l1 := 0) (l2 := 180) dX12_readsClause_116 (tl134 hT) rfl (by omega) (by omega) I198 (fun _ => rfl) (by omega) (by omega) 117 rfl (fun m214 e217 I215 => ?_)
            have K216 := K199.set e217 rfl
            have w218 : (m214 123 12).toInt = (m196 123 12).toInt := by rw [e217, up2_ne (by omega)]
            have w219 : (m214 123 13).toInt = (m196 123 13).toInt := by rw [e217, up2_ne (by omega)]
            have w220 : (m214 123 16).toInt = (m196 123 16).toInt := by rw [e217, up2_ne (by omega)]
            have w221 : (m214 123 17).toInt = (m196 123 17).toInt := by rw [e217, up2_ne (by omega)]
            have w222 : (m214 123 18).toInt = (m196 123 18).toInt := by rw [e217, up2_ne (by omega)]
            have e7 := e217
            refine pv_aload_n (M := mX12_readsClause) 0 dX12_readsClause_117 118 rfl rfl rfl ?_
            refine pv_callv (M := mX12_readsClause) (as := []) (st := []) (kc2 := 0) (ks2 := 0) dX12_readsClause_118 wd1468 YX12_readsCondition ⟨wd1470, wd71⟩ (mk_get (tl123 hT)) rfl rfl (s_X12_readsCondition g hT I215 ((m196 123 16).toInt) (by rw [SLK_eq (m := m196) (by rw [e217, up2_ne (by omega)]) (by rw [e217, up2_ne (by omega)]) (by rw [e217, up2_ne (by omega)]) (fun j => by rw [e217, up2_ne (by omega)])]; exact q6.2.2.2.2.1) (by first | omega | assumption | exact (iv_rng _).2 | exact (iv_rng _).1 | decide) (by first | omega | assumption | exact (iv_rng _).2 | exact (iv_rng _).1 | decide)) rfl rfl (Nat.le_of_ble_eq_true rfl) (by decide) rfl rfl 121 rfl (fun rv h1 q224 => ?_)
            obtain ⟨m225, n226, v229, rfl, rfl, I227, K228, pv229, qv229, rv229⟩ := q224
            replace rv229 : v229.toInt = 0 ∨ (WFc (m225 130) ((m196 123 16).toInt).toNat (m225 123 16).toInt.toNat ∧ KB ((m196 123 16).toInt) m214 m225 ∧ 0 ≤ SLK m225 ∧ ((m196 123 16).toInt) ≤ (m225 123 16).toInt ∧ (m214 123 12).toInt ≤ (m225 123 12).toInt ∧ (m225 123 12).toInt ≤ (m225 123 13).toInt ∧ (m225 123 13).toInt = (m214 123 13).toInt ∧ (m225 123 17).toInt = 0) := rv229
            have K228c := K228
            have w230 : (m225 123 13).toInt = (m214 123 13).toInt := congrArg Int32.toInt (K228 123 13 rfl)
            have w231 : (m225 123 18).toInt = (m214 123 18).toInt := congrArg Int32.toInt (K228 123 18 rfl)
            have K228 := K216.trans (K228.sub (wl_sub (by decide)))
            show PV _ _ _ _ _ _ _ 121 [.ref 123, .int v2] [.int v229] _
            have kC := rv229
            have f8 : FR4 m214 m225 := ⟨fun j => K228c 133 j rfl, fun j => K228c 134 j rfl, fun j => K228c 135 j rfl, K228c 123 18 rfl⟩
            refine pv_if_ne (M := mX12_readsClause) (tgt := 126) dX12_readsClause_121 124 rfl (by decide) (fun c234 => ?_) (fun c234 => ?_)
            · have c234 := iv_ne (X := v229.toInt) (Y := 0) c234 rfl (by decide)
              have kc := kC.resolve_left (by omega)
              have kc1 := kc.2.2.2.1
              have kc2 : (m225 123 16).toInt ≤ (m225 123 12).toInt := SLK_cm kc.2.2.1
              have kc3 := kc.2.2.2.2.1
              have kc4 := kc.2.2.2.2.2.1
              have kc5 := kc.2.2.2.2.2.2.1
              refine pv_aload_n (M := mX12_readsClause) 0 dX12_readsClause_126 127 rfl rfl rfl ?_
              refine mv_get (M := mX12_readsClause) (v := .ref 135) dX12_readsClause_127 FX12 26 wd1199 (by decide) (tl123 hT) rfl rfl 130 rfl ?_
              refine pv_aload_n (M := mX12_readsClause) 0 dX12_readsClause_130 131 rfl rfl rfl ?_
              refine iv_get (M := mX12_readsClause) (l1 := 0) (l2 := 12) dX12_readsClause_131 FX12 18 wd1191 (by decide) (tl123 hT) rfl I227 rfl 134 rfl (fun v241 ev241 pv241 qv241 => ?_)
              have wv241 : v241.toInt = (m225 123 18).toInt := congrArg Int32.toInt ev241
              refine pv_aload_n (M := mX12_readsClause) 0 dX12_readsClause_134 135 rfl rfl rfl ?_
              refine iv_get (M := mX12_readsClause) (l1 := 0) (l2 := 180) dX12_readsClause_135 FX12 16 wd1189 (by decide) (tl123 hT) rfl I227 rfl 138 rfl (fun v242 ev242 pv242 qv242 => ?_)
              have wv242 : v242.toInt = (m225 123 16).toInt := congrArg Int32.toInt ev242
              refine iv_iast (M := mX12_readsClause) (X := v241.toInt) (l1 := 0) (l2 := 180) dX12_readsClause_138 (tl135 hT) rfl (by omega) (by omega) I227 (fun _ => rfl) (by omega) (by omega) 139 rfl (fun m243 e246 I244 => ?_)
              have K245 := K228.set e246 rfl
              have w247 : (m243 123 12).toInt = (m225 123 12).toInt := by rw [e246, up2_ne (by omega)]
              have w248 : (m243 123 13).toInt = (m225 123 13).toInt := by rw [e246, up2_ne (by omega)]
              have w249 : (m243 123 16).toInt = (m225 123 16).toInt := by rw [e246, up2_ne (by omega)]
              have w250 : (m243 123 17).toInt = (m225 123 17).toInt := by rw [e246, up2_ne (by omega)]
              have w251 : (m243 123 18).toInt = (m225 123 18).toInt := by rw [e246, up2_ne (by omega)]
              have e9 := e246
              refine pv_aload_n (M := mX12_readsClause) 0 dX12_readsClause_139 140 rfl rfl rfl ?_
              refine pv_aload_n (M := mX12_readsClause) 0 dX12_readsClause_140 141 rfl rfl rfl ?_
              refine iv_get (M := mX12_readsClause) (l1 := 0) (l2 := 12) dX12_readsClause_141 FX12 18 wd1191 (by decide) (tl123 hT) rfl I244 rfl 144 rfl (fun v253 ev253 pv253 qv253 => ?_)
              have wv253 : v253.toInt = (m243 123 18).toInt := congrArg Int32.toInt ev253
              refine pv_iconst (M := mX12_readsClause) (v := 1) dX12_readsClause_144 145 rfl (by decide) ?_
              refine iv_iadd (M := mX12_readsClause) (X := v253.toInt) (Y := 1) dX12_readsClause_145 146 rfl rfl (by decide) (by omega) (by omega) (fun v254 ev254 => ?_)
              refine iv_put (M := mX12_readsClause) (l1 := 0) (l2 := 12) dX12_readsClause_146 FX12 18 wd1191 (by decide) rfl (tl123 hT) rfl rfl rfl I244 rfl (by omega) (by omega) 149 rfl (fun m255 e258 I256 => ?_)
              have K257 := K245.set e258 rfl
              have w259 : (m255 123 12).toInt = (m243 123 12).toInt := by rw [e258, up2_ne (by omega)]
              have w260 : (m255 123 13).toInt = (m243 123 13).toInt := by rw [e258, up2_ne (by omega)]
              have w261 : (m255 123 16).toInt = (m243 123 16).toInt := by rw [e258, up2_ne (by omega)]
              have w262 : (m255 123 17).toInt = (m243 123 17).toInt := by rw [e258, up2_ne (by omega)]
              have w263 : (m255 123 18).toInt = v254.toInt := by rw [e258, up2_eq]
              refine pv_iconst (M := mX12_readsClause) (v := 1) dX12_readsClause_149 150 rfl (by decide) ?_
              have z264 : (1 : Int32).toInt = 1 := by decide
              exact pv_iret (M := mX12_readsClause) dX12_readsClause_150 rfl rfl ⟨_, _, _, rfl, rfl, I256, K257, by decide, by decide, (Or.inr ⟨SX_clause hp2 (m 123 18).toInt.toNat (by omega) e1 e2 e3 (by omega) (by omega) e4 e5 q6.1 q6.2.1 q6.2.2.1 q6.2.2.2.1 e7 (by omega) (by omega) f8 kc.2.1 kc.1 kc.2.2.2.1 e9 (by omega) (by omega) e258 (by omega) (by omega), by omega, by omega, by omega, by omega⟩)⟩
            · have c234 := iv_eq (X := v229.toInt) (Y := 0) c234 rfl (by decide)
              refine pv_iconst (M := mX12_readsClause) (v := 0) dX12_readsClause_124 125 rfl (by decide) ?_
              have z265 : (0 : Int32).toInt = 0 := by decide
              exact pv_iret (M := mX12_readsClause) dX12_readsClause_125 rfl rfl ⟨_, _, _, rfl, rfl, I227, K228, by decide, by decide, (Or.inl (by decide))⟩
          · have c205 := iv_eq (X := v200.toInt) (Y := 0) c205 rfl (by decide)
            refine pv_iconst (M := mX12_readsClause) (v := 0) dX12_readsClause_102 103 rfl (by decide) ?_
            have z266 : (0 : Int32).toInt = 0 := by decide
            exact pv_iret (M := mX12_readsClause) dX12_readsClause_103 rfl rfl ⟨_, _, _, rfl, rfl, I198, K199, by decide, by decide, (Or.inl (by decide))⟩
      · have c137 := iv_eq (X := v136.toInt) (Y := 12) c137 rfl (by decide)
        refine pv_aload_n (M := mX12_readsClause) 0 dX12_readsClause_36 37 rfl rfl rfl ?_
        refine pv_iconst (M := mX12_readsClause) (v := 4) dX12_readsClause_37 38 rfl (by decide) ?_
        refine pv_aload_n (M := mX12_readsClause) 0 dX12_readsClause_38 39 rfl rfl rfl ?_
        refine iv_get (M := mX12_readsClause) (l1 := 0) (l2 := 160) dX12_readsClause_39 FX12 12 wd1185 (by decide) (tl123 hT) rfl I rfl 42 rfl (fun v267 ev267 pv267 qv267 => ?_)
        have wv267 : v267.toInt = (m 123 12).toInt := congrArg Int32.toInt ev267
        refine pv_callv (M := mX12_readsClause) (as := [.int 4, .int v267]) (st := []) (kc2 := 0) (ks2 := 0) dX12_readsClause_42 wd1421 YX12_wrongAt ⟨wd1423, wd61⟩ (mk_get (tl123 hT)) rfl rfl (s_X12_wrongAt g hT I 4 (by decide) (by decide) v267 (by omega) (by omega)) rfl rfl (Nat.le_of_ble_eq_true rfl) (by decide) rfl rfl 45 rfl (fun rv h1 q268 => ?_)
        obtain ⟨m269, n270, v273, rfl, rfl, I271, K272, pv273, qv273, rv273⟩ := q268
        have K272c := K272
        have w274 : (m269 123 12).toInt = (m 123 12).toInt := congrArg Int32.toInt (K272 123 12 rfl)
        have w275 : (m269 123 13).toInt = (m 123 13).toInt := congrArg Int32.toInt (K272 123 13 rfl)
        have w276 : (m269 123 16).toInt = (m 123 16).toInt := congrArg Int32.toInt (K272 123 16 rfl)
        have w277 : (m269 123 17).toInt = (m 123 17).toInt := congrArg Int32.toInt (K272 123 17 rfl)
        have w278 : (m269 123 18).toInt = (m 123 18).toInt := congrArg Int32.toInt (K272 123 18 rfl)
        have K272 := Kp.trans (K272.sub (wl_sub (by decide)))
        show PV _ _ _ _ _ _ _ 45 [.ref 123, .int v2] [.int v273] _
        exact pv_iret (M := mX12_readsClause) dX12_readsClause_45 rfl (iv_nz (by omega) (by omega)) ⟨_, _, _, rfl, rfl, I271, K272, by omega, by omega, (Or.inl (by omega))⟩
    · have c135 := iv_ne (X := v2.toInt) (Y := 112) c135 rfl (by decide)
      refine pv_aload_n (M := mX12_readsClause) 0 dX12_readsClause_17 18 rfl rfl rfl ?_
      refine pv_iconst (M := mX12_readsClause) (v := 1) dX12_readsClause_18 19 rfl (by decide) ?_
      refine pv_aload_n (M := mX12_readsClause) 0 dX12_readsClause_19 20 rfl rfl rfl ?_
      refine iv_get (M := mX12_readsClause) (l1 := 0) (l2 := 160) dX12_readsClause_20 FX12 12 wd1185 (by decide) (tl123 hT) rfl I rfl 23 rfl (fun v279 ev279 pv279 qv279 => ?_)
      have wv279 : v279.toInt = (m 123 12).toInt := congrArg Int32.toInt ev279
      refine pv_callv (M := mX12_readsClause) (as := [.int 1, .int v279]) (st := []) (kc2 := 0) (ks2 := 0) dX12_readsClause_23 wd1421 YX12_wrongAt ⟨wd1423, wd61⟩ (mk_get (tl123 hT)) rfl rfl (s_X12_wrongAt g hT I 1 (by decide) (by decide) v279 (by omega) (by omega)) rfl rfl (Nat.le_of_ble_eq_true rfl) (by decide) rfl rfl 26 rfl (fun rv h1 q280 => ?_)
      obtain ⟨m281, n282, v285, rfl, rfl, I283, K284, pv285, qv285, rv285⟩ := q280
      have K284c := K284
      have w286 : (m281 123 12).toInt = (m 123 12).toInt := congrArg Int32.toInt (K284 123 12 rfl)
      have w287 : (m281 123 13).toInt = (m 123 13).toInt := congrArg Int32.toInt (K284 123 13 rfl)
      have w288 : (m281 123 16).toInt = (m 123 16).toInt := congrArg Int32.toInt (K284 123 16 rfl)
      have w289 : (m281 123 17).toInt = (m 123 17).toInt := congrArg Int32.toInt (K284 123 17 rfl)
      have w290 : (m281 123 18).toInt = (m 123 18).toInt := congrArg Int32.toInt (K284 123 18 rfl)
      have K284 := Kp.trans (K284.sub (wl_sub (by decide)))
      show PV _ _ _ _ _ _ _ 26 [.ref 123, .int v2] [.int v285] _
      exact pv_iret (M := mX12_readsClause) dX12_readsClause_26 rfl (iv_nz (by omega) (by omega)) ⟨_, _, _, rfl, rfl, I283, K284, by omega, by omega, (Or.inl (by omega))⟩

set_option maxHeartbeats 2000000 in
set_option maxRecDepth 20000 in
theorem s_X12_law (g : pv_G) {T : List mv_T} {m : Nat → Nat → Int32} {n : Nat → Nat → Int64} {r : Nat → Value} (hT : TX T) (I : IV BB m) (x0 : Int32) (hp0 : LX m) : PM g mX12_law yX12_law (sqI T BB (wl [(123, 123, some 11), (123, 123, some 12), (123, 123, some 13), (123, 123, some 14), (123, 123, some 15), (123, 123, some 16), (123, 123, some 17), (123, 123, some 18), (123, 123, some 19), (123, 123, some 20), (130, 130, none), (131, 131, none), (132, 132, none), (133, 133, none), (134, 134, none), (135, 135, none), (136, 136, none), (137, 137, none), (138, 138, none), (139, 139, none), (140, 140, none)]) r m (-2147483648) 2147483647 (fun m' v => LX m')) 9 0 0 [.ref 123, .int x0] (mk T m n r) := by
  have Kp : fr (wl [(123, 123, some 11), (123, 123, some 12), (123, 123, some 13), (123, 123, some 14), (123, 123, some 15), (123, 123, some 16), (123, 123, some 17), (123, 123, some 18), (123, 123, some 19), (123, 123, some 20), (130, 130, none), (131, 131, none), (132, 132, none), (133, 133, none), (134, 134, none), (135, 135, none), (136, 136, none), (137, 137, none), (138, 138, none), (139, 139, none), (140, 140, none)]) m m := fr.rf
  have z312 : 0 ≤ (m 123 12).toInt ∧ (m 123 12).toInt ≤ 160 := I 123 12
  have z313 : 0 ≤ (m 123 13).toInt ∧ (m 123 13).toInt ≤ 160 := I 123 13
  have z314 : 0 ≤ (m 123 16).toInt ∧ (m 123 16).toInt ≤ 180 := I 123 16
  have z315 : 0 ≤ (m 123 17).toInt ∧ (m 123 17).toInt ≤ 180 := I 123 17
  have z316 : 0 ≤ (m 123 18).toInt ∧ (m 123 18).toInt ≤ 12 := I 123 18
  have z317 : 0 ≤ (m 123 20).toInt ∧ (m 123 20).toInt ≤ 12 := I 123 20
  have z318 : 0 ≤ (m 123 11).toInt ∧ (m 123 11).toInt ≤ 200 := I 123 11
  refine PM.of 2 (lo := [.ref 123, .int x0, pv_U, pv_U]) rfl (by decide) rfl rfl (Nat.le_of_ble_eq_true rfl) ?_
  refine pv_iload_n (M := mX12_law) 1 dX12_law_0 1 rfl rfl rfl ?_
  refine pv_iconst (M := mX12_law) (v := 1) dX12_law_1 2 rfl (by decide) ?_
  refine pv_sipush (M := mX12_law) (v := 160) dX12_law_2 5 rfl (by decide) ?_
  have z1 : (1 : Int32).toInt = 1 := by decide
  have z2 : (160 : Int32).toInt = 160 := by decide
  refine pv_calls (M := mX12_law) (as := [.int x0, .int 1, .int 160]) (st := []) (kc2 := 0) (ks2 := 0) dX12_law_5 wd1370 YX12_in wd1371 (s_X12_in g hT I x0 1 160) rfl rfl (Nat.le_of_ble_eq_true rfl) (by decide) rfl rfl 8 rfl (fun rv h1 q3 => ?_)
  obtain ⟨v4, rfl, rfl, pv4, qv4, rv4⟩ := q3
  replace rv4 : v4 = 0 ∨ ((1 : Int) ≤ x0.toInt ∧ x0.toInt ≤ (160 : Int)) := by have q_ := rv4; (try rw [z1] at q_); (try rw [z2] at q_); exact q_
  show PV _ _ _ _ _ _ _ 8 [.ref 123, .int x0, pv_U, pv_U] [.int v4] _
  refine pv_if_eq (M := mX12_law) (tgt := 19) dX12_law_8 11 rfl (by decide) (fun c5 => ?_) (fun c5 => ?_)
  · have c5 := iv_eq (X := v4.toInt) (Y := 0) c5 rfl (by decide)
    refine pv_iconst (M := mX12_law) (v := (-1)) dX12_law_19 20 rfl (by decide) ?_
    have z6 : ((-1) : Int32).toInt = (-1) := by decide
    exact pv_iret (M := mX12_law) dX12_law_20 rfl rfl ⟨_, _, _, rfl, rfl, I, Kp, by decide, by decide, hp0⟩
  · have pc5 := rv4.resolve_left c5
    have c5 := iv_ne (X := v4.toInt) (Y := 0) c5 rfl (by decide)
    refine pv_iload_n (M := mX12_law) 1 dX12_law_11 12 rfl rfl rfl ?_
    refine pv_aload_n (M := mX12_law) 0 dX12_law_12 13 rfl rfl rfl ?_
    refine iv_get (M := mX12_law) (l1 := 0) (l2 := 200) dX12_law_13 FX12 11 wd1184 (by decide) (tl123 hT) rfl I rfl 16 rfl (fun v7 ev7 pv7 qv7 => ?_)
    have wv7 : v7.toInt = (m 123 11).toInt := congrArg Int32.toInt ev7
    refine pv_icmp_le (M := mX12_law) (tgt := 21) dX12_law_16 19 rfl (by decide) (fun c8 => ?_) (fun c8 => ?_)
    · have c8 := iv_le (X := x0.toInt) (Y := v7.toInt) c8 rfl rfl
      refine pv_aload_n (M := mX12_law) 0 dX12_law_21 22 rfl rfl rfl ?_
      refine pv_iconst (M := mX12_law) (v := 0) dX12_law_22 23 rfl (by decide) ?_
      refine iv_put (M := mX12_law) (l1 := 0) (l2 := 160) dX12_law_23 FX12 12 wd1185 (by decide) rfl (tl123 hT) rfl rfl rfl I rfl (by decide) (by decide) 26 rfl (fun m9 e12 I10 => ?_)
      have K11 := Kp.set e12 rfl
      have w13 : (m9 123 12).toInt = 0 := by rw [e12, up2_eq] <;> rfl
      have w14 : (m9 123 13).toInt = (m 123 13).toInt := by rw [e12, up2_ne (by omega)]
      have w15 : (m9 123 16).toInt = (m 123 16).toInt := by rw [e12, up2_ne (by omega)]
      have w16 : (m9 123 17).toInt = (m 123 17).toInt := by rw [e12, up2_ne (by omega)]
      have w17 : (m9 123 18).toInt = (m 123 18).toInt := by rw [e12, up2_ne (by omega)]
      have w18 : (m9 123 20).toInt = (m 123 20).toInt := by rw [e12, up2_ne (by omega)]
      have w19 : (m9 123 11).toInt = (m 123 11).toInt := by rw [e12, up2_ne (by omega)]
      refine pv_aload_n (M := mX12_law) 0 dX12_law_26 27 rfl rfl rfl ?_
      refine pv_iload_n (M := mX12_law) 1 dX12_law_27 28 rfl rfl rfl ?_
      refine iv_put (M := mX12_law) (l1 := 0) (l2 := 160) dX12_law_28 FX12 13 wd1186 (by decide) rfl (tl123 hT) rfl rfl rfl I10 rfl (by omega) (by omega) 31 rfl (fun m20 e23 I21 => ?_)
      have K22 := K11.set e23 rfl
      have w24 : (m20 123 12).toInt = (m9 123 12).toInt := by rw [e23, up2_ne (by omega)]
      have w25 : (m20 123 13).toInt = x0.toInt := by rw [e23, up2_eq]
      have w26 : (m20 123 16).toInt = (m9 123 16).toInt := by rw [e23, up2_ne (by omega)]
      have w27 : (m20 123 17).toInt = (m9 123 17).toInt := by rw [e23, up2_ne (by omega)]
      have w28 : (m20 123 18).toInt = (m9 123 18).toInt := by rw [e23, up2_ne (by omega)]
      have w29 : (m20 123 20).toInt = (m9 123 20).toInt := by rw [e23, up2_ne (by omega)]
      have w30 : (m20 123 11).toInt = (m9 123 11).toInt := by rw [e23, up2_ne (by omega)]
      refine pv_aload_n (M := mX12_law) 0 dX12_law_31 32 rfl rfl rfl ?_
      refine pv_iconst (M := mX12_law) (v := 0) dX12_law_32 33 rfl (by decide) ?_
      refine iv_put (M := mX12_law) (l1 := 0) (l2 := 180) dX12_law_33 FX12 16 wd1189 (by decide) rfl (tl123 hT) rfl rfl rfl I21 rfl (by decide) (by decide) 36 rfl (fun m31 e34 I32 => ?_)
      have K33 := K22.set e34 rfl
      have w35 : (m31 123 12).toInt = (m20 123 12).toInt := by rw [e34, up2_ne (by omega)]
      have w36 : (m31 123 13).toInt = (m20 123 13).toInt := by rw [e34, up2_ne (by omega)]
      have w37 : (m31 123 16).toInt = 0 := by rw [e34, up2_eq] <;> rfl
      have w38 : (m31 123 17).toInt = (m20 123 17).toInt := by rw [e34, up2_ne (by omega)]
      have w39 : (m31 123 18).toInt = (m20 123 18).toInt := by rw [e34, up2_ne (by omega)]
      have w40 : (m31 123 20).toInt = (m20 123 20).toInt := by rw [e34, up2_ne (by omega)]
      have w41 : (m31 123 11).toInt = (m20 123 11).toInt := by rw [e34, up2_ne (by omega)]
      refine pv_aload_n (M := mX12_law) 0 dX12_law_36 37 rfl rfl rfl ?_
      refine pv_iconst (M := mX12_law) (v := 0) dX12_law_37 38 rfl (by decide) ?_
      refine iv_put (M := mX12_law) (l1 := 0) (l2 := 12) dX12_law_38 FX12 18 wd1191 (by decide) rfl (tl123 hT) rfl rfl rfl I32 rfl (by decide) (by decide) 41 rfl (fun m42 e45 I43 => ?_)
      have K44 := K33.set e45 rfl
      have w46 : (m42 123 12).toInt = (m31 123 12).toInt := by rw [e45, up2_ne (by omega)]
      have w47 : (m42 123 13).toInt = (m31 123 13).toInt := by rw [e45, up2_ne (by omega)]
      have w48 : (m42 123 16).toInt = (m31 123 16).toInt := by rw [e45, up2_ne (by omega)]
      have w49 : (m42 123 17).toInt = (m31 123 17).toInt := by rw [e45, up2_ne (by omega)]
      have w50 : (m42 123 18).toInt = 0 := by rw [e45, up2_eq] <;> rfl
      have w51 : (m42 123 20).toInt = (m31 123 20).toInt := by rw [e45, up2_ne (by omega)]
      have w52 : (m42 123 11).toInt = (m31 123 11).toInt := by rw [e45, up2_ne (by omega)]
      have kl1 : LX m42 := LX_eq hp0 (by rw [e45, e34, e23, e12, up2_ne (by omega), up2_ne (by omega), up2_ne (by omega), up2_ne (by omega)]) (fun j => by rw [e45, e34, e23, e12, up2_ne (by omega), up2_ne (by omega), up2_ne (by omega), up2_ne (by omega)]) (fun j => by rw [e45, e34, e23, e12, up2_ne (by omega), up2_ne (by omega), up2_ne (by omega), up2_ne (by omega)]) (fun j => by rw [e45, e34, e23, e12, up2_ne (by omega), up2_ne (by omega), up2_ne (by omega), up2_ne (by omega)]) (fun j => by rw [e45, e34, e23, e12, up2_ne (by omega), up2_ne (by omega), up2_ne (by omega), up2_ne (by omega)])
      refine pv_aload_n (M := mX12_law) 0 dX12_law_41 42 rfl rfl rfl ?_
      refine pv_callv (M := mX12_law) (as := []) (st := []) (kc2 := 0) (ks2 := 0) dX12_law_42 wd1413 YX12_readsClause ⟨wd1415, wd59⟩ (mk_get (tl123 hT)) rfl rfl (s_X12_readsClause g hT I43 (by omega) (by omega) (SX_0 (by omega))) rfl rfl (Nat.le_of_ble_eq_true rfl) (by decide) rfl rfl 45 rfl (fun rv h1 q54 => ?_)
      obtain ⟨m55, n56, v59, rfl, rfl, I57, K58, pv59, qv59, rv59⟩ := q54
      replace rv59 : v59.toInt = 0 ∨ (SX m55 ∧ (m55 123 16).toInt ≤ (m55 123 12).toInt ∧ (m42 123 12).toInt + 1 ≤ (m55 123 12).toInt ∧ (m55 123 12).toInt ≤ (m55 123 13).toInt ∧ (m55 123 13).toInt = (m42 123 13).toInt) := rv59
      have K58c := K58
      have w60 : (m55 123 13).toInt = (m42 123 13).toInt := congrArg Int32.toInt (K58 123 13 rfl)
      have w61 : (m55 123 20).toInt = (m42 123 20).toInt := congrArg Int32.toInt (K58 123 20 rfl)
      have w62 : (m55 123 11).toInt = (m42 123 11).toInt := congrArg Int32.toInt (K58 123 11 rfl)
      have K58 := K44.trans (K58.sub (wl_sub (by decide)))
      show PV _ _ _ _ _ _ _ 45 [.ref 123, .int x0, pv_U, pv_U] [.int v59] _
      have kR := rv59
      have kl0 : LX m55 := LX_eq kl1 (K58c 123 20 rfl) (fun j => K58c 136 j rfl) (fun j => K58c 138 j rfl) (fun j => K58c 139 j rfl) (fun j => K58c 140 j rfl)
      have kg0 : v59.toInt ≠ 0 → SX m55 ∧ (m55 123 16).toInt ≤ (m55 123 12).toInt ∧ (m55 123 12).toInt ≤ (m55 123 13).toInt := fun q => by have z := kR.resolve_left q; exact ⟨z.1, z.2.1, z.2.2.2.1⟩
      refine pv_istore_n (M := mX12_law) 2 (lo2 := [.ref 123, .int x0, .int v59, pv_U]) dX12_law_45 46 rfl rfl (by decide) rfl rfl ?_
      have lp72 : ∀ (fuel71 : Nat) (y66 : Int32) (m67 : Nat → Nat → Int32) (n68 : Nat → Nat → Int64), (0 ≤ y66.toInt) → (y66.toInt ≤ 1) → (LX m67) → (y66.toInt ≠ 0 → SX m67 ∧ (m67 123 16).toInt ≤ (m67 123 12).toInt ∧ (m67 123 12).toInt ≤ (m67 123 13).toInt) → IV BB m67 → fr (wl [(123, 123, some 11), (123, 123, some 12), (123, 123, some 13), (123, 123, some 14), (123, 123, some 15), (123, 123, some 16), (123, 123, some 17), (123, 123, some 18), (123, 123, some 19), (123, 123, some 20), (130, 130, none), (131, 131, none), (132, 132, none), (133, 133, none), (134, 134, none), (135, 135, none), (136, 136, none), (137, 137, none), (138, 138, none), (139, 139, none), (140, 140, none)]) m m67 → ((400 * y66.toInt + (160 - (m67 123 12).toInt)) : Int).toNat < fuel71 → PV none g mX12_law (sqI T BB (wl [(123, 123, some 11), (123, 123, some 12), (123, 123, some 13), (123, 123, some 14), (123, 123, some 15), (123, 123, some 16), (123, 123, some 17), (123, 123, some 18), (123, 123, some 19), (123, 123, some 20), (130, 130, none), (131, 131, none), (132, 132, none), (133, 133, none), (134, 134, none), (135, 135, none), (136, 136, none), (137, 137, none), (138, 138, none), (139, 139, none), (140, 140, none)]) r m (-2147483648) 2147483647 (fun m' v => LX m')) 9 0 0 46 [.ref 123, .int x0, .int y66, pv_U] [] (mk T m67 n68 r) := by
        intro fuel71
        induction fuel71 with
        | zero => intro y66 m67 n68 b74 b75 b76 b77 I69 K70 z78; omega
        | succ fuel71 ih73 =>
          intro y66 m67 n68 b74 b75 b76 b77 I69 K70 z78
          have z79 : 0 ≤ (m67 123 12).toInt ∧ (m67 123 12).toInt ≤ 160 := I69 123 12
          have z80 : 0 ≤ (m67 123 13).toInt ∧ (m67 123 13).toInt ≤ 160 := I69 123 13
          have z81 : 0 ≤ (m67 123 16).toInt ∧ (m67 123 16).toInt ≤ 180 := I69 123 16
          have z82 : 0 ≤ (m67 123 17).toInt ∧ (m67 123 17).toInt ≤ 180 := I69 123 17
          have z83 : 0 ≤ (m67 123 18).toInt ∧ (m67 123 18).toInt ≤ 12 := I69 123 18
          have z84 : 0 ≤ (m67 123 20).toInt ∧ (m67 123 20).toInt ≤ 12 := I69 123 20
          have z85 : 0 ≤ (m67 123 11).toInt ∧ (m67 123 11).toInt ≤ 200 := I69 123 11
          have kl := (show LX m67 by assumption)
          have kg := (show y66.toInt ≠ 0 → SX m67 ∧ (m67 123 16).toInt ≤ (m67 123 12).toInt ∧ (m67 123 12).toInt ≤ (m67 123 13).toInt by assumption)
          refine pv_iload_n (M := mX12_law) 2 dX12_law_46 47 rfl rfl rfl ?_
          refine pv_if_eq (M := mX12_law) (tgt := 86) dX12_law_47 50 rfl (by decide) (fun c88 => ?_) (fun c88 => ?_)
          · have c88 := iv_eq (X := y66.toInt) (Y := 0) c88 rfl (by decide)
            refine pv_aload_n (M := mX12_law) 0 dX12_law_86 87 rfl rfl rfl ?_
            refine pv_iconst (M := mX12_law) (v := 0) dX12_law_87 88 rfl (by decide) ?_
            refine iv_put (M := mX12_law) (l1 := 0) (l2 := 200) dX12_law_88 FX12 11 wd1184 (by decide) rfl (tl123 hT) rfl rfl rfl I69 rfl (by decide) (by decide) 91 rfl (fun m89 e92 I90 => ?_)
            have K91 := K70.set e92 rfl
            have w93 : (m89 123 12).toInt = (m67 123 12).toInt := by rw [e92, up2_ne (by omega)]
            have w94 : (m89 123 13).toInt = (m67 123 13).toInt := by rw [e92, up2_ne (by omega)]
            have w95 : (m89 123 16).toInt = (m67 123 16).toInt := by rw [e92, up2_ne (by omega)]
            have w96 : (m89 123 17).toInt = (m67 123 17).toInt := by rw [e92, up2_ne (by omega)]
            have w97 : (m89 123 18).toInt = (m67 123 18).toInt := by rw [e92, up2_ne (by omega)]
            have w98 : (m89 123 20).toInt = (m67 123 20).toInt := by rw [e92, up2_ne (by omega)]
            have w99 : (m89 123 11).toInt = 0 := by rw [e92, up2_eq] <;> rfl
            refine pv_iload_n (M := mX12_law) 2 dX12_law_91 92 rfl rfl rfl ?_
            refine pv_if_ne (M := mX12_law) (tgt := 100) dX12_law_92 95 rfl (by decide) (fun c100 => ?_) (fun c100 => ?_)
            · have c100 := iv_ne (X := y66.toInt) (Y := 0) c100 rfl (by decide)
              omega
            · have c100 := iv_eq (X := y66.toInt) (Y := 0) c100 rfl (by decide)
              have klz : LX m89 := LX_eq kl (by rw [e92, up2_ne (by omega)]) (fun j => by rw [e92, up2_ne (by omega)]) (fun j => by rw [e92, up2_ne (by omega)]) (fun j => by rw [e92, up2_ne (by omega)]) (fun j => by rw [e92, up2_ne (by omega)])
              refine pv_aload_n (M := mX12_law) 0 dX12_law_95 96 rfl rfl rfl ?_
              refine iv_get (M := mX12_law) (l1 := (-2147483648)) (l2 := 2147483647) dX12_law_96 FX12 14 wd1187 (by decide) (tl123 hT) rfl I90 rfl 99 rfl (fun v102 ev102 pv102 qv102 => ?_)
              exact pv_iret (M := mX12_law) dX12_law_99 rfl rfl ⟨_, _, _, rfl, rfl, I90, K91, (iv_rng v102).1, (iv_rng v102).2, klz⟩
          · have c88 := iv_ne (X := y66.toInt) (Y := 0) c88 rfl (by decide)
            have kG := kg (by omega)
            have kG2 := kG.2.1
            have kG3 := kG.2.2
            refine pv_aload_n (M := mX12_law) 0 dX12_law_50 51 rfl rfl rfl ?_
            refine iv_get (M := mX12_law) (l1 := 0) (l2 := 160) dX12_law_51 FX12 12 wd1185 (by decide) (tl123 hT) rfl I69 rfl 54 rfl (fun v106 ev106 pv106 qv106 => ?_)
            have wv106 : v106.toInt = (m67 123 12).toInt := congrArg Int32.toInt ev106
            refine pv_aload_n (M := mX12_law) 0 dX12_law_54 55 rfl rfl rfl ?_
            refine iv_get (M := mX12_law) (l1 := 0) (l2 := 160) dX12_law_55 FX12 13 wd1186 (by decide) (tl123 hT) rfl I69 rfl 58 rfl (fun v107 ev107 pv107 qv107 => ?_)
            have wv107 : v107.toInt = (m67 123 13).toInt := congrArg Int32.toInt ev107
            refine pv_icmp_ge (M := mX12_law) (tgt := 86) dX12_law_58 61 rfl (by decide) (fun c108 => ?_) (fun c108 => ?_)
            · have c108 := iv_le (X := v107.toInt) (Y := v106.toInt) c108 rfl rfl
              refine pv_aload_n (M := mX12_law) 0 dX12_law_86 87 rfl rfl rfl ?_
              refine pv_iconst (M := mX12_law) (v := 0) dX12_law_87 88 rfl (by decide) ?_
              refine iv_put (M := mX12_law) (l1 := 0) (l2 := 200) dX12_law_88 FX12 11 wd1184 (by decide) rfl (tl123 hT) rfl rfl rfl I69 rfl (by decide) (by decide) 91 rfl (fun m109 e112 I110 => ?_)
              have K111 := K70.set e112 rfl
              have w113 : (m109 123 12).toInt = (m67 123 12).toInt := by rw [e112, up2_ne (by omega)]
              have w114 : (m109 123 13).toInt = (m67 123 13).toInt := by rw [e112, up2_ne (by omega)]
              have w115 : (m109 123 16).toInt = (m67 123 16).toInt := by rw [e112, up2_ne (by omega)]
              have w116 : (m109 123 17).toInt = (m67 123 17).toInt := by rw [e112, up2_ne (by omega)]
              have w117 : (m109 123 18).toInt = (m67 123 18).toInt := by rw [e112, up2_ne (by omega)]
              have w118 : (m109 123 20).toInt = (m67 123 20).toInt := by rw [e112, up2_ne (by omega)]
              have w119 : (m109 123 11).toInt = 0 := by rw [e112, up2_eq] <;> rfl
              refine pv_iload_n (M := mX12_law) 2 dX12_law_91 92 rfl rfl rfl ?_
              refine pv_if_ne (M := mX12_law) (tgt := 100) dX12_law_92 95 rfl (by decide) (fun c120 => ?_) (fun c120 => ?_)
              · have c120 := iv_ne (X := y66.toInt) (Y := 0) c120 rfl (by decide)
                have kG := kg (by omega)
                have kG2 := kG.2.1
                have kG3 := kG.2.2
                refine pv_aload_n (M := mX12_law) 0 dX12_law_100 101 rfl rfl rfl ?_
                refine pv_aload_n (M := mX12_law) 0 dX12_law_101 102 rfl rfl rfl ?_
                refine iv_get (M := mX12_law) (l1 := 0) (l2 := 12) dX12_law_102 FX12 18 wd1191 (by decide) (tl123 hT) rfl I110 rfl 105 rfl (fun v124 ev124 pv124 qv124 => ?_)
                have wv124 : v124.toInt = (m109 123 18).toInt := congrArg Int32.toInt ev124
                refine iv_put (M := mX12_law) (l1 := 0) (l2 := 12) dX12_law_105 FX12 20 wd1193 (by decide) rfl (tl123 hT) rfl rfl rfl I110 rfl (by omega) (by omega) 108 rfl (fun m125 e128 I126 => ?_)
                have K127 := K111.set e128 rfl
                have w129 : (m125 123 12).toInt = (m109 123 12).toInt := by rw [e128, up2_ne (by omega)]
                have w130 : (m125 123 13).toInt = (m109 123 13).toInt := by rw [e128, up2_ne (by omega)]
                have w131 : (m125 123 16).toInt = (m109 123 16).toInt := by rw [e128, up2_ne (by omega)]
                have w132 : (m125 123 17).toInt = (m109 123 17).toInt := by rw [e128, up2_ne (by omega)]
                have w133 : (m125 123 18).toInt = (m109 123 18).toInt := by rw [e128, up2_ne (by omega)]
                have w134 : (m125 123 20).toInt = v124.toInt := by rw [e128, up2_eq]
                have w135 : (m125 123 11).toInt = (m109 123 11).toInt := by rw [e128, up2_ne (by omega)]
                refine pv_iconst (M := mX12_law) (v := 0) dX12_law_108 109 rfl (by decide) ?_
                refine pv_istore_n (M := mX12_law) 3 (lo2 := [.ref 123, .int x0, .int y66, .int 0]) dX12_law_109 110 rfl rfl (by decide) rfl rfl ?_
                have lp142 : ∀ (fuel141 : Nat) (y136 : Int32) (m137 : Nat → Nat → Int32) (n138 : Nat → Nat → Int64), (0 ≤ y136.toInt) → (y136.toInt ≤ 180) → (SX m137) → ((m137 123 16).toInt ≤ 179) → ((m137 123 20).toInt = (m137 123 18).toInt) → (∀ j : Nat, (j : Int) < y136.toInt → m137 136 j = m137 130 j) → IV BB m137 → fr (wl [(123, 123, some 11), (123, 123, some 12), (123, 123, some 13), (123, 123, some 14), (123, 123, some 15), (123, 123, some 16), (123, 123, some 17), (123, 123, some 18), (123, 123, some 19), (123, 123, some 20), (130, 130, none), (131, 131, none), (132, 132, none), (133, 133, none), (134, 134, none), (135, 135, none), (136, 136, none), (137, 137, none), (138, 138, none), (139, 139, none), (140, 140, none)]) m m137 → ((180 - y136.toInt) : Int).toNat < fuel141 → PV none g mX12_law (sqI T BB (wl [(123, 123, some 11), (123, 123, some 12), (123, 123, some 13), (123, 123, some 14), (123, 123, some 15), (123, 123, some 16), (123, 123, some 17), (123, 123, some 18), (123, 123, some 19), (123, 123, some 20), (130, 130, none), (131, 131, none), (132, 132, none), (133, 133, none), (134, 134, none), (135, 135, none), (136, 136, none), (137, 137, none), (138, 138, none), (139, 139, none), (140, 140, none)]) r m (-2147483648) 2147483647 (fun m' v => LX m')) 9 0 0 110 [.ref 123, .int x0, .int y66, .int y136] [] (mk T m137 n138 r) := by
                  intro fuel141
                  induction fuel141 with
                  | zero => intro y136 m137 n138 b144 b145 b146 b147 b148 b149 I139 K140 z150; omega
                  | succ fuel141 ih143 =>
                    intro y136 m137 n138 b144 b145 b146 b147 b148 b149 I139 K140 z150
                    have z151 : 0 ≤ (m137 123 12).toInt ∧ (m137 123 12).toInt ≤ 160 := I139 123 12
                    have z152 : 0 ≤ (m137 123 13).toInt ∧ (m137 123 13).toInt ≤ 160 := I139 123 13
                    have z153 : 0 ≤ (m137 123 16).toInt ∧ (m137 123 16).toInt ≤ 180 := I139 123 16
                    have z154 : 0 ≤ (m137 123 17).toInt ∧ (m137 123 17).toInt ≤ 180 := I139 123 17
                    have z155 : 0 ≤ (m137 123 18).toInt ∧ (m137 123 18).toInt ≤ 12 := I139 123 18
                    have z156 : 0 ≤ (m137 123 20).toInt ∧ (m137 123 20).toInt ≤ 12 := I139 123 20
                    have z157 : 0 ≤ (m137 123 11).toInt ∧ (m137 123 11).toInt ≤ 200 := I139 123 11
                    have ks := (show SX m137 by assumption)
                    have kc := (show ∀ j : Nat, (j : Int) < y136.toInt → m137 136 j = m137 130 j by assumption)
                    refine pv_iload_n (M := mX12_law) 3 dX12_law_110 111 rfl rfl rfl ?_
                    refine pv_aload_n (M := mX12_law) 0 dX12_law_111 112 rfl rfl rfl ?_
                    refine iv_get (M := mX12_law) (l1 := 0) (l2 := 180) dX12_law_112 FX12 16 wd1189 (by decide) (tl123 hT) rfl I139 rfl 115 rfl (fun v160 ev160 pv160 qv160 => ?_)
                    have wv160 : v160.toInt = (m137 123 16).toInt := congrArg Int32.toInt ev160
                    refine pv_icmp_ge (M := mX12_law) (tgt := 136) dX12_law_115 118 rfl (by decide) (fun c161 => ?_) (fun c161 => ?_)
                    · have c161 := iv_le (X := v160.toInt) (Y := y136.toInt) c161 rfl rfl
                      refine pv_iconst (M := mX12_law) (v := 0) dX12_law_136 137 rfl (by decide) ?_
                      refine pv_istore_n (M := mX12_law) 3 (lo2 := [.ref 123, .int x0, .int y66, .int 0]) dX12_law_137 138 rfl rfl (by decide) rfl rfl ?_
                      have lp168 : ∀ (fuel167 : Nat) (y162 : Int32) (m163 : Nat → Nat → Int32) (n164 : Nat → Nat → Int64), (0 ≤ y162.toInt) → (y162.toInt ≤ 12) → (SX m163) → ((m163 123 16).toInt ≤ 179) → ((m163 123 20).toInt = (m163 123 18).toInt) → (∀ j : Nat, (j : Int) < (m163 123 16).toInt → m163 136 j = m163 130 j) → (∀ j : Nat, (j : Int) < y162.toInt → m163 138 j = m163 133 j ∧ m163 139 j = m163 134 j ∧ m163 140 j = m163 135 j) → IV BB m163 → fr (wl [(123, 123, some 11), (123, 123, some 12), (123, 123, some 13), (123, 123, some 14), (123, 123, some 15), (123, 123, some 16), (123, 123, some 17), (123, 123, some 18), (123, 123, some 19), (123, 123, some 20), (130, 130, none), (131, 131, none), (132, 132, none), (133, 133, none), (134, 134, none), (135, 135, none), (136, 136, none), (137, 137, none), (138, 138, none), (139, 139, none), (140, 140, none)]) m m163 → ((12 - y162.toInt) : Int).toNat < fuel167 → PV none g mX12_law (sqI T BB (wl [(123, 123, some 11), (123, 123, some 12), (123, 123, some 13), (123, 123, some 14), (123, 123, some 15), (123, 123, some 16), (123, 123, some 17), (123, 123, some 18), (123, 123, some 19), (123, 123, some 20), (130, 130, none), (131, 131, none), (132, 132, none), (133, 133, none), (134, 134, none), (135, 135, none), (136, 136, none), (137, 137, none), (138, 138, none), (139, 139, none), (140, 140, none)]) r m (-2147483648) 2147483647 (fun m' v => LX m')) 9 0 0 138 [.ref 123, .int x0, .int y66, .int y162] [] (mk T m163 n164 r) := by
                        intro fuel167
                        induction fuel167 with
                        | zero => intro y162 m163 n164 b170 b171 b172 b173 b174 b175 b176 I165 K166 z177; omega
                        | succ fuel167 ih169 =>
                          intro y162 m163 n164 b170 b171 b172 b173 b174 b175 b176 I165 K166 z177
                          have z178 : 0 ≤ (m163 123 12).toInt ∧ (m163 123 12).toInt ≤ 160 := I165 123 12
                          have z179 : 0 ≤ (m163 123 13).toInt ∧ (m163 123 13).toInt ≤ 160 := I165 123 13
                          have z180 : 0 ≤ (m163 123 16).toInt ∧ (m163 123 16).toInt ≤ 180 := I165 123 16
                          have z181 : 0 ≤ (m163 123 17).toInt ∧ (m163 123 17).toInt ≤ 180 := I165 123 17
                          have z182 : 0 ≤ (m163 123 18).toInt ∧ (m163 123 18).toInt ≤ 12 := I165 123 18
                          have z183 : 0 ≤ (m163 123 20).toInt ∧ (m163 123 20).toInt ≤ 12 := I165 123 20
                          have z184 : 0 ≤ (m163 123 11).toInt ∧ (m163 123 11).toInt ≤ 200 := I165 123 11
                          have ks := (show SX m163 by assumption)
                          have kc := (show ∀ j : Nat, (j : Int) < (m163 123 16).toInt → m163 136 j = m163 130 j by assumption)
                          have kd := (show ∀ j : Nat, (j : Int) < y162.toInt → m163 138 j = m163 133 j ∧ m163 139 j = m163 134 j ∧ m163 140 j = m163 135 j by assumption)
                          refine pv_iload_n (M := mX12_law) 3 dX12_law_138 139 rfl rfl rfl ?_
                          refine pv_aload_n (M := mX12_law) 0 dX12_law_139 140 rfl rfl rfl ?_
                          refine iv_get (M := mX12_law) (l1 := 0) (l2 := 12) dX12_law_140 FX12 18 wd1191 (by decide) (tl123 hT) rfl I165 rfl 143 rfl (fun v188 ev188 pv188 qv188 => ?_)
                          have wv188 : v188.toInt = (m163 123 18).toInt := congrArg Int32.toInt ev188
                          refine pv_icmp_ge (M := mX12_law) (tgt := 200) dX12_law_143 146 rfl (by decide) (fun c189 => ?_) (fun c189 => ?_)
                          · have c189 := iv_le (X := v188.toInt) (Y := y162.toInt) c189 rfl rfl
                            refine pv_aload_n (M := mX12_law) 0 dX12_law_200 201 rfl rfl rfl ?_
                            refine iv_get (M := mX12_law) (l1 := 0) (l2 := 12) dX12_law_201 FX12 18 wd1191 (by decide) (tl123 hT) rfl I165 rfl 204 rfl (fun v190 ev190 pv190 qv190 => ?_)
                            have wv190 : v190.toInt = (m163 123 18).toInt := congrArg Int32.toInt ev190
                            exact pv_iret (M := mX12_law) dX12_law_204 rfl rfl ⟨_, _, _, rfl, rfl, I165, K166, (iv_rng v190).1, (iv_rng v190).2, (LX_of ks (by omega) (by omega) kc (fun j hj => kd j (by omega)))⟩
                          · have c189 := iv_nle (X := v188.toInt) (Y := y162.toInt) c189 rfl rfl
                            refine pv_aload_n (M := mX12_law) 0 dX12_law_146 147 rfl rfl rfl ?_
                            refine mv_get (M := mX12_law) (v := .ref 137) dX12_law_147 FX12 28 wd1201 (by decide) (tl123 hT) rfl rfl 150 rfl ?_
                            refine pv_iload_n (M := mX12_law) 3 dX12_law_150 151 rfl rfl rfl ?_
                            refine pv_aload_n (M := mX12_law) 0 dX12_law_151 152 rfl rfl rfl ?_
                            refine mv_get (M := mX12_law) (v := .ref 132) dX12_law_152 FX12 23 wd1196 (by decide) (tl123 hT) rfl rfl 155 rfl ?_
                            refine pv_iload_n (M := mX12_law) 3 dX12_law_155 156 rfl rfl rfl ?_
                            refine iv_iald (M := mX12_law) (X := y162.toInt) (l1 := (-2147483648)) (l2 := 2147483647) dX12_law_156 (tl132 hT) rfl (by omega) (by omega) I165 (fun _ => rfl) 157 rfl (fun v191 ev191 pv191 qv191 => ?_)
                            refine iv_iast (M := mX12_law) (X := y162.toInt) (l1 := (-2147483648)) (l2 := 2147483647) dX12_law_157 (tl137 hT) rfl (by omega) (by omega) I165 (fun _ => rfl) (iv_rng v191).1 (iv_rng v191).2 158 rfl (fun m192 e195 I193 => ?_)
                            have K194 := K166.set e195 rfl
                            have w196 : (m192 123 12).toInt = (m163 123 12).toInt := by rw [e195, up2_ne (by omega)]
                            have w197 : (m192 123 13).toInt = (m163 123 13).toInt := by rw [e195, up2_ne (by omega)]
                            have w198 : (m192 123 16).toInt = (m163 123 16).toInt := by rw [e195, up2_ne (by omega)]
                            have w199 : (m192 123 17).toInt = (m163 123 17).toInt := by rw [e195, up2_ne (by omega)]
                            have w200 : (m192 123 18).toInt = (m163 123 18).toInt := by rw [e195, up2_ne (by omega)]
                            have w201 : (m192 123 20).toInt = (m163 123 20).toInt := by rw [e195, up2_ne (by omega)]
                            have w202 : (m192 123 11).toInt = (m163 123 11).toInt := by rw [e195, up2_ne (by omega)]
                            refine pv_aload_n (M := mX12_law) 0 dX12_law_158 159 rfl rfl rfl ?_
                            refine mv_get (M := mX12_law) (v := .ref 138) dX12_law_159 FX12 29 wd1202 (by decide) (tl123 hT) rfl rfl 162 rfl ?_
                            refine pv_iload_n (M := mX12_law) 3 dX12_law_162 163 rfl rfl rfl ?_
                            refine pv_aload_n (M := mX12_law) 0 dX12_law_163 164 rfl rfl rfl ?_
                            refine mv_get (M := mX12_law) (v := .ref 133) dX12_law_164 FX12 24 wd1197 (by decide) (tl123 hT) rfl rfl 167 rfl ?_
                            refine pv_iload_n (M := mX12_law) 3 dX12_law_167 168 rfl rfl rfl ?_
                            refine iv_iald (M := mX12_law) (X := y162.toInt) (l1 := 0) (l2 := 180) dX12_law_168 (tl133 hT) rfl (by omega) (by omega) I193 (fun _ => rfl) 169 rfl (fun v203 ev203 pv203 qv203 => ?_)
                            have k169 := ev203
                            refine iv_iast (M := mX12_law) (X := y162.toInt) (l1 := 0) (l2 := 180) dX12_law_169 (tl138 hT) rfl (by omega) (by omega) I193 (fun _ => rfl) (by omega) (by omega) 170 rfl (fun m205 e208 I206 => ?_)
                            have K207 := K194.set e208 rfl
                            have w209 : (m205 123 12).toInt = (m192 123 12).toInt := by rw [e208, up2_ne (by omega)]
                            have w210 : (m205 123 13).toInt = (m192 123 13).toInt := by rw [e208, up2_ne (by omega)]
                            have w211 : (m205 123 16).toInt = (m192 123 16).toInt := by rw [e208, up2_ne (by omega)]
                            have w212 : (m205 123 17).toInt = (m192 123 17).toInt := by rw [e208, up2_ne (by omega)]
                            have w213 : (m205 123 18).toInt = (m192 123 18).toInt := by rw [e208, up2_ne (by omega)]
                            have w214 : (m205 123 20).toInt = (m192 123 20).toInt := by rw [e208, up2_ne (by omega)]
                            have w215 : (m205 123 11).toInt = (m192 123 11).toInt := by rw [e208, up2_ne (by omega)]
                            refine pv_aload_n (M := mX12_law) 0 dX12_law_170 171 rfl rfl rfl ?_
                            refine mv_get (M := mX12_law) (v := .ref 139) dX12_law_171 FX12 30 wd1203 (by decide) (tl123 hT) rfl rfl 174 rfl ?_
                            refine pv_iload_n (M := mX12_law) 3 dX12_law_174 175 rfl rfl rfl ?_
                            refine pv_aload_n (M := mX12_law) 0 dX12_law_175 176 rfl rfl rfl ?_
                            refine mv_get (M := mX12_law) (v := .ref 134) dX12_law_176 FX12 25 wd1198 (by decide) (tl123 hT) rfl rfl 179 rfl ?_
                            refine pv_iload_n (M := mX12_law) 3 dX12_law_179 180 rfl rfl rfl ?_
                            refine iv_iald (M := mX12_law) (X := y162.toInt) (l1 := 0) (l2 := 180) dX12_law_180 (tl134 hT) rfl (by omega) (by omega) I206 (fun _ => rfl) 181 rfl (fun v216 ev216 pv216 qv216 => ?_)
                            have k181 := ev216
                            refine iv_iast (M := mX12_law) (X := y162.toInt) (l1 := 0) (l2 := 180) dX12_law_181 (tl139 hT) rfl (by omega) (by omega) I206 (fun _ => rfl) (by omega) (by omega) 182 rfl (fun m218 e221 I219 => ?_)
                            have K220 := K207.set e221 rfl
                            have w222 : (m218 123 12).toInt = (m205 123 12).toInt := by rw [e221, up2_ne (by omega)]
                            have w223 : (m218 123 13).toInt = (m205 123 13).toInt := by rw [e221, up2_ne (by omega)]
                            have w224 : (m218 123 16).toInt = (m205 123 16).toInt := by rw [e221, up2_ne (by omega)]
                            have w225 : (m218 123 17).toInt = (m205 123 17).toInt := by rw [e221, up2_ne (by omega)]
                            have w226 : (m218 123 18).toInt = (m205 123 18).toInt := by rw [e221, up2_ne (by omega)]
                            have w227 : (m218 123 20).toInt = (m205 123 20).toInt := by rw [e221, up2_ne (by omega)]
                            have w228 : (m218 123 11).toInt = (m205 123 11).toInt := by rw [e221, up2_ne (by omega)]
                            refine pv_aload_n (M := mX12_law) 0 dX12_law_182 183 rfl rfl rfl ?_
                            refine mv_get (M := mX12_law) (v := .ref 140) dX12_law_183 FX12 31 wd1204 (by decide) (tl123 hT) rfl rfl 186 rfl ?_
                            refine pv_iload_n (M := mX12_law) 3 dX12_law_186 187 rfl rfl rfl ?_
                            refine pv_aload_n (M := mX12_law) 0 dX12_law_187 188 rfl rfl rfl ?_
                            refine mv_get (M := mX12_law) (v := .ref 135) dX12_law_188 FX12 26 wd1199 (by decide) (tl123 hT) rfl rfl 191 rfl ?_
                            refine pv_iload_n (M := mX12_law) 3 dX12_law_191 192 rfl rfl rfl ?_
                            refine iv_iald (M := mX12_law) (X := y162.toInt) (l1 := 0) (l2 := 180) dX12_law_192 (tl135 hT) rfl (by omega) (by omega) I219 (fun _ => rfl) 193 rfl (fun v229 ev229 pv229 qv229 => ?_)
                            have k193 := ev229
                            refine iv_iast (M := mX12_law) (X := y162.toInt) (l1 := 0) (l2 := 180) dX12_law_193 (tl140 hT) rfl (by omega) (by omega) I219 (fun _ => rfl) (by omega) (by omega) 194 rfl (fun m231 e234 I232 => ?_)
                            have K233 := K220.set e234 rfl
                            have w235 : (m231 123 12).toInt = (m218 123 12).toInt := by rw [e234, up2_ne (by omega)]
                            have w236 : (m231 123 13).toInt = (m218 123 13).toInt := by rw [e234, up2_ne (by omega)]
                            have w237 : (m231 123 16).toInt = (m218 123 16).toInt := by rw [e234, up2_ne (by omega)]
                            have w238 : (m231 123 17).toInt = (m218 123 17).toInt := by rw [e234, up2_ne (by omega)]
                            have w239 : (m231 123 18).toInt = (m218 123 18).toInt := by rw [e234, up2_ne (by omega)]
                            have w240 : (m231 123 20).toInt = (m218 123 20).toInt := by rw [e234, up2_ne (by omega)]
                            have w241 : (m231 123 11).toInt = (m218 123 11).toInt := by rw [e234, up2_ne (by omega)]
                            refine iv_inc (M := mX12_law) (C := 1) dX12_law_194 197 rfl rfl (by decide) rfl rfl (by decide) (by omega) (by omega) (fun v242 ev242 => ?_)
                            show PV _ _ _ _ _ _ _ 197 [.ref 123, .int x0, .int y66, .int v242] [] _
                            refine pv_goto (M := mX12_law) (tgt := 138) dX12_law_197 (by decide) ?_
                            have ksb1 : SX m231 := SX_eq ks (by rw [e234, e221, e208, e195, up2_ne (by omega), up2_ne (by omega), up2_ne (by omega), up2_ne (by omega)]) (by rw [e234, e221, e208, e195, up2_ne (by omega), up2_ne (by omega), up2_ne (by omega), up2_ne (by omega)]) (fun j => by rw [e234, e221, e208, e195, up2_ne (by omega), up2_ne (by omega), up2_ne (by omega), up2_ne (by omega)]) (fun j => by rw [e234, e221, e208, e195, up2_ne (by omega), up2_ne (by omega), up2_ne (by omega), up2_ne (by omega)]) (fun j => by rw [e234, e221, e208, e195, up2_ne (by omega), up2_ne (by omega), up2_ne (by omega), up2_ne (by omega)]) (fun j => by rw [e234, e221, e208, e195, up2_ne (by omega), up2_ne (by omega), up2_ne (by omega), up2_ne (by omega)])
                            have kcb1 : ∀ j : Nat, (j : Int) < (m231 123 16).toInt → m231 136 j = m231 130 j := fun j hj => (show m231 136 j = m163 136 j by rw [e234, e221, e208, e195, up2_ne (by omega), up2_ne (by omega), up2_ne (by omega), up2_ne (by omega)]).trans ((kc j (by omega)).trans (show m163 130 j = m231 130 j by rw [e234, e221, e208, e195, up2_ne (by omega), up2_ne (by omega), up2_ne (by omega), up2_ne (by omega)]))
                            have kdb : ∀ j : Nat, (j : Int) < v242.toInt → m231 138 j = m231 133 j ∧ m231 139 j = m231 134 j ∧ m231 140 j = m231 135 j := fun j hj => LW_step e195 e208 e221 e234 k169 k181 k193 kd (by omega)
                            exact ih169 v242 m231 n164 (by first | omega | assumption | exact (iv_rng _).2 | exact (iv_rng _).1 | decide) (by first | omega | assumption | exact (iv_rng _).2 | exact (iv_rng _).1 | decide) ksb1 (by first | omega | assumption | (show (m231 123 16).toInt ≤ 179; omega) | decide) (by first | omega | assumption | (show (m231 123 20).toInt = (m231 123 18).toInt; omega) | decide) kcb1 kdb I232 K233 (by omega)
                      have z246 : (0 : Int32).toInt = 0 := by decide
                      have ks1 := ks
                      have kcx : ∀ j : Nat, (j : Int) < (m137 123 16).toInt → m137 136 j = m137 130 j := fun j hj => kc j (by omega)
                      exact lp168 (((12 - 0) : Int).toNat + 1) 0 m137 n138 (by first | omega | assumption | exact (iv_rng _).2 | exact (iv_rng _).1 | decide) (by first | omega | assumption | exact (iv_rng _).2 | exact (iv_rng _).1 | decide) ks1 (by first | omega | assumption | (show (m137 123 16).toInt ≤ 179; omega) | decide) (by first | omega | assumption | (show (m137 123 20).toInt = (m137 123 18).toInt; omega) | decide) kcx (fun j hj => by omega) I139 K140 (by omega)
                    · have c161 := iv_nle (X := v160.toInt) (Y := y136.toInt) c161 rfl rfl
                      refine pv_aload_n (M := mX12_law) 0 dX12_law_118 119 rfl rfl rfl ?_
                      refine mv_get (M := mX12_law) (v := .ref 136) dX12_law_119 FX12 27 wd1200 (by decide) (tl123 hT) rfl rfl 122 rfl ?_
                      refine pv_iload_n (M := mX12_law) 3 dX12_law_122 123 rfl rfl rfl ?_
                      refine pv_aload_n (M := mX12_law) 0 dX12_law_123 124 rfl rfl rfl ?_
                      refine mv_get (M := mX12_law) (v := .ref 130) dX12_law_124 FX12 21 wd1194 (by decide) (tl123 hT) rfl rfl 127 rfl ?_
                      refine pv_iload_n (M := mX12_law) 3 dX12_law_127 128 rfl rfl rfl ?_
                      refine iv_iald (M := mX12_law) (X := y136.toInt) (l1 := 0) (l2 := 13631487) dX12_law_128 (tl130 hT) rfl (by omega) (by omega) I139 (fun _ => rfl) 129 rfl (fun v249 ev249 pv249 qv249 => ?_)
                      have k129 := ev249
                      refine iv_iast (M := mX12_law) (X := y136.toInt) (l1 := 0) (l2 := 13631487) dX12_law_129 (tl136 hT) rfl (by omega) (by omega) I139 (fun _ => rfl) (by omega) (by omega) 130 rfl (fun m251 e254 I252 => ?_)
                      have K253 := K140.set e254 rfl
                      have w255 : (m251 123 12).toInt = (m137 123 12).toInt := by rw [e254, up2_ne (by omega)]
                      have w256 : (m251 123 13).toInt = (m137 123 13).toInt := by rw [e254, up2_ne (by omega)]
                      have w257 : (m251 123 16).toInt = (m137 123 16).toInt := by rw [e254, up2_ne (by omega)]
                      have w258 : (m251 123 17).toInt = (m137 123 17).toInt := by rw [e254, up2_ne (by omega)]
                      have w259 : (m251 123 18).toInt = (m137 123 18).toInt := by rw [e254, up2_ne (by omega)]
                      have w260 : (m251 123 20).toInt = (m137 123 20).toInt := by rw [e254, up2_ne (by omega)]
                      have w261 : (m251 123 11).toInt = (m137 123 11).toInt := by rw [e254, up2_ne (by omega)]
                      refine iv_inc (M := mX12_law) (C := 1) dX12_law_130 133 rfl rfl (by decide) rfl rfl (by decide) (by omega) (by omega) (fun v262 ev262 => ?_)
                      show PV _ _ _ _ _ _ _ 133 [.ref 123, .int x0, .int y66, .int v262] [] _
                      refine pv_goto (M := mX12_law) (tgt := 110) dX12_law_133 (by decide) ?_
                      have ksb : SX m251 := SX_eq ks (by rw [e254, up2_ne (by omega)]) (by rw [e254, up2_ne (by omega)]) (fun j => by rw [e254, up2_ne (by omega)]) (fun j => by rw [e254, up2_ne (by omega)]) (fun j => by rw [e254, up2_ne (by omega)]) (fun j => by rw [e254, up2_ne (by omega)])
                      have kcb : ∀ j : Nat, (j : Int) < v262.toInt → m251 136 j = m251 130 j := fun j hj => by rw [e254]; exact (if q : j = (y136.toInt).toNat then (by rw [q, up2_f, up2_ne (by omega)]; exact k129) else (by rw [up2_ne (fun z => q z.2), up2_ne (by omega)]; exact kc j (by omega)))
                      exact ih143 v262 m251 n138 (by first | omega | assumption | exact (iv_rng _).2 | exact (iv_rng _).1 | decide) (by first | omega | assumption | exact (iv_rng _).2 | exact (iv_rng _).1 | decide) ksb (by first | omega | assumption | (show (m251 123 16).toInt ≤ 179; omega) | decide) (by first | omega | assumption | (show (m251 123 20).toInt = (m251 123 18).toInt; omega) | decide) kcb I252 K253 (by omega)
                have z265 : (0 : Int32).toInt = 0 := by decide
                have ks0 : SX m125 := SX_eq kG.1 (by rw [e128, e112, up2_ne (by omega), up2_ne (by omega)]) (by rw [e128, e112, up2_ne (by omega), up2_ne (by omega)]) (fun j => by rw [e128, e112, up2_ne (by omega), up2_ne (by omega)]) (fun j => by rw [e128, e112, up2_ne (by omega), up2_ne (by omega)]) (fun j => by rw [e128, e112, up2_ne (by omega), up2_ne (by omega)]) (fun j => by rw [e128, e112, up2_ne (by omega), up2_ne (by omega)])
                exact lp142 (((180 - 0) : Int).toNat + 1) 0 m125 n68 (by first | omega | assumption | exact (iv_rng _).2 | exact (iv_rng _).1 | decide) (by first | omega | assumption | exact (iv_rng _).2 | exact (iv_rng _).1 | decide) ks0 (by first | omega | assumption | (show (m125 123 16).toInt ≤ 179; omega) | decide) (by first | omega | assumption | (show (m125 123 20).toInt = (m125 123 18).toInt; omega) | decide) (fun j hj => by omega) I126 K127 (by omega)
              · have c120 := iv_eq (X := y66.toInt) (Y := 0) c120 rfl (by decide)
                omega
            · have c108 := iv_nle (X := v107.toInt) (Y := v106.toInt) c108 rfl rfl
              refine pv_aload_n (M := mX12_law) 0 dX12_law_61 62 rfl rfl rfl ?_
              refine pv_bipush (M := mX12_law) (v := 59) dX12_law_62 64 rfl (by decide) ?_
              have z267 : (59 : Int32).toInt = 59 := by decide
              refine pv_callv (M := mX12_law) (as := [.int 59]) (st := []) (kc2 := 0) (ks2 := 0) dX12_law_64 wd1488 YX12_takes ⟨wd1490, wd76⟩ (mk_get (tl123 hT)) rfl rfl (s_X12_takes g hT I69 59 (by decide) (by decide) (by first | omega | assumption | exact (iv_rng _).2 | exact (iv_rng _).1 | decide)) rfl rfl (Nat.le_of_ble_eq_true rfl) (by decide) rfl rfl 67 rfl (fun rv h1 q268 => ?_)
              obtain ⟨m269, n270, v273, rfl, rfl, I271, K272, pv273, qv273, rv273⟩ := q268
              replace rv273 : (v273.toInt = 0 ∨ (m269 123 12).toInt = (m67 123 12).toInt + 1) ∧ (m67 123 12).toInt ≤ (m269 123 12).toInt ∧ (m269 123 12).toInt ≤ (m269 123 13).toInt ∧ (m269 123 13).toInt = (m67 123 13).toInt := rv273
              have K272c := K272
              have w274 : (m269 123 13).toInt = (m67 123 13).toInt := congrArg Int32.toInt (K272 123 13 rfl)
              have w275 : (m269 123 16).toInt = (m67 123 16).toInt := congrArg Int32.toInt (K272 123 16 rfl)
              have w276 : (m269 123 17).toInt = (m67 123 17).toInt := congrArg Int32.toInt (K272 123 17 rfl)
              have w277 : (m269 123 18).toInt = (m67 123 18).toInt := congrArg Int32.toInt (K272 123 18 rfl)
              have w278 : (m269 123 20).toInt = (m67 123 20).toInt := congrArg Int32.toInt (K272 123 20 rfl)
              have w279 : (m269 123 11).toInt = (m67 123 11).toInt := congrArg Int32.toInt (K272 123 11 rfl)
              have K272 := K70.trans (K272.sub (wl_sub (by decide)))
              show PV _ _ _ _ _ _ _ 67 [.ref 123, .int x0, .int y66, pv_U] [.int v273] _
              have kl2 : LX m269 := LX_eq kl (K272c 123 20 rfl) (fun j => K272c 136 j rfl) (fun j => K272c 138 j rfl) (fun j => K272c 139 j rfl) (fun j => K272c 140 j rfl)
              have kT : SX m269 := SX_eq kG.1 (K272c 123 18 rfl) (K272c 123 16 rfl) (fun j => K272c 130 j rfl) (fun j => K272c 133 j rfl) (fun j => K272c 134 j rfl) (fun j => K272c 135 j rfl)
              have klx : LX m269 := kl2
              refine pv_if_eq (M := mX12_law) (tgt := 81) dX12_law_67 70 rfl (by decide) (fun c283 => ?_) (fun c283 => ?_)
              · have c283 := iv_eq (X := v273.toInt) (Y := 0) c283 rfl (by decide)
                refine pv_iconst (M := mX12_law) (v := 0) dX12_law_81 82 rfl (by decide) ?_
                refine pv_istore_n (M := mX12_law) 2 (lo2 := [.ref 123, .int x0, .int 0, pv_U]) dX12_law_82 83 rfl rfl (by decide) rfl rfl ?_
                refine pv_goto (M := mX12_law) (tgt := 46) dX12_law_83 (by decide) ?_
                have z284 : (0 : Int32).toInt = 0 := by decide
                have klb := klx
                have kub : 0 ≤ (m269 123 12).toInt := (I271 123 12).1
                have kgb : ((0 : Int32)).toInt ≠ 0 → SX m269 ∧ (m269 123 16).toInt ≤ (m269 123 12).toInt ∧ (m269 123 12).toInt ≤ (m269 123 13).toInt := fun q => by first | omega | (have z := kR.resolve_left (by omega); exact ⟨z.1, z.2.1, z.2.2.2.1⟩)
                have kmm : 0 = 0 ∨ (m67 123 12).toInt + 1 ≤ (m269 123 12).toInt := by first | omega | (have z := kR.resolve_left (by omega); have z2 := z.2.2.1; omega)
                exact ih73 0 m269 n270 (by first | omega | assumption | exact (iv_rng _).2 | exact (iv_rng _).1 | decide) (by first | omega | assumption | exact (iv_rng _).2 | exact (iv_rng _).1 | decide) klb kgb I271 K272 (by omega)
              · have c283 := iv_ne (X := v273.toInt) (Y := 0) c283 rfl (by decide)
                refine pv_aload_n (M := mX12_law) 0 dX12_law_70 71 rfl rfl rfl ?_
                refine pv_callv (M := mX12_law) (as := []) (st := []) (kc2 := 0) (ks2 := 0) dX12_law_71 wd1413 YX12_readsClause ⟨wd1415, wd59⟩ (mk_get (tl123 hT)) rfl rfl (s_X12_readsClause g hT I271 (by omega) (by omega) kT) rfl rfl (Nat.le_of_ble_eq_true rfl) (by decide) rfl rfl 74 rfl (fun rv h1 q289 => ?_)
                obtain ⟨m290, n291, v294, rfl, rfl, I292, K293, pv294, qv294, rv294⟩ := q289
                replace rv294 : v294.toInt = 0 ∨ (SX m290 ∧ (m290 123 16).toInt ≤ (m290 123 12).toInt ∧ (m269 123 12).toInt + 1 ≤ (m290 123 12).toInt ∧ (m290 123 12).toInt ≤ (m290 123 13).toInt ∧ (m290 123 13).toInt = (m269 123 13).toInt) := rv294
                have K293c := K293
                have w295 : (m290 123 13).toInt = (m269 123 13).toInt := congrArg Int32.toInt (K293 123 13 rfl)
                have w296 : (m290 123 20).toInt = (m269 123 20).toInt := congrArg Int32.toInt (K293 123 20 rfl)
                have w297 : (m290 123 11).toInt = (m269 123 11).toInt := congrArg Int32.toInt (K293 123 11 rfl)
                have K293 := K272.trans (K293.sub (wl_sub (by decide)))
                show PV _ _ _ _ _ _ _ 74 [.ref 123, .int x0, .int y66, pv_U] [.int v294] _
                have kR := rv294
                have klx : LX m290 := LX_eq kl2 (K293c 123 20 rfl) (fun j => K293c 136 j rfl) (fun j => K293c 138 j rfl) (fun j => K293c 139 j rfl) (fun j => K293c 140 j rfl)
                refine pv_if_eq (M := mX12_law) (tgt := 81) dX12_law_74 77 rfl (by decide) (fun c300 => ?_) (fun c300 => ?_)
                · have c300 := iv_eq (X := v294.toInt) (Y := 0) c300 rfl (by decide)
                  refine pv_iconst (M := mX12_law) (v := 0) dX12_law_81 82 rfl (by decide) ?_
                  refine pv_istore_n (M := mX12_law) 2 (lo2 := [.ref 123, .int x0, .int 0, pv_U]) dX12_law_82 83 rfl rfl (by decide) rfl rfl ?_
                  refine pv_goto (M := mX12_law) (tgt := 46) dX12_law_83 (by decide) ?_
                  have z301 : (0 : Int32).toInt = 0 := by decide
                  have klb := klx
                  have kub : 0 ≤ (m290 123 12).toInt := (I292 123 12).1
                  have kgb : ((0 : Int32)).toInt ≠ 0 → SX m290 ∧ (m290 123 16).toInt ≤ (m290 123 12).toInt ∧ (m290 123 12).toInt ≤ (m290 123 13).toInt := fun q => by first | omega | (have z := kR.resolve_left (by omega); exact ⟨z.1, z.2.1, z.2.2.2.1⟩)
                  have kmm : 0 = 0 ∨ (m67 123 12).toInt + 1 ≤ (m290 123 12).toInt := by first | omega | (have z := kR.resolve_left (by omega); have z2 := z.2.2.1; omega)
                  exact ih73 0 m290 n291 (by first | omega | assumption | exact (iv_rng _).2 | exact (iv_rng _).1 | decide) (by first | omega | assumption | exact (iv_rng _).2 | exact (iv_rng _).1 | decide) klb kgb I292 K293 (by omega)
                · have c300 := iv_ne (X := v294.toInt) (Y := 0) c300 rfl (by decide)
                  refine pv_iconst (M := mX12_law) (v := 1) dX12_law_77 78 rfl (by decide) ?_
                  refine pv_goto (M := mX12_law) (tgt := 82) dX12_law_78 (by decide) ?_
                  refine pv_istore_n (M := mX12_law) 2 (lo2 := [.ref 123, .int x0, .int 1, pv_U]) dX12_law_82 83 rfl rfl (by decide) rfl rfl ?_
                  refine pv_goto (M := mX12_law) (tgt := 46) dX12_law_83 (by decide) ?_
                  have z306 : (1 : Int32).toInt = 1 := by decide
                  have klb := klx
                  have kub : 0 ≤ (m290 123 12).toInt := (I292 123 12).1
                  have kgb : ((1 : Int32)).toInt ≠ 0 → SX m290 ∧ (m290 123 16).toInt ≤ (m290 123 12).toInt ∧ (m290 123 12).toInt ≤ (m290 123 13).toInt := fun q => by first | omega | (have z := kR.resolve_left (by omega); exact ⟨z.1, z.2.1, z.2.2.2.1⟩)
                  have kmm : 1 = 0 ∨ (m67 123 12).toInt + 1 ≤ (m290 123 12).toInt := by first | omega | (have z := kR.resolve_left (by omega); have z2 := z.2.2.1; omega)
                  exact ih73 1 m290 n291 (by first | omega | assumption | exact (iv_rng _).2 | exact (iv_rng _).1 | decide) (by first | omega | assumption | exact (iv_rng _).2 | exact (iv_rng _).1 | decide) klb kgb I292 K293 (by omega)
      exact lp72 (((400 * v59.toInt + (160 - (m55 123 12).toInt)) : Int).toNat + 1) v59 m55 n56 (by first | omega | assumption | exact (iv_rng _).2 | exact (iv_rng _).1 | decide) (by first | omega | assumption | exact (iv_rng _).2 | exact (iv_rng _).1 | decide) kl0 kg0 I57 K58 (by omega)
    · have c8 := iv_nle (X := x0.toInt) (Y := v7.toInt) c8 rfl rfl
      refine pv_iconst (M := mX12_law) (v := (-1)) dX12_law_19 20 rfl (by decide) ?_
      have z311 : ((-1) : Int32).toInt = (-1) := by decide
      exact pv_iret (M := mX12_law) dX12_law_20 rfl rfl ⟨_, _, _, rfl, rfl, I, Kp, by decide, by decide, hp0⟩
