set_option maxHeartbeats 2000000 in
set_option maxRecDepth 20000 in
theorem s_X12_readsClause_vz (g : pv_G) {T : List mv_T} {m : Nat → Nat → Int32} {n : Nat → Nat → Int64} {r : Nat → Value} (hT : TX T) (I : IV BB m) (hp0 : (m 123 16).toInt ≤ (m 123 12).toInt) (hp1 : (m 123 12).toInt ≤ (m 123 13).toInt) (hp2 : SX m) : PM g mX12_readsClause yX12_readsClause (sqI T BB (wl [(123, 123, some 12), (123, 123, some 14), (123, 123, some 15), (123, 123, some 16), (123, 123, some 17), (123, 123, some 18), (123, 123, some 19), (130, 130, none), (131, 131, none), (132, 132, none), (133, 133, none), (134, 134, none), (135, 135, none)]) r m 0 1 (fun m' v => ((v.toInt = 0 ∧ FLT (CLA (tR m) (m 123 18).toInt (m 123 12).toInt) (m' 123 14).toInt) ∨ (v.toInt = 1 ∧ (SX m' ∧ (m' 123 16).toInt ≤ (m' 123 12).toInt ∧ (m 123 12).toInt + 1 ≤ (m' 123 12).toInt ∧ (m' 123 12).toInt ≤ (m' 123 13).toInt ∧ (m' 123 13).toInt = (m 123 13).toInt) ∧ CLA (tR m) (m 123 18).toInt (m 123 12).toInt = (0, (m' 123 12).toInt) ∧ (m' 123 18).toInt = (m 123 18).toInt + 1)) ∧ IFZ v.toInt (CLY (tR m) m m' (m 123 18).toInt.toNat (m 123 12).toInt))) 8 0 0 [.ref 123] (mk T m n r) := by
  have Kp : fr (wl [(123, 123, some 12), (123, 123, some 14), (123, 123, some 15), (123, 123, some 16), (123, 123, some 17), (123, 123, some 18), (123, 123, some 19), (130, 130, none), (131, 131, none), (132, 132, none), (133, 133, none), (134, 134, none), (135, 135, none)]) m m := fr.rf
  have z385 : 0 ≤ (m 123 12).toInt ∧ (m 123 12).toInt ≤ 160 := I 123 12
  have z386 : 0 ≤ (m 123 13).toInt ∧ (m 123 13).toInt ≤ 160 := I 123 13
  have z387 : 0 ≤ (m 123 16).toInt ∧ (m 123 16).toInt ≤ 180 := I 123 16
  have z388 : 0 ≤ (m 123 17).toInt ∧ (m 123 17).toInt ≤ 180 := I 123 17
  have z389 : 0 ≤ (m 123 18).toInt ∧ (m 123 18).toInt ≤ 12 := I 123 18
  refine PM.of 1 (lo := [.ref 123, pv_U]) rfl (by decide) rfl rfl (Nat.le_of_ble_eq_true rfl) ?_
  refine pv_aload_n (M := mX12_readsClause) 0 dX12_readsClause_0 1 rfl rfl rfl ?_
  refine pv_callv (M := mX12_readsClause) (as := []) (st := []) (kc2 := 0) (ks2 := 0) dX12_readsClause_1 wd1417 YX12_here ⟨wd1419, wd60⟩ (mk_get (tl123 hT)) rfl rfl (s_X12_here g hT I) rfl rfl (Nat.le_of_ble_eq_true rfl) (by decide) rfl rfl 4 rfl (fun rv h1 q1 => ?_)
  obtain ⟨v2, rfl, rfl, pv2, qv2, rv2⟩ := q1
  replace rv2 : v2.toInt = hereV m ∧ (v2.toInt = -1 ∨ (m 123 12).toInt < (m 123 13).toInt) := rv2
  show PV _ _ _ _ _ _ _ 4 [.ref 123, pv_U] [.int v2] _
  have k4 : v2.toInt = tR m (m 123 12).toInt := rv2.1
  refine pv_istore_n (M := mX12_readsClause) 1 (lo2 := [.ref 123, .int v2]) dX12_readsClause_4 5 rfl rfl (by decide) rfl rfl ?_
  refine pv_iload_n (M := mX12_readsClause) 1 dX12_readsClause_5 6 rfl rfl rfl ?_
  refine pv_bipush (M := mX12_readsClause) (v := 110) dX12_readsClause_6 8 rfl (by decide) ?_
  refine pv_icmp_eq (M := mX12_readsClause) (tgt := 27) dX12_readsClause_8 11 rfl (by decide) (fun c4 => ?_) (fun c4 => ?_)
  · have c4 := iv_eq (X := v2.toInt) (Y := 110) c4 rfl (by decide)
    refine pv_aload_n (M := mX12_readsClause) 0 dX12_readsClause_27 28 rfl rfl rfl ?_
    refine iv_get (M := mX12_readsClause) (l1 := 0) (l2 := 12) dX12_readsClause_28 FX12 18 wd1191 (by decide) (tl123 hT) rfl I rfl 31 rfl (fun v5 ev5 pv5 qv5 => ?_)
    have wv5 : v5.toInt = (m 123 18).toInt := congrArg Int32.toInt ev5
    refine pv_bipush (M := mX12_readsClause) (v := 12) dX12_readsClause_31 33 rfl (by decide) ?_
    refine pv_icmp_ne (M := mX12_readsClause) (tgt := 46) dX12_readsClause_33 36 rfl (by decide) (fun c6 => ?_) (fun c6 => ?_)
    · have c6 := iv_ne (X := v5.toInt) (Y := 12) c6 rfl (by decide)
      refine pv_aload_n (M := mX12_readsClause) 0 dX12_readsClause_46 47 rfl rfl rfl ?_
      refine mv_get (M := mX12_readsClause) (v := .ref 132) dX12_readsClause_47 FX12 23 wd1196 (by decide) (tl123 hT) rfl rfl 50 rfl ?_
      refine pv_aload_n (M := mX12_readsClause) 0 dX12_readsClause_50 51 rfl rfl rfl ?_
      refine iv_get (M := mX12_readsClause) (l1 := 0) (l2 := 12) dX12_readsClause_51 FX12 18 wd1191 (by decide) (tl123 hT) rfl I rfl 54 rfl (fun v7 ev7 pv7 qv7 => ?_)
      have wv7 : v7.toInt = (m 123 18).toInt := congrArg Int32.toInt ev7
      refine pv_iload_n (M := mX12_readsClause) 1 dX12_readsClause_54 55 rfl rfl rfl ?_
      refine iv_iast (M := mX12_readsClause) (X := v7.toInt) (l1 := (-2147483648)) (l2 := 2147483647) dX12_readsClause_55 (tl132 hT) rfl (by omega) (by omega) I (fun _ => rfl) (iv_rng v2).1 (iv_rng v2).2 56 rfl (fun m8 e11 I9 => ?_)
      have K10 := Kp.set e11 rfl
      have w12 : (m8 123 12).toInt = (m 123 12).toInt := by rw [e11, up2_ne (by omega)]
      have w13 : (m8 123 13).toInt = (m 123 13).toInt := by rw [e11, up2_ne (by omega)]
      have w14 : (m8 123 16).toInt = (m 123 16).toInt := by rw [e11, up2_ne (by omega)]
      have w15 : (m8 123 17).toInt = (m 123 17).toInt := by rw [e11, up2_ne (by omega)]
      have w16 : (m8 123 18).toInt = (m 123 18).toInt := by rw [e11, up2_ne (by omega)]
      have w17 : (m8 123 14).toInt = (m 123 14).toInt := by rw [e11, up2_ne (by omega)]
      have w18 : (m8 123 15).toInt = (m 123 15).toInt := by rw [e11, up2_ne (by omega)]
      have e1 := e11
      refine pv_aload_n (M := mX12_readsClause) 0 dX12_readsClause_56 57 rfl rfl rfl ?_
      refine pv_aload_n (M := mX12_readsClause) 0 dX12_readsClause_57 58 rfl rfl rfl ?_
      refine iv_get (M := mX12_readsClause) (l1 := 0) (l2 := 160) dX12_readsClause_58 FX12 12 wd1185 (by decide) (tl123 hT) rfl I9 rfl 61 rfl (fun v20 ev20 pv20 qv20 => ?_)
      have wv20 : v20.toInt = (m8 123 12).toInt := congrArg Int32.toInt ev20
      refine pv_iconst (M := mX12_readsClause) (v := 1) dX12_readsClause_61 62 rfl (by decide) ?_
      refine iv_iadd (M := mX12_readsClause) (X := v20.toInt) (Y := 1) dX12_readsClause_62 63 rfl rfl (by decide) (by omega) (by omega) (fun v21 ev21 => ?_)
      refine iv_put (M := mX12_readsClause) (l1 := 0) (l2 := 160) dX12_readsClause_63 FX12 12 wd1185 (by decide) rfl (tl123 hT) rfl rfl rfl I9 rfl (by omega) (by omega) 66 rfl (fun m22 e25 I23 => ?_)
      have K24 := K10.set e25 rfl
      have w26 : (m22 123 12).toInt = v21.toInt := by rw [e25, up2_eq]
      have w27 : (m22 123 13).toInt = (m8 123 13).toInt := by rw [e25, up2_ne (by omega)]
      have w28 : (m22 123 16).toInt = (m8 123 16).toInt := by rw [e25, up2_ne (by omega)]
      have w29 : (m22 123 17).toInt = (m8 123 17).toInt := by rw [e25, up2_ne (by omega)]
      have w30 : (m22 123 18).toInt = (m8 123 18).toInt := by rw [e25, up2_ne (by omega)]
      have w31 : (m22 123 14).toInt = (m8 123 14).toInt := by rw [e25, up2_ne (by omega)]
      have w32 : (m22 123 15).toInt = (m8 123 15).toInt := by rw [e25, up2_ne (by omega)]
      have e2 := e25
      refine pv_aload_n (M := mX12_readsClause) 0 dX12_readsClause_66 67 rfl rfl rfl ?_
      refine mv_get (M := mX12_readsClause) (v := .ref 133) dX12_readsClause_67 FX12 24 wd1197 (by decide) (tl123 hT) rfl rfl 70 rfl ?_
      refine pv_aload_n (M := mX12_readsClause) 0 dX12_readsClause_70 71 rfl rfl rfl ?_
      refine iv_get (M := mX12_readsClause) (l1 := 0) (l2 := 12) dX12_readsClause_71 FX12 18 wd1191 (by decide) (tl123 hT) rfl I23 rfl 74 rfl (fun v34 ev34 pv34 qv34 => ?_)
      have wv34 : v34.toInt = (m22 123 18).toInt := congrArg Int32.toInt ev34
      refine pv_aload_n (M := mX12_readsClause) 0 dX12_readsClause_74 75 rfl rfl rfl ?_
      refine iv_get (M := mX12_readsClause) (l1 := 0) (l2 := 180) dX12_readsClause_75 FX12 16 wd1189 (by decide) (tl123 hT) rfl I23 rfl 78 rfl (fun v35 ev35 pv35 qv35 => ?_)
      have wv35 : v35.toInt = (m22 123 16).toInt := congrArg Int32.toInt ev35
      have k78 : v35 = m 123 16 := ev35.trans (by rw [e2, up2_ne (by omega), e1, up2_ne (by omega)])
      refine iv_iast (M := mX12_readsClause) (X := v34.toInt) (l1 := 0) (l2 := 180) dX12_readsClause_78 (tl133 hT) rfl (by omega) (by omega) I23 (fun _ => rfl) (by omega) (by omega) 79 rfl (fun m37 e40 I38 => ?_)
      have K39 := K24.set e40 rfl
      have w41 : (m37 123 12).toInt = (m22 123 12).toInt := by rw [e40, up2_ne (by omega)]
      have w42 : (m37 123 13).toInt = (m22 123 13).toInt := by rw [e40, up2_ne (by omega)]
      have w43 : (m37 123 16).toInt = (m22 123 16).toInt := by rw [e40, up2_ne (by omega)]
      have w44 : (m37 123 17).toInt = (m22 123 17).toInt := by rw [e40, up2_ne (by omega)]
      have w45 : (m37 123 18).toInt = (m22 123 18).toInt := by rw [e40, up2_ne (by omega)]
      have w46 : (m37 123 14).toInt = (m22 123 14).toInt := by rw [e40, up2_ne (by omega)]
      have w47 : (m37 123 15).toInt = (m22 123 15).toInt := by rw [e40, up2_ne (by omega)]
      have e3 := e40
      refine pv_aload_n (M := mX12_readsClause) 0 dX12_readsClause_79 80 rfl rfl rfl ?_
      refine pv_iconst (M := mX12_readsClause) (v := 0) dX12_readsClause_80 81 rfl (by decide) ?_
      refine iv_put (M := mX12_readsClause) (l1 := (-2147483648)) (l2 := 2147483647) dX12_readsClause_81 FX12 15 wd1188 (by decide) rfl (tl123 hT) rfl rfl rfl I38 rfl (by decide) (by decide) 84 rfl (fun m49 e52 I50 => ?_)
      have K51 := K39.set e52 rfl
      have w53 : (m49 123 12).toInt = (m37 123 12).toInt := by rw [e52, up2_ne (by omega)]
      have w54 : (m49 123 13).toInt = (m37 123 13).toInt := by rw [e52, up2_ne (by omega)]
      have w55 : (m49 123 16).toInt = (m37 123 16).toInt := by rw [e52, up2_ne (by omega)]
      have w56 : (m49 123 17).toInt = (m37 123 17).toInt := by rw [e52, up2_ne (by omega)]
      have w57 : (m49 123 18).toInt = (m37 123 18).toInt := by rw [e52, up2_ne (by omega)]
      have w58 : (m49 123 14).toInt = (m37 123 14).toInt := by rw [e52, up2_ne (by omega)]
      have w59 : (m49 123 15).toInt = 0 := by rw [e52, up2_eq] <;> rfl
      have e4 := e52
      refine pv_aload_n (M := mX12_readsClause) 0 dX12_readsClause_84 85 rfl rfl rfl ?_
      refine pv_iconst (M := mX12_readsClause) (v := 0) dX12_readsClause_85 86 rfl (by decide) ?_
      refine iv_put (M := mX12_readsClause) (l1 := 0) (l2 := 180) dX12_readsClause_86 FX12 17 wd1190 (by decide) rfl (tl123 hT) rfl rfl rfl I50 rfl (by decide) (by decide) 89 rfl (fun m61 e64 I62 => ?_)
      have K63 := K51.set e64 rfl
      have w65 : (m61 123 12).toInt = (m49 123 12).toInt := by rw [e64, up2_ne (by omega)]
      have w66 : (m61 123 13).toInt = (m49 123 13).toInt := by rw [e64, up2_ne (by omega)]
      have w67 : (m61 123 16).toInt = (m49 123 16).toInt := by rw [e64, up2_ne (by omega)]
      have w68 : (m61 123 17).toInt = 0 := by rw [e64, up2_eq] <;> rfl
      have w69 : (m61 123 18).toInt = (m49 123 18).toInt := by rw [e64, up2_ne (by omega)]
      have w70 : (m61 123 14).toInt = (m49 123 14).toInt := by rw [e64, up2_ne (by omega)]
      have w71 : (m61 123 15).toInt = (m49 123 15).toInt := by rw [e64, up2_ne (by omega)]
      have e5 := e64
      have s5 := SLK_new (m := m61) (by omega)
      have kt89 : tR m61 = tR m := tR_eq (K63 123 13 rfl) (fun j => K63 129 j rfl)
      have ko89 : eo (m61 123 15).toInt = 6 := by unfold eo; omega
      have kp89 : (m61 123 12).toInt = (m 123 12).toInt + 1 := by omega
      have kb1 : (m61 132 (m 123 18).toInt.toNat).toInt = tR m (m 123 12).toInt := by rw [e5, up2_ne (by omega), e4, up2_ne (by omega), e3, up2_ne (by omega), e2, up2_ne (by omega), e1, up2_at (by omega)]; omega
      have kb2 : m61 133 (m 123 18).toInt.toNat = m 123 16 := by rw [e5, up2_ne (by omega), e4, up2_ne (by omega), e3, up2_at (by omega), k78]
      have kb3 : ∀ a j, 132 ≤ a → a ≤ 135 → j ≠ (m 123 18).toInt.toNat → m61 a j = m a j := fun a j h1 h2 h3 => by rw [e5, up2_ne (by omega), e4, up2_ne (by omega), e3, up2_ne (by omega), e2, up2_ne (by omega), e1, up2_ne (by omega)]
      have kb4 : ∀ j, m61 130 j = m 130 j := fun j => by rw [e5, up2_ne (by omega), e4, up2_ne (by omega), e3, up2_ne (by omega), e2, up2_ne (by omega), e1, up2_ne (by omega)]
      have kb5 : m61 123 16 = m 123 16 := by rw [e5, up2_ne (by omega), e4, up2_ne (by omega), e3, up2_ne (by omega), e2, up2_ne (by omega), e1, up2_ne (by omega)]
      refine pv_iload_n (M := mX12_readsClause) 1 dX12_readsClause_89 90 rfl rfl rfl ?_
      refine pv_bipush (M := mX12_readsClause) (v := 112) dX12_readsClause_90 92 rfl (by decide) ?_
      refine pv_icmp_ne (M := mX12_readsClause) (tgt := 104) dX12_readsClause_92 95 rfl (by decide) (fun c82 => ?_) (fun c82 => ?_)
      · have c82 := iv_ne (X := v2.toInt) (Y := 112) c82 rfl (by decide)
        have q6 : FR4 m61 m61 ∧ KB (m 123 16).toInt m61 m61 ∧ WFc (m61 130) (m 123 16).toInt.toNat (m61 123 16).toInt.toNat ∧ (m 123 16).toInt ≤ (m61 123 16).toInt ∧ 0 ≤ SLK m61 ∧ (m61 123 17).toInt = 0 ∧ (m61 123 12).toInt ≤ (m61 123 12).toInt ∧ (m61 123 12).toInt ≤ (m61 123 13).toInt ∧ (m61 123 13).toInt = (m61 123 13).toInt := by first | (have kS := (kR.resolve_left (fun q => by have q1 := q.1; omega)).2.1; have z1 := kS.2.1; have z2 := kS.2.2.2.1; have z3 := kS.2.2.2.2.2.1; have z4 := kS.2.2.2.2.2.2.1; have z5 := kS.2.2.2.2.2.2.2; exact ⟨f6, kS.2.2.1, HW_done kS.1 (show (m61 123 17).toInt = 0 by omega), kS.1.1.2.1, by omega, by omega, by omega, by omega, by omega⟩) | exact ⟨⟨fun _ => rfl, fun _ => rfl, fun _ => rfl, rfl⟩, KB.rf, WFc_nil (by omega), by omega, by rw [s5]; omega, by omega, by omega, by omega, by omega⟩
        have q61 := q6.2.2.2.1
        have q62 := q6.2.2.2.2.2.1
        have q63 := q6.2.2.2.2.2.2.1
        have q64 := q6.2.2.2.2.2.2.2.1
        have q65 := q6.2.2.2.2.2.2.2.2
        have kSU : CLA (tR m) (m 123 18).toInt (m 123 12).toInt = CND (tR m) (m61 123 12).toInt := by first | exact CLA_p (by omega) (by omega) (kR.resolve_left (fun q => by have q1 := q.1; omega)).2.2.1 | (rw [CLA_n (by omega) (by omega), show (m 123 12).toInt + 1 = (m61 123 12).toInt by omega])
        have ks2 : (tR m (m 123 12).toInt = 112 ∧ SRZ m61 m61 (CDP (tR m) (m 123 12).toInt)) ∨ (tR m (m 123 12).toInt = 110 ∧ m61 = m61) := by first | exact Or.inr ⟨by omega, rfl⟩ | exact Or.inl ⟨by omega, IFZ.get kRz (by omega)⟩
        have kf2 : ∀ a j, 132 ≤ a → a ≤ 135 → m61 a j = m61 a j := by first | exact fun _ _ _ _ => rfl | exact (fun a j h1 h2 => by rcases (show a = 132 ∨ a = 133 ∨ a = 134 ∨ a = 135 by omega) with q | q | q | q <;> subst q <;> exact e64 _ j rfl)
        have kCQ : CQP (tR m) (m 123 12).toInt = (m61 123 12).toInt := by unfold CQP; first | (rw [if_neg (by omega)]; omega) | (rw [if_pos (by omega), (kR.resolve_left (fun q => by have q1 := q.1; omega)).2.2.1])
        refine pv_aload_n (M := mX12_readsClause) 0 dX12_readsClause_104 105 rfl rfl rfl ?_
        refine mv_get (M := mX12_readsClause) (v := .ref 134) dX12_readsClause_105 FX12 25 wd1198 (by decide) (tl123 hT) rfl rfl 108 rfl ?_
        refine pv_aload_n (M := mX12_readsClause) 0 dX12_readsClause_108 109 rfl rfl rfl ?_
        refine iv_get (M := mX12_readsClause) (l1 := 0) (l2 := 12) dX12_readsClause_109 FX12 18 wd1191 (by decide) (tl123 hT) rfl I62 rfl 112 rfl (fun v93 ev93 pv93 qv93 => ?_)
        have wv93 : v93.toInt = (m61 123 18).toInt := congrArg Int32.toInt ev93
        refine pv_aload_n (M := mX12_readsClause) 0 dX12_readsClause_112 113 rfl rfl rfl ?_
        refine iv_get (M := mX12_readsClause) (l1 := 0) (l2 := 180) dX12_readsClause_113 FX12 16 wd1189 (by decide) (tl123 hT) rfl I62 rfl 116 rfl (fun v94 ev94 pv94 qv94 => ?_)
        have wv94 : v94.toInt = (m61 123 16).toInt := congrArg Int32.toInt ev94
        have k116 : v94 = m61 123 16 := ev94
        refine iv_iast (M := mX12_readsClause) (X := v93.toInt) (l1 := 0) (l2 := 180) dX12_readsClause_116 (tl134 hT) rfl (by omega) (by omega) I62 (fun _ => rfl) (by omega) (by omega) 117 rfl (fun m96 e99 I97 => ?_)
        have K98 := K63.set e99 rfl
        have w100 : (m96 123 12).toInt = (m61 123 12).toInt := by rw [e99, up2_ne (by omega)]
        have w101 : (m96 123 13).toInt = (m61 123 13).toInt := by rw [e99, up2_ne (by omega)]
        have w102 : (m96 123 16).toInt = (m61 123 16).toInt := by rw [e99, up2_ne (by omega)]
        have w103 : (m96 123 17).toInt = (m61 123 17).toInt := by rw [e99, up2_ne (by omega)]
        have w104 : (m96 123 18).toInt = (m61 123 18).toInt := by rw [e99, up2_ne (by omega)]
        have w105 : (m96 123 14).toInt = (m61 123 14).toInt := by rw [e99, up2_ne (by omega)]
        have w106 : (m96 123 15).toInt = (m61 123 15).toInt := by rw [e99, up2_ne (by omega)]
        have e7 := e99
        have kt117 : tR m96 = tR m := tR_eq (K98 123 13 rfl) (fun j => K98 129 j rfl)
        have kp117 : (m96 123 12).toInt = (m61 123 12).toInt := by omega
        have kb6 : m96 134 (m 123 18).toInt.toNat = m61 123 16 := by rw [e7, up2_at (by omega)]; exact k116
        have kb7 : ∀ a j, a ≠ 134 ∨ j ≠ (m 123 18).toInt.toNat → m96 a j = m61 a j := fun a j q => by rw [e7, up2_ne (by omega)]
        refine pv_aload_n (M := mX12_readsClause) 0 dX12_readsClause_117 118 rfl rfl rfl ?_
        refine pv_callv (M := mX12_readsClause) (as := []) (st := []) (kc2 := 0) (ks2 := 0) dX12_readsClause_118 wd1468 YX12_readsCondition ⟨wd1470, wd71⟩ (mk_get (tl123 hT)) rfl rfl (s_X12_readsCondition_vz g hT I97 ((m61 123 16).toInt) (by rw [SLK_eq (m := m61) (by rw [e99, up2_ne (by omega)]) (by rw [e99, up2_ne (by omega)]) (by rw [e99, up2_ne (by omega)]) (fun j => by rw [e99, up2_ne (by omega)])]; exact q6.2.2.2.2.1) (by first | omega | assumption | exact (iv_rng _).2 | exact (iv_rng _).1 | decide) (by first | omega | assumption | exact (iv_rng _).2 | exact (iv_rng _).1 | decide)) rfl rfl (Nat.le_of_ble_eq_true rfl) (by decide) rfl rfl 121 rfl (fun rv h1 q112 => ?_)
        obtain ⟨m113, n114, v117, rfl, rfl, I115, K116, pv117, qv117, rv117⟩ := q112
        replace rv117 : ((v117.toInt = 0 ∧ FLT (CND (tR m96) (m96 123 12).toInt) (m113 123 14).toInt) ∨ (v117.toInt = 1 ∧ (WFc (m113 130) ((m61 123 16).toInt).toNat (m113 123 16).toInt.toNat ∧ KB ((m61 123 16).toInt) m96 m113 ∧ 0 ≤ SLK m113 ∧ ((m61 123 16).toInt) ≤ (m113 123 16).toInt ∧ (m96 123 12).toInt ≤ (m113 123 12).toInt ∧ (m113 123 12).toInt ≤ (m113 123 13).toInt ∧ (m113 123 13).toInt = (m96 123 13).toInt ∧ (m113 123 17).toInt = 0) ∧ CND (tR m96) (m96 123 12).toInt = (0, (m113 123 12).toInt))) ∧ IFZ v117.toInt (SRZ m96 m113 (CND_ (tR m96) 5 ((m96 123 12).toInt + 1)) ∧ B1 (CND_ (tR m96) 5 ((m96 123 12).toInt + 1))) := rv117
        have K116c := K116
        have w118 : (m113 123 13).toInt = (m96 123 13).toInt := congrArg Int32.toInt (K116 123 13 rfl)
        have w119 : (m113 123 18).toInt = (m96 123 18).toInt := congrArg Int32.toInt (K116 123 18 rfl)
        have K116 := K98.trans (K116.sub (wl_sub (by decide)))
        show PV _ _ _ _ _ _ _ 121 [.ref 123, .int v2] [.int v117] _
        have kC := rv117.1
        have f8 : FR4 m96 m113 := ⟨fun j => K116c 133 j rfl, fun j => K116c 134 j rfl, fun j => K116c 135 j rfl, K116c 123 18 rfl⟩
        rw [kt117, kp117] at kC
        have kCz := rv117.2
        rw [kt117, kp117] at kCz
        refine pv_if_ne (M := mX12_readsClause) (tgt := 126) dX12_readsClause_121 124 rfl (by decide) (fun c125 => ?_) (fun c125 => ?_)
        · have c125 := iv_ne (X := v117.toInt) (Y := 0) c125 rfl (by decide)
          have kc := (kC.resolve_left (fun q => by have q1 := q.1; omega)).2.1
          have kcC := (kC.resolve_left (fun q => by have q1 := q.1; omega)).2.2
          have kc1 := kc.2.2.2.1
          have kc2 : (m113 123 16).toInt ≤ (m113 123 12).toInt := SLK_cm kc.2.2.1
          have kc3 := kc.2.2.2.2.1
          have kc4 := kc.2.2.2.2.2.1
          have kc5 := kc.2.2.2.2.2.2.1
          have ks4 := IFZ.get kCz (by omega)
          have ks4c : SRZ m96 m113 (CDC (tR m) (m 123 12).toInt) ∧ B1 (CDC (tR m) (m 123 12).toInt) := by unfold CDC; rw [kCQ]; exact ks4
          have kf4 : ∀ a j, 132 ≤ a → a ≤ 135 → m113 a j = m96 a j := (fun a j h1 h2 => by rcases (show a = 132 ∨ a = 133 ∨ a = 134 ∨ a = 135 by omega) with q | q | q | q <;> subst q <;> exact K116c _ j rfl)
          refine pv_aload_n (M := mX12_readsClause) 0 dX12_readsClause_126 127 rfl rfl rfl ?_
          refine mv_get (M := mX12_readsClause) (v := .ref 135) dX12_readsClause_127 FX12 26 wd1199 (by decide) (tl123 hT) rfl rfl 130 rfl ?_
          refine pv_aload_n (M := mX12_readsClause) 0 dX12_readsClause_130 131 rfl rfl rfl ?_
          refine iv_get (M := mX12_readsClause) (l1 := 0) (l2 := 12) dX12_readsClause_131 FX12 18 wd1191 (by decide) (tl123 hT) rfl I115 rfl 134 rfl (fun v136 ev136 pv136 qv136 => ?_)
          have wv136 : v136.toInt = (m113 123 18).toInt := congrArg Int32.toInt ev136
          refine pv_aload_n (M := mX12_readsClause) 0 dX12_readsClause_134 135 rfl rfl rfl ?_
          refine iv_get (M := mX12_readsClause) (l1 := 0) (l2 := 180) dX12_readsClause_135 FX12 16 wd1189 (by decide) (tl123 hT) rfl I115 rfl 138 rfl (fun v137 ev137 pv137 qv137 => ?_)
          have wv137 : v137.toInt = (m113 123 16).toInt := congrArg Int32.toInt ev137
          have k138 : v137 = m113 123 16 := ev137
          refine iv_iast (M := mX12_readsClause) (X := v136.toInt) (l1 := 0) (l2 := 180) dX12_readsClause_138 (tl135 hT) rfl (by omega) (by omega) I115 (fun _ => rfl) (by omega) (by omega) 139 rfl (fun m139 e142 I140 => ?_)
          have K141 := K116.set e142 rfl
          have w143 : (m139 123 12).toInt = (m113 123 12).toInt := by rw [e142, up2_ne (by omega)]
          have w144 : (m139 123 13).toInt = (m113 123 13).toInt := by rw [e142, up2_ne (by omega)]
          have w145 : (m139 123 16).toInt = (m113 123 16).toInt := by rw [e142, up2_ne (by omega)]
          have w146 : (m139 123 17).toInt = (m113 123 17).toInt := by rw [e142, up2_ne (by omega)]
          have w147 : (m139 123 18).toInt = (m113 123 18).toInt := by rw [e142, up2_ne (by omega)]
          have w148 : (m139 123 14).toInt = (m113 123 14).toInt := by rw [e142, up2_ne (by omega)]
          have w149 : (m139 123 15).toInt = (m113 123 15).toInt := by rw [e142, up2_ne (by omega)]
          have e9 := e142
          refine pv_aload_n (M := mX12_readsClause) 0 dX12_readsClause_139 140 rfl rfl rfl ?_
          refine pv_aload_n (M := mX12_readsClause) 0 dX12_readsClause_140 141 rfl rfl rfl ?_
          refine iv_get (M := mX12_readsClause) (l1 := 0) (l2 := 12) dX12_readsClause_141 FX12 18 wd1191 (by decide) (tl123 hT) rfl I140 rfl 144 rfl (fun v151 ev151 pv151 qv151 => ?_)
          have wv151 : v151.toInt = (m139 123 18).toInt := congrArg Int32.toInt ev151
          refine pv_iconst (M := mX12_readsClause) (v := 1) dX12_readsClause_144 145 rfl (by decide) ?_
          refine iv_iadd (M := mX12_readsClause) (X := v151.toInt) (Y := 1) dX12_readsClause_145 146 rfl rfl (by decide) (by omega) (by omega) (fun v152 ev152 => ?_)
          refine iv_put (M := mX12_readsClause) (l1 := 0) (l2 := 12) dX12_readsClause_146 FX12 18 wd1191 (by decide) rfl (tl123 hT) rfl rfl rfl I140 rfl (by omega) (by omega) 149 rfl (fun m153 e156 I154 => ?_)
          have K155 := K141.set e156 rfl
          have w157 : (m153 123 12).toInt = (m139 123 12).toInt := by rw [e156, up2_ne (by omega)]
          have w158 : (m153 123 13).toInt = (m139 123 13).toInt := by rw [e156, up2_ne (by omega)]
          have w159 : (m153 123 16).toInt = (m139 123 16).toInt := by rw [e156, up2_ne (by omega)]
          have w160 : (m153 123 17).toInt = (m139 123 17).toInt := by rw [e156, up2_ne (by omega)]
          have w161 : (m153 123 18).toInt = v152.toInt := by rw [e156, up2_eq]
          have w162 : (m153 123 14).toInt = (m139 123 14).toInt := by rw [e156, up2_ne (by omega)]
          have w163 : (m153 123 15).toInt = (m139 123 15).toInt := by rw [e156, up2_ne (by omega)]
          refine pv_iconst (M := mX12_readsClause) (v := 1) dX12_readsClause_149 150 rfl (by decide) ?_
          have z164 : (1 : Int32).toInt = 1 := by decide
          exact pv_iret (M := mX12_readsClause) dX12_readsClause_150 rfl rfl ⟨_, _, _, rfl, rfl, I154, K155, by decide, by decide, ⟨(Or.inr ⟨by decide, ⟨SX_clause hp2 (m 123 18).toInt.toNat (by omega) e1 e2 e3 (by omega) (by omega) e4 e5 q6.1 q6.2.1 q6.2.2.1 q6.2.2.2.1 e7 (by omega) (by omega) f8 kc.2.1 kc.1 kc.2.2.2.1 e9 (by omega) (by omega) e156 (by omega) (by omega), by omega, by omega, by omega, by omega⟩, by rw [kSU, kcC, show (m113 123 12).toInt = (m153 123 12).toInt by omega], by omega⟩), IFZ.is (CLY_of (by omega) (by omega) kb1 kb2 kb3 kb4 kb5 ks2 kf2 kb6 kb7 ks4c kf4 (by rw [e156, up2_ne (by omega), e9, up2_at (by omega)]; exact k138) (fun a j h1 h2 h3 => by rw [e156, up2_ne (by omega), e9, up2_ne (by omega)]) (fun j => by rw [e156, up2_ne (by omega), e9, up2_ne (by omega)]) (by rw [e156, up2_ne (by omega), e9, up2_ne (by omega)]))⟩⟩
        · have c125 := iv_eq (X := v117.toInt) (Y := 0) c125 rfl (by decide)
          refine pv_iconst (M := mX12_readsClause) (v := 0) dX12_readsClause_124 125 rfl (by decide) ?_
          have z165 : (0 : Int32).toInt = 0 := by decide
          exact pv_iret (M := mX12_readsClause) dX12_readsClause_125 rfl rfl ⟨_, _, _, rfl, rfl, I115, K116, by decide, by decide, ⟨(Or.inl ⟨by decide, by rw [kSU]; exact (kC.resolve_right (fun q => by have q1 := q.1; omega)).2⟩), IFZ.no (by first | decide | omega)⟩⟩
      · have c82 := iv_eq (X := v2.toInt) (Y := 112) c82 rfl (by decide)
        omega
    · have c6 := iv_eq (X := v5.toInt) (Y := 12) c6 rfl (by decide)
      refine pv_aload_n (M := mX12_readsClause) 0 dX12_readsClause_36 37 rfl rfl rfl ?_
      refine pv_iconst (M := mX12_readsClause) (v := 4) dX12_readsClause_37 38 rfl (by decide) ?_
      refine pv_aload_n (M := mX12_readsClause) 0 dX12_readsClause_38 39 rfl rfl rfl ?_
      refine iv_get (M := mX12_readsClause) (l1 := 0) (l2 := 160) dX12_readsClause_39 FX12 12 wd1185 (by decide) (tl123 hT) rfl I rfl 42 rfl (fun v166 ev166 pv166 qv166 => ?_)
      have wv166 : v166.toInt = (m 123 12).toInt := congrArg Int32.toInt ev166
      have z167 : (4 : Int32).toInt = 4 := by decide
      refine pv_callv (M := mX12_readsClause) (as := [.int 4, .int v166]) (st := []) (kc2 := 0) (ks2 := 0) dX12_readsClause_42 wd1421 YX12_wrongAt ⟨wd1423, wd61⟩ (mk_get (tl123 hT)) rfl rfl (s_X12_wrongAt_vx g hT I 4 (by decide) (by decide) v166 (by omega) (by omega)) rfl rfl (Nat.le_of_ble_eq_true rfl) (by decide) rfl rfl 45 rfl (fun rv h1 q168 => ?_)
      obtain ⟨m169, n170, v173, rfl, rfl, I171, K172, pv173, qv173, rv173⟩ := q168
      replace rv173 : (m169 123 14).toInt = -1000 * (4 : Int) - v166.toInt := by have q_ := rv173; (try rw [z167] at q_); exact q_
      have K172c := K172
      have w174 : (m169 123 12).toInt = (m 123 12).toInt := congrArg Int32.toInt (K172 123 12 rfl)
      have w175 : (m169 123 13).toInt = (m 123 13).toInt := congrArg Int32.toInt (K172 123 13 rfl)
      have w176 : (m169 123 16).toInt = (m 123 16).toInt := congrArg Int32.toInt (K172 123 16 rfl)
      have w177 : (m169 123 17).toInt = (m 123 17).toInt := congrArg Int32.toInt (K172 123 17 rfl)
      have w178 : (m169 123 18).toInt = (m 123 18).toInt := congrArg Int32.toInt (K172 123 18 rfl)
      have w179 : (m169 123 15).toInt = (m 123 15).toInt := congrArg Int32.toInt (K172 123 15 rfl)
      have K172 := Kp.trans (K172.sub (wl_sub (by decide)))
      show PV _ _ _ _ _ _ _ 45 [.ref 123, .int v2] [.int v173] _
      exact pv_iret (M := mX12_readsClause) dX12_readsClause_45 rfl (iv_nz (by omega) (by omega)) ⟨_, _, _, rfl, rfl, I171, K172, by omega, by omega, ⟨(Or.inl ⟨by omega, CLA_4 (by omega) (by omega) (by omega)⟩), IFZ.no (by first | decide | omega)⟩⟩
  · have c4 := iv_ne (X := v2.toInt) (Y := 110) c4 rfl (by decide)
    refine pv_iload_n (M := mX12_readsClause) 1 dX12_readsClause_11 12 rfl rfl rfl ?_
    refine pv_bipush (M := mX12_readsClause) (v := 112) dX12_readsClause_12 14 rfl (by decide) ?_
    refine pv_icmp_eq (M := mX12_readsClause) (tgt := 27) dX12_readsClause_14 17 rfl (by decide) (fun c180 => ?_) (fun c180 => ?_)
    · have c180 := iv_eq (X := v2.toInt) (Y := 112) c180 rfl (by decide)
      refine pv_aload_n (M := mX12_readsClause) 0 dX12_readsClause_27 28 rfl rfl rfl ?_
      refine iv_get (M := mX12_readsClause) (l1 := 0) (l2 := 12) dX12_readsClause_28 FX12 18 wd1191 (by decide) (tl123 hT) rfl I rfl 31 rfl (fun v181 ev181 pv181 qv181 => ?_)
      have wv181 : v181.toInt = (m 123 18).toInt := congrArg Int32.toInt ev181
      refine pv_bipush (M := mX12_readsClause) (v := 12) dX12_readsClause_31 33 rfl (by decide) ?_
      refine pv_icmp_ne (M := mX12_readsClause) (tgt := 46) dX12_readsClause_33 36 rfl (by decide) (fun c182 => ?_) (fun c182 => ?_)
      · have c182 := iv_ne (X := v181.toInt) (Y := 12) c182 rfl (by decide)
        refine pv_aload_n (M := mX12_readsClause) 0 dX12_readsClause_46 47 rfl rfl rfl ?_
        refine mv_get (M := mX12_readsClause) (v := .ref 132) dX12_readsClause_47 FX12 23 wd1196 (by decide) (tl123 hT) rfl rfl 50 rfl ?_
        refine pv_aload_n (M := mX12_readsClause) 0 dX12_readsClause_50 51 rfl rfl rfl ?_
        refine iv_get (M := mX12_readsClause) (l1 := 0) (l2 := 12) dX12_readsClause_51 FX12 18 wd1191 (by decide) (tl123 hT) rfl I rfl 54 rfl (fun v183 ev183 pv183 qv183 => ?_)
        have wv183 : v183.toInt = (m 123 18).toInt := congrArg Int32.toInt ev183
        refine pv_iload_n (M := mX12_readsClause) 1 dX12_readsClause_54 55 rfl rfl rfl ?_
        refine iv_iast (M := mX12_readsClause) (X := v183.toInt) (l1 := (-2147483648)) (l2 := 2147483647) dX12_readsClause_55 (tl132 hT) rfl (by omega) (by omega) I (fun _ => rfl) (iv_rng v2).1 (iv_rng v2).2 56 rfl (fun m184 e187 I185 => ?_)
        have K186 := Kp.set e187 rfl
        have w188 : (m184 123 12).toInt = (m 123 12).toInt := by rw [e187, up2_ne (by omega)]
        have w189 : (m184 123 13).toInt = (m 123 13).toInt := by rw [e187, up2_ne (by omega)]
        have w190 : (m184 123 16).toInt = (m 123 16).toInt := by rw [e187, up2_ne (by omega)]
        have w191 : (m184 123 17).toInt = (m 123 17).toInt := by rw [e187, up2_ne (by omega)]
        have w192 : (m184 123 18).toInt = (m 123 18).toInt := by rw [e187, up2_ne (by omega)]
        have w193 : (m184 123 14).toInt = (m 123 14).toInt := by rw [e187, up2_ne (by omega)]
        have w194 : (m184 123 15).toInt = (m 123 15).toInt := by rw [e187, up2_ne (by omega)]
        have e1 := e187
        refine pv_aload_n (M := mX12_readsClause) 0 dX12_readsClause_56 57 rfl rfl rfl ?_
        refine pv_aload_n (M := mX12_readsClause) 0 dX12_readsClause_57 58 rfl rfl rfl ?_
        refine iv_get (M := mX12_readsClause) (l1 := 0) (l2 := 160) dX12_readsClause_58 FX12 12 wd1185 (by decide) (tl123 hT) rfl I185 rfl 61 rfl (fun v196 ev196 pv196 qv196 => ?_)
        have wv196 : v196.toInt = (m184 123 12).toInt := congrArg Int32.toInt ev196
        refine pv_iconst (M := mX12_readsClause) (v := 1) dX12_readsClause_61 62 rfl (by decide) ?_
        refine iv_iadd (M := mX12_readsClause) (X := v196.toInt) (Y := 1) dX12_readsClause_62 63 rfl rfl (by decide) (by omega) (by omega) (fun v197 ev197 => ?_)
        refine iv_put (M := mX12_readsClause) (l1 := 0) (l2 := 160) dX12_readsClause_63 FX12 12 wd1185 (by decide) rfl (tl123 hT) rfl rfl rfl I185 rfl (by omega) (by omega) 66 rfl (fun m198 e201 I199 => ?_)
        have K200 := K186.set e201 rfl
        have w202 : (m198 123 12).toInt = v197.toInt := by rw [e201, up2_eq]
        have w203 : (m198 123 13).toInt = (m184 123 13).toInt := by rw [e201, up2_ne (by omega)]
        have w204 : (m198 123 16).toInt = (m184 123 16).toInt := by rw [e201, up2_ne (by omega)]
        have w205 : (m198 123 17).toInt = (m184 123 17).toInt := by rw [e201, up2_ne (by omega)]
        have w206 : (m198 123 18).toInt = (m184 123 18).toInt := by rw [e201, up2_ne (by omega)]
        have w207 : (m198 123 14).toInt = (m184 123 14).toInt := by rw [e201, up2_ne (by omega)]
        have w208 : (m198 123 15).toInt = (m184 123 15).toInt := by rw [e201, up2_ne (by omega)]
        have e2 := e201
        refine pv_aload_n (M := mX12_readsClause) 0 dX12_readsClause_66 67 rfl rfl rfl ?_
        refine mv_get (M := mX12_readsClause) (v := .ref 133) dX12_readsClause_67 FX12 24 wd1197 (by decide) (tl123 hT) rfl rfl 70 rfl ?_
        refine pv_aload_n (M := mX12_readsClause) 0 dX12_readsClause_70 71 rfl rfl rfl ?_
        refine iv_get (M := mX12_readsClause) (l1 := 0) (l2 := 12) dX12_readsClause_71 FX12 18 wd1191 (by decide) (tl123 hT) rfl I199 rfl 74 rfl (fun v210 ev210 pv210 qv210 => ?_)
        have wv210 : v210.toInt = (m198 123 18).toInt := congrArg Int32.toInt ev210
        refine pv_aload_n (M := mX12_readsClause) 0 dX12_readsClause_74 75 rfl rfl rfl ?_
        refine iv_get (M := mX12_readsClause) (l1 := 0) (l2 := 180) dX12_readsClause_75 FX12 16 wd1189 (by decide) (tl123 hT) rfl I199 rfl 78 rfl (fun v211 ev211 pv211 qv211 => ?_)
        have wv211 : v211.toInt = (m198 123 16).toInt := congrArg Int32.toInt ev211
        have k78 : v211 = m 123 16 := ev211.trans (by rw [e2, up2_ne (by omega), e1, up2_ne (by omega)])
        refine iv_iast (M := mX12_readsClause) (X := v210.toInt) (l1 := 0) (l2 := 180) dX12_readsClause_78 (tl133 hT) rfl (by omega) (by omega) I199 (fun _ => rfl) (by omega) (by omega) 79 rfl (fun m213 e216 I214 => ?_)
        have K215 := K200.set e216 rfl
        have w217 : (m213 123 12).toInt = (m198 123 12).toInt := by rw [e216, up2_ne (by omega)]
        have w218 : (m213 123 13).toInt = (m198 123 13).toInt := by rw [e216, up2_ne (by omega)]
        have w219 : (m213 123 16).toInt = (m198 123 16).toInt := by rw [e216, up2_ne (by omega)]
        have w220 : (m213 123 17).toInt = (m198 123 17).toInt := by rw [e216, up2_ne (by omega)]
        have w221 : (m213 123 18).toInt = (m198 123 18).toInt := by rw [e216, up2_ne (by omega)]
        have w222 : (m213 123 14).toInt = (m198 123 14).toInt := by rw [e216, up2_ne (by omega)]
        have w223 : (m213 123 15).toInt = (m198 123 15).toInt := by rw [e216, up2_ne (by omega)]
        have e3 := e216
        refine pv_aload_n (M := mX12_readsClause) 0 dX12_readsClause_79 80 rfl rfl rfl ?_
        refine pv_iconst (M := mX12_readsClause) (v := 0) dX12_readsClause_80 81 rfl (by decide) ?_
        refine iv_put (M := mX12_readsClause) (l1 := (-2147483648)) (l2 := 2147483647) dX12_readsClause_81 FX12 15 wd1188 (by decide) rfl (tl123 hT) rfl rfl rfl I214 rfl (by decide) (by decide) 84 rfl (fun m225 e228 I226 => ?_)
        have K227 := K215.set e228 rfl
        have w229 : (m225 123 12).toInt = (m213 123 12).toInt := by rw [e228, up2_ne (by omega)]
        have w230 : (m225 123 13).toInt = (m213 123 13).toInt := by rw [e228, up2_ne (by omega)]
        have w231 : (m225 123 16).toInt = (m213 123 16).toInt := by rw [e228, up2_ne (by omega)]
        have w232 : (m225 123 17).toInt = (m213 123 17).toInt := by rw [e228, up2_ne (by omega)]
        have w233 : (m225 123 18).toInt = (m213 123 18).toInt := by rw [e228, up2_ne (by omega)]
        have w234 : (m225 123 14).toInt = (m213 123 14).toInt := by rw [e228, up2_ne (by omega)]
        have w235 : (m225 123 15).toInt = 0 := by rw [e228, up2_eq] <;> rfl
        have e4 := e228
        refine pv_aload_n (M := mX12_readsClause) 0 dX12_readsClause_84 85 rfl rfl rfl ?_
        refine pv_iconst (M := mX12_readsClause) (v := 0) dX12_readsClause_85 86 rfl (by decide) ?_
        refine iv_put (M := mX12_readsClause) (l1 := 0) (l2 := 180) dX12_readsClause_86 FX12 17 wd1190 (by decide) rfl (tl123 hT) rfl rfl rfl I226 rfl (by decide) (by decide) 89 rfl (fun m237 e240 I238 => ?_)
        have K239 := K227.set e240 rfl
        have w241 : (m237 123 12).toInt = (m225 123 12).toInt := by rw [e240, up2_ne (by omega)]
        have w242 : (m237 123 13).toInt = (m225 123 13).toInt := by rw [e240, up2_ne (by omega)]
        have w243 : (m237 123 16).toInt = (m225 123 16).toInt := by rw [e240, up2_ne (by omega)]
        have w244 : (m237 123 17).toInt = 0 := by rw [e240, up2_eq] <;> rfl
        have w245 : (m237 123 18).toInt = (m225 123 18).toInt := by rw [e240, up2_ne (by omega)]
        have w246 : (m237 123 14).toInt = (m225 123 14).toInt := by rw [e240, up2_ne (by omega)]
        have w247 : (m237 123 15).toInt = (m225 123 15).toInt := by rw [e240, up2_ne (by omega)]
        have e5 := e240
        have s5 := SLK_new (m := m237) (by omega)
        have kt89 : tR m237 = tR m := tR_eq (K239 123 13 rfl) (fun j => K239 129 j rfl)
        have ko89 : eo (m237 123 15).toInt = 6 := by unfold eo; omega
        have kp89 : (m237 123 12).toInt = (m 123 12).toInt + 1 := by omega
        have kb1 : (m237 132 (m 123 18).toInt.toNat).toInt = tR m (m 123 12).toInt := by rw [e5, up2_ne (by omega), e4, up2_ne (by omega), e3, up2_ne (by omega), e2, up2_ne (by omega), e1, up2_at (by omega)]; omega
        have kb2 : m237 133 (m 123 18).toInt.toNat = m 123 16 := by rw [e5, up2_ne (by omega), e4, up2_ne (by omega), e3, up2_at (by omega), k78]
        have kb3 : ∀ a j, 132 ≤ a → a ≤ 135 → j ≠ (m 123 18).toInt.toNat → m237 a j = m a j := fun a j h1 h2 h3 => by rw [e5, up2_ne (by omega), e4, up2_ne (by omega), e3, up2_ne (by omega), e2, up2_ne (by omega), e1, up2_ne (by omega)]
        have kb4 : ∀ j, m237 130 j = m 130 j := fun j => by rw [e5, up2_ne (by omega), e4, up2_ne (by omega), e3, up2_ne (by omega), e2, up2_ne (by omega), e1, up2_ne (by omega)]
        have kb5 : m237 123 16 = m 123 16 := by rw [e5, up2_ne (by omega), e4, up2_ne (by omega), e3, up2_ne (by omega), e2, up2_ne (by omega), e1, up2_ne (by omega)]
        refine pv_iload_n (M := mX12_readsClause) 1 dX12_readsClause_89 90 rfl rfl rfl ?_
        refine pv_bipush (M := mX12_readsClause) (v := 112) dX12_readsClause_90 92 rfl (by decide) ?_
        refine pv_icmp_ne (M := mX12_readsClause) (tgt := 104) dX12_readsClause_92 95 rfl (by decide) (fun c258 => ?_) (fun c258 => ?_)
        · have c258 := iv_ne (X := v2.toInt) (Y := 112) c258 rfl (by decide)
          omega
        · have c258 := iv_eq (X := v2.toInt) (Y := 112) c258 rfl (by decide)
          refine pv_aload_n (M := mX12_readsClause) 0 dX12_readsClause_95 96 rfl rfl rfl ?_
          refine pv_callv (M := mX12_readsClause) (as := []) (st := []) (kc2 := 0) (ks2 := 0) dX12_readsClause_96 wd1425 YX12_readsSum ⟨wd1427, wd62⟩ (mk_get (tl123 hT)) rfl rfl (s_X12_readsSum_vz g hT I238 ((m 123 16).toInt) 0 (by have q := HW_new' (m := m237) (by omega) (by omega); rw [show (m237 123 16).toInt = (m 123 16).toInt by omega] at q; exact q) (by decide) (by rw [s5]; omega) (by first | omega | assumption | exact (iv_rng _).2 | exact (iv_rng _).1 | decide) (by first | omega | assumption | exact (iv_rng _).2 | exact (iv_rng _).1 | decide) (NS_new (by omega)) (by first | omega | assumption | exact (iv_rng _).2 | exact (iv_rng _).1 | decide) (by first | omega | assumption | exact (iv_rng _).2 | exact (iv_rng _).1 | decide)) rfl rfl (Nat.le_of_ble_eq_true rfl) (by decide) rfl rfl 99 rfl (fun rv h1 q259 => ?_)
          obtain ⟨m260, n261, v264, rfl, rfl, I262, K263, pv264, qv264, rv264⟩ := q259
          replace rv264 : ((v264.toInt = 0 ∧ FLT (SU (tR m237) (eo (m237 123 15).toInt) (m237 123 12).toInt) (m260 123 14).toInt) ∨ (v264.toInt = 1 ∧ RS ((m 123 16).toInt) (0 + 1) m237 m260 ∧ SU (tR m237) (eo (m237 123 15).toInt) (m237 123 12).toInt = (0, (m260 123 12).toInt) ∧ (m260 123 15).toInt = (m237 123 15).toInt)) ∧ IFZ v264.toInt (SRZ m237 m260 (SUD (tR m237) (eo (m237 123 15).toInt) (m237 123 12).toInt)) := rv264
          have K263c := K263
          have w265 : (m260 123 13).toInt = (m237 123 13).toInt := congrArg Int32.toInt (K263 123 13 rfl)
          have w266 : (m260 123 18).toInt = (m237 123 18).toInt := congrArg Int32.toInt (K263 123 18 rfl)
          have K263 := K239.trans (K263.sub (wl_sub (by decide)))
          show PV _ _ _ _ _ _ _ 99 [.ref 123, .int v2] [.int v264] _
          have kR := rv264.1
          have f6 : FR4 m237 m260 := ⟨fun j => K263c 133 j rfl, fun j => K263c 134 j rfl, fun j => K263c 135 j rfl, K263c 123 18 rfl⟩
          rw [kt89, ko89, kp89] at kR
          have kRz := rv264.2
          rw [kt89, ko89, kp89] at kRz
          refine pv_if_ne (M := mX12_readsClause) (tgt := 104) dX12_readsClause_99 102 rfl (by decide) (fun c272 => ?_) (fun c272 => ?_)
          · have c272 := iv_ne (X := v264.toInt) (Y := 0) c272 rfl (by decide)
            have q6 : FR4 m237 m260 ∧ KB (m 123 16).toInt m237 m260 ∧ WFc (m260 130) (m 123 16).toInt.toNat (m260 123 16).toInt.toNat ∧ (m 123 16).toInt ≤ (m260 123 16).toInt ∧ 0 ≤ SLK m260 ∧ (m260 123 17).toInt = 0 ∧ (m237 123 12).toInt ≤ (m260 123 12).toInt ∧ (m260 123 12).toInt ≤ (m260 123 13).toInt ∧ (m260 123 13).toInt = (m237 123 13).toInt := by first | (have kS := (kR.resolve_left (fun q => by have q1 := q.1; omega)).2.1; have z1 := kS.2.1; have z2 := kS.2.2.2.1; have z3 := kS.2.2.2.2.2.1; have z4 := kS.2.2.2.2.2.2.1; have z5 := kS.2.2.2.2.2.2.2; exact ⟨f6, kS.2.2.1, HW_done kS.1 (show (m260 123 17).toInt = 0 by omega), kS.1.1.2.1, by omega, by omega, by omega, by omega, by omega⟩) | exact ⟨⟨fun _ => rfl, fun _ => rfl, fun _ => rfl, rfl⟩, KB.rf, WFc_nil (by omega), by omega, by rw [s5]; omega, by omega, by omega, by omega, by omega⟩
            have q61 := q6.2.2.2.1
            have q62 := q6.2.2.2.2.2.1
            have q63 := q6.2.2.2.2.2.2.1
            have q64 := q6.2.2.2.2.2.2.2.1
            have q65 := q6.2.2.2.2.2.2.2.2
            have kSU : CLA (tR m) (m 123 18).toInt (m 123 12).toInt = CND (tR m) (m260 123 12).toInt := by first | exact CLA_p (by omega) (by omega) (kR.resolve_left (fun q => by have q1 := q.1; omega)).2.2.1 | (rw [CLA_n (by omega) (by omega), show (m 123 12).toInt + 1 = (m260 123 12).toInt by omega])
            have ks2 : (tR m (m 123 12).toInt = 112 ∧ SRZ m237 m260 (CDP (tR m) (m 123 12).toInt)) ∨ (tR m (m 123 12).toInt = 110 ∧ m260 = m237) := by first | exact Or.inr ⟨by omega, rfl⟩ | exact Or.inl ⟨by omega, IFZ.get kRz (by omega)⟩
            have kf2 : ∀ a j, 132 ≤ a → a ≤ 135 → m260 a j = m237 a j := by first | exact fun _ _ _ _ => rfl | exact (fun a j h1 h2 => by rcases (show a = 132 ∨ a = 133 ∨ a = 134 ∨ a = 135 by omega) with q | q | q | q <;> subst q <;> exact K263c _ j rfl)
            have kCQ : CQP (tR m) (m 123 12).toInt = (m260 123 12).toInt := by unfold CQP; first | (rw [if_neg (by omega)]; omega) | (rw [if_pos (by omega), (kR.resolve_left (fun q => by have q1 := q.1; omega)).2.2.1])
            refine pv_aload_n (M := mX12_readsClause) 0 dX12_readsClause_104 105 rfl rfl rfl ?_
            refine mv_get (M := mX12_readsClause) (v := .ref 134) dX12_readsClause_105 FX12 25 wd1198 (by decide) (tl123 hT) rfl rfl 108 rfl ?_
            refine pv_aload_n (M := mX12_readsClause) 0 dX12_readsClause_108 109 rfl rfl rfl ?_
            refine iv_get (M := mX12_readsClause) (l1 := 0) (l2 := 12) dX12_readsClause_109 FX12 18 wd1191 (by decide) (tl123 hT) rfl I262 rfl 112 rfl (fun v283 ev283 pv283 qv283 => ?_)
            have wv283 : v283.toInt = (m260 123 18).toInt := congrArg Int32.toInt ev283
            refine pv_aload_n (M := mX12_readsClause) 0 dX12_readsClause_112 113 rfl rfl rfl ?_
            refine iv_get (M := mX12_readsClause) (l1 := 0) (l2 := 180) dX12_readsClause_113 FX12 16 wd1189 (by decide) (tl123 hT) rfl I262 rfl 116 rfl (fun v284 ev284 pv284 qv284 => ?_)
            have wv284 : v284.toInt = (m260 123 16).toInt := congrArg Int32.toInt ev284
            have k116 : v284 = m260 123 16 := ev284
            refine iv_iast (M := mX12_readsClause) (X := v283.toInt) (l1 := 0) (l2 := 180) dX12_readsClause_116 (tl134 hT) rfl (by omega) (by omega) I262 (fun _ => rfl) (by omega) (by omega) 117 rfl (fun m286 e289 I287 => ?_)
            have K288 := K263.set e289 rfl
            have w290 : (m286 123 12).toInt = (m260 123 12).toInt := by rw [e289, up2_ne (by omega)]
            have w291 : (m286 123 13).toInt = (m260 123 13).toInt := by rw [e289, up2_ne (by omega)]
            have w292 : (m286 123 16).toInt = (m260 123 16).toInt := by rw [e289, up2_ne (by omega)]
            have w293 : (m286 123 17).toInt = (m260 123 17).toInt := by rw [e289, up2_ne (by omega)]
            have w294 : (m286 123 18).toInt = (m260 123 18).toInt := by rw [e289, up2_ne (by omega)]
            have w295 : (m286 123 14).toInt = (m260 123 14).toInt := by rw [e289, up2_ne (by omega)]
            have w296 : (m286 123 15).toInt = (m260 123 15).toInt := by rw [e289, up2_ne (by omega)]
            have e7 := e289
            have kt117 : tR m286 = tR m := tR_eq (K288 123 13 rfl) (fun j => K288 129 j rfl)
            have kp117 : (m286 123 12).toInt = (m260 123 12).toInt := by omega
            have kb6 : m286 134 (m 123 18).toInt.toNat = m260 123 16 := by rw [e7, up2_at (by omega)]; exact k116
            have kb7 : ∀ a j, a ≠ 134 ∨ j ≠ (m 123 18).toInt.toNat → m286 a j = m260 a j := fun a j q => by rw [e7, up2_ne (by omega)]
            refine pv_aload_n (M := mX12_readsClause) 0 dX12_readsClause_117 118 rfl rfl rfl ?_
            refine pv_callv (M := mX12_readsClause) (as := []) (st := []) (kc2 := 0) (ks2 := 0) dX12_readsClause_118 wd1468 YX12_readsCondition ⟨wd1470, wd71⟩ (mk_get (tl123 hT)) rfl rfl (s_X12_readsCondition_vz g hT I287 ((m260 123 16).toInt) (by rw [SLK_eq (m := m260) (by rw [e289, up2_ne (by omega)]) (by rw [e289, up2_ne (by omega)]) (by rw [e289, up2_ne (by omega)]) (fun j => by rw [e289, up2_ne (by omega)])]; exact q6.2.2.2.2.1) (by first | omega | assumption | exact (iv_rng _).2 | exact (iv_rng _).1 | decide) (by first | omega | assumption | exact (iv_rng _).2 | exact (iv_rng _).1 | decide)) rfl rfl (Nat.le_of_ble_eq_true rfl) (by decide) rfl rfl 121 rfl (fun rv h1 q302 => ?_)
            obtain ⟨m303, n304, v307, rfl, rfl, I305, K306, pv307, qv307, rv307⟩ := q302
            replace rv307 : ((v307.toInt = 0 ∧ FLT (CND (tR m286) (m286 123 12).toInt) (m303 123 14).toInt) ∨ (v307.toInt = 1 ∧ (WFc (m303 130) ((m260 123 16).toInt).toNat (m303 123 16).toInt.toNat ∧ KB ((m260 123 16).toInt) m286 m303 ∧ 0 ≤ SLK m303 ∧ ((m260 123 16).toInt) ≤ (m303 123 16).toInt ∧ (m286 123 12).toInt ≤ (m303 123 12).toInt ∧ (m303 123 12).toInt ≤ (m303 123 13).toInt ∧ (m303 123 13).toInt = (m286 123 13).toInt ∧ (m303 123 17).toInt = 0) ∧ CND (tR m286) (m286 123 12).toInt = (0, (m303 123 12).toInt))) ∧ IFZ v307.toInt (SRZ m286 m303 (CND_ (tR m286) 5 ((m286 123 12).toInt + 1)) ∧ B1 (CND_ (tR m286) 5 ((m286 123 12).toInt + 1))) := rv307
            have K306c := K306
            have w308 : (m303 123 13).toInt = (m286 123 13).toInt := congrArg Int32.toInt (K306 123 13 rfl)
            have w309 : (m303 123 18).toInt = (m286 123 18).toInt := congrArg Int32.toInt (K306 123 18 rfl)
            have K306 := K288.trans (K306.sub (wl_sub (by decide)))
            show PV _ _ _ _ _ _ _ 121 [.ref 123, .int v2] [.int v307] _
            have kC := rv307.1
            have f8 : FR4 m286 m303 := ⟨fun j => K306c 133 j rfl, fun j => K306c 134 j rfl, fun j => K306c 135 j rfl, K306c 123 18 rfl⟩
            rw [kt117, kp117] at kC
            have kCz := rv307.2
            rw [kt117, kp117] at kCz
            refine pv_if_ne (M := mX12_readsClause) (tgt := 126) dX12_readsClause_121 124 rfl (by decide) (fun c315 => ?_) (fun c315 => ?_)
            · have c315 := iv_ne (X := v307.toInt) (Y := 0) c315 rfl (by decide)
              have kc := (kC.resolve_left (fun q => by have q1 := q.1; omega)).2.1
              have kcC := (kC.resolve_left (fun q => by have q1 := q.1; omega)).2.2
              have kc1 := kc.2.2.2.1
              have kc2 : (m303 123 16).toInt ≤ (m303 123 12).toInt := SLK_cm kc.2.2.1
              have kc3 := kc.2.2.2.2.1
              have kc4 := kc.2.2.2.2.2.1
              have kc5 := kc.2.2.2.2.2.2.1
              have ks4 := IFZ.get kCz (by omega)
              have ks4c : SRZ m286 m303 (CDC (tR m) (m 123 12).toInt) ∧ B1 (CDC (tR m) (m 123 12).toInt) := by unfold CDC; rw [kCQ]; exact ks4
              have kf4 : ∀ a j, 132 ≤ a → a ≤ 135 → m303 a j = m286 a j := (fun a j h1 h2 => by rcases (show a = 132 ∨ a = 133 ∨ a = 134 ∨ a = 135 by omega) with q | q | q | q <;> subst q <;> exact K306c _ j rfl)
              refine pv_aload_n (M := mX12_readsClause) 0 dX12_readsClause_126 127 rfl rfl rfl ?_
              refine mv_get (M := mX12_readsClause) (v := .ref 135) dX12_readsClause_127 FX12 26 wd1199 (by decide) (tl123 hT) rfl rfl 130 rfl ?_
              refine pv_aload_n (M := mX12_readsClause) 0 dX12_readsClause_130 131 rfl rfl rfl ?_
              refine iv_get (M := mX12_readsClause) (l1 := 0) (l2 := 12) dX12_readsClause_131 FX12 18 wd1191 (by decide) (tl123 hT) rfl I305 rfl 134 rfl (fun v326 ev326 pv326 qv326 => ?_)
              have wv326 : v326.toInt = (m303 123 18).toInt := congrArg Int32.toInt ev326
              refine pv_aload_n (M := mX12_readsClause) 0 dX12_readsClause_134 135 rfl rfl rfl ?_
              refine iv_get (M := mX12_readsClause) (l1 := 0) (l2 := 180) dX12_readsClause_135 FX12 16 wd1189 (by decide) (tl123 hT) rfl I305 rfl 138 rfl (fun v327 ev327 pv327 qv327 => ?_)
              have wv327 : v327.toInt = (m303 123 16).toInt := congrArg Int32.toInt ev327
              have k138 : v327 = m303 123 16 := ev327
              refine iv_iast (M := mX12_readsClause) (X := v326.toInt) (l1 := 0) (l2 := 180) dX12_readsClause_138 (tl135 hT) rfl (by omega) (by omega) I305 (fun _ => rfl) (by omega) (by omega) 139 rfl (fun m329 e332 I330 => ?_)
              have K331 := K306.set e332 rfl
              have w333 : (m329 123 12).toInt = (m303 123 12).toInt := by rw [e332, up2_ne (by omega)]
              have w334 : (m329 123 13).toInt = (m303 123 13).toInt := by rw [e332, up2_ne (by omega)]
              have w335 : (m329 123 16).toInt = (m303 123 16).toInt := by rw [e332, up2_ne (by omega)]
              have w336 : (m329 123 17).toInt = (m303 123 17).toInt := by rw [e332, up2_ne (by omega)]
              have w337 : (m329 123 18).toInt = (m303 123 18).toInt := by rw [e332, up2_ne (by omega)]
              have w338 : (m329 123 14).toInt = (m303 123 14).toInt := by rw [e332, up2_ne (by omega)]
              have w339 : (m329 123 15).toInt = (m303 123 15).toInt := by rw [e332, up2_ne (by omega)]
              have e9 := e332
              refine pv_aload_n (M := mX12_readsClause) 0 dX12_readsClause_139 140 rfl rfl rfl ?_
              refine pv_aload_n (M := mX12_readsClause) 0 dX12_readsClause_140 141 rfl rfl rfl ?_
              refine iv_get (M := mX12_readsClause) (l1 := 0) (l2 := 12) dX12_readsClause_141 FX12 18 wd1191 (by decide) (tl123 hT) rfl I330 rfl 144 rfl (fun v341 ev341 pv341 qv341 => ?_)
              have wv341 : v341.toInt = (m329 123 18).toInt := congrArg Int32.toInt ev341
              refine pv_iconst (M := mX12_readsClause) (v := 1) dX12_readsClause_144 145 rfl (by decide) ?_
              refine iv_iadd (M := mX12_readsClause) (X := v341.toInt) (Y := 1) dX12_readsClause_145 146 rfl rfl (by decide) (by omega) (by omega) (fun v342 ev342 => ?_)
              refine iv_put (M := mX12_readsClause) (l1 := 0) (l2 := 12) dX12_readsClause_146 FX12 18 wd1191 (by decide) rfl (tl123 hT) rfl rfl rfl I330 rfl (by omega) (by omega) 149 rfl (fun m343 e346 I344 => ?_)
              have K345 := K331.set e346 rfl
              have w347 : (m343 123 12).toInt = (m329 123 12).toInt := by rw [e346, up2_ne (by omega)]
              have w348 : (m343 123 13).toInt = (m329 123 13).toInt := by rw [e346, up2_ne (by omega)]
              have w349 : (m343 123 16).toInt = (m329 123 16).toInt := by rw [e346, up2_ne (by omega)]
              have w350 : (m343 123 17).toInt = (m329 123 17).toInt := by rw [e346, up2_ne (by omega)]
              have w351 : (m343 123 18).toInt = v342.toInt := by rw [e346, up2_eq]
              have w352 : (m343 123 14).toInt = (m329 123 14).toInt := by rw [e346, up2_ne (by omega)]
              have w353 : (m343 123 15).toInt = (m329 123 15).toInt := by rw [e346, up2_ne (by omega)]
              refine pv_iconst (M := mX12_readsClause) (v := 1) dX12_readsClause_149 150 rfl (by decide) ?_
              have z354 : (1 : Int32).toInt = 1 := by decide
              exact pv_iret (M := mX12_readsClause) dX12_readsClause_150 rfl rfl ⟨_, _, _, rfl, rfl, I344, K345, by decide, by decide, ⟨(Or.inr ⟨by decide, ⟨SX_clause hp2 (m 123 18).toInt.toNat (by omega) e1 e2 e3 (by omega) (by omega) e4 e5 q6.1 q6.2.1 q6.2.2.1 q6.2.2.2.1 e7 (by omega) (by omega) f8 kc.2.1 kc.1 kc.2.2.2.1 e9 (by omega) (by omega) e346 (by omega) (by omega), by omega, by omega, by omega, by omega⟩, by rw [kSU, kcC, show (m303 123 12).toInt = (m343 123 12).toInt by omega], by omega⟩), IFZ.is (CLY_of (by omega) (by omega) kb1 kb2 kb3 kb4 kb5 ks2 kf2 kb6 kb7 ks4c kf4 (by rw [e346, up2_ne (by omega), e9, up2_at (by omega)]; exact k138) (fun a j h1 h2 h3 => by rw [e346, up2_ne (by omega), e9, up2_ne (by omega)]) (fun j => by rw [e346, up2_ne (by omega), e9, up2_ne (by omega)]) (by rw [e346, up2_ne (by omega), e9, up2_ne (by omega)]))⟩⟩
            · have c315 := iv_eq (X := v307.toInt) (Y := 0) c315 rfl (by decide)
              refine pv_iconst (M := mX12_readsClause) (v := 0) dX12_readsClause_124 125 rfl (by decide) ?_
              have z355 : (0 : Int32).toInt = 0 := by decide
              exact pv_iret (M := mX12_readsClause) dX12_readsClause_125 rfl rfl ⟨_, _, _, rfl, rfl, I305, K306, by decide, by decide, ⟨(Or.inl ⟨by decide, by rw [kSU]; exact (kC.resolve_right (fun q => by have q1 := q.1; omega)).2⟩), IFZ.no (by first | decide | omega)⟩⟩
          · have c272 := iv_eq (X := v264.toInt) (Y := 0) c272 rfl (by decide)
            refine pv_iconst (M := mX12_readsClause) (v := 0) dX12_readsClause_102 103 rfl (by decide) ?_
            have z356 : (0 : Int32).toInt = 0 := by decide
            exact pv_iret (M := mX12_readsClause) dX12_readsClause_103 rfl rfl ⟨_, _, _, rfl, rfl, I262, K263, by decide, by decide, ⟨(Or.inl ⟨by decide, CLA_pf (by omega) (by omega) (kR.resolve_right (fun q => by have q1 := q.1; omega)).2⟩), IFZ.no (by first | decide | omega)⟩⟩
      · have c182 := iv_eq (X := v181.toInt) (Y := 12) c182 rfl (by decide)
        refine pv_aload_n (M := mX12_readsClause) 0 dX12_readsClause_36 37 rfl rfl rfl ?_
        refine pv_iconst (M := mX12_readsClause) (v := 4) dX12_readsClause_37 38 rfl (by decide) ?_
        refine pv_aload_n (M := mX12_readsClause) 0 dX12_readsClause_38 39 rfl rfl rfl ?_
        refine iv_get (M := mX12_readsClause) (l1 := 0) (l2 := 160) dX12_readsClause_39 FX12 12 wd1185 (by decide) (tl123 hT) rfl I rfl 42 rfl (fun v357 ev357 pv357 qv357 => ?_)
        have wv357 : v357.toInt = (m 123 12).toInt := congrArg Int32.toInt ev357
        have z358 : (4 : Int32).toInt = 4 := by decide
        refine pv_callv (M := mX12_readsClause) (as := [.int 4, .int v357]) (st := []) (kc2 := 0) (ks2 := 0) dX12_readsClause_42 wd1421 YX12_wrongAt ⟨wd1423, wd61⟩ (mk_get (tl123 hT)) rfl rfl (s_X12_wrongAt_vx g hT I 4 (by decide) (by decide) v357 (by omega) (by omega)) rfl rfl (Nat.le_of_ble_eq_true rfl) (by decide) rfl rfl 45 rfl (fun rv h1 q359 => ?_)
        obtain ⟨m360, n361, v364, rfl, rfl, I362, K363, pv364, qv364, rv364⟩ := q359
        replace rv364 : (m360 123 14).toInt = -1000 * (4 : Int) - v357.toInt := by have q_ := rv364; (try rw [z358] at q_); exact q_
        have K363c := K363
        have w365 : (m360 123 12).toInt = (m 123 12).toInt := congrArg Int32.toInt (K363 123 12 rfl)
        have w366 : (m360 123 13).toInt = (m 123 13).toInt := congrArg Int32.toInt (K363 123 13 rfl)
        have w367 : (m360 123 16).toInt = (m 123 16).toInt := congrArg Int32.toInt (K363 123 16 rfl)
        have w368 : (m360 123 17).toInt = (m 123 17).toInt := congrArg Int32.toInt (K363 123 17 rfl)
        have w369 : (m360 123 18).toInt = (m 123 18).toInt := congrArg Int32.toInt (K363 123 18 rfl)
        have w370 : (m360 123 15).toInt = (m 123 15).toInt := congrArg Int32.toInt (K363 123 15 rfl)
        have K363 := Kp.trans (K363.sub (wl_sub (by decide)))
        show PV _ _ _ _ _ _ _ 45 [.ref 123, .int v2] [.int v364] _
        exact pv_iret (M := mX12_readsClause) dX12_readsClause_45 rfl (iv_nz (by omega) (by omega)) ⟨_, _, _, rfl, rfl, I362, K363, by omega, by omega, ⟨(Or.inl ⟨by omega, CLA_4 (by omega) (by omega) (by omega)⟩), IFZ.no (by first | decide | omega)⟩⟩
    · have c180 := iv_ne (X := v2.toInt) (Y := 112) c180 rfl (by decide)
      refine pv_aload_n (M := mX12_readsClause) 0 dX12_readsClause_17 18 rfl rfl rfl ?_
      refine pv_iconst (M := mX12_readsClause) (v := 1) dX12_readsClause_18 19 rfl (by decide) ?_
      refine pv_aload_n (M := mX12_readsClause) 0 dX12_readsClause_19 20 rfl rfl rfl ?_
      refine iv_get (M := mX12_readsClause) (l1 := 0) (l2 := 160) dX12_readsClause_20 FX12 12 wd1185 (by decide) (tl123 hT) rfl I rfl 23 rfl (fun v371 ev371 pv371 qv371 => ?_)
      have wv371 : v371.toInt = (m 123 12).toInt := congrArg Int32.toInt ev371
      have z372 : (1 : Int32).toInt = 1 := by decide
      refine pv_callv (M := mX12_readsClause) (as := [.int 1, .int v371]) (st := []) (kc2 := 0) (ks2 := 0) dX12_readsClause_23 wd1421 YX12_wrongAt ⟨wd1423, wd61⟩ (mk_get (tl123 hT)) rfl rfl (s_X12_wrongAt_vx g hT I 1 (by decide) (by decide) v371 (by omega) (by omega)) rfl rfl (Nat.le_of_ble_eq_true rfl) (by decide) rfl rfl 26 rfl (fun rv h1 q373 => ?_)
      obtain ⟨m374, n375, v378, rfl, rfl, I376, K377, pv378, qv378, rv378⟩ := q373
      replace rv378 : (m374 123 14).toInt = -1000 * (1 : Int) - v371.toInt := by have q_ := rv378; (try rw [z372] at q_); exact q_
      have K377c := K377
      have w379 : (m374 123 12).toInt = (m 123 12).toInt := congrArg Int32.toInt (K377 123 12 rfl)
      have w380 : (m374 123 13).toInt = (m 123 13).toInt := congrArg Int32.toInt (K377 123 13 rfl)
      have w381 : (m374 123 16).toInt = (m 123 16).toInt := congrArg Int32.toInt (K377 123 16 rfl)
      have w382 : (m374 123 17).toInt = (m 123 17).toInt := congrArg Int32.toInt (K377 123 17 rfl)
      have w383 : (m374 123 18).toInt = (m 123 18).toInt := congrArg Int32.toInt (K377 123 18 rfl)
      have w384 : (m374 123 15).toInt = (m 123 15).toInt := congrArg Int32.toInt (K377 123 15 rfl)
      have K377 := Kp.trans (K377.sub (wl_sub (by decide)))
      show PV _ _ _ _ _ _ _ 26 [.ref 123, .int v2] [.int v378] _
      exact pv_iret (M := mX12_readsClause) dX12_readsClause_26 rfl (iv_nz (by omega) (by omega)) ⟨_, _, _, rfl, rfl, I376, K377, by omega, by omega, ⟨(Or.inl ⟨by omega, CLA_1 (by omega) (by omega) (by omega)⟩), IFZ.no (by first | decide | omega)⟩⟩
