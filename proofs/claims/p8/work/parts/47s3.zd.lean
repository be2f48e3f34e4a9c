set_option maxHeartbeats 2000000 in
set_option maxRecDepth 20000 in
theorem s_X7_readPiece_v6z (g : pv_G) {T : List mv_T} {m : Nat → Nat → Int32} {n : Nat → Nat → Int64} {r : Nat → Value} {la lb : Nat} (hT : TX T) (I : IV BB m) (R : RX T r la lb) (hp0 : (m 86 3).toInt ≤ (m 86 2).toInt) (hp1 : TBC m) (hp2 : (m lb 2).toInt ≤ (m 86 3).toInt) : PM g mX7_readPiece yX7_readPiece (sqI T BB (wZ lb) r m 0 1 (fun m' v => (m 86 3).toInt ≤ (m' 86 3).toInt ∧ (m' 86 3).toInt ≤ (m' 86 2).toInt ∧ (m' 86 2).toInt = (m 86 2).toInt ∧ (RSX (PI (tC m) 0 (m 86 3).toInt) v.toInt (m' 86 3).toInt (m' 86 4).toInt) ∧ (m' lb 7).toInt = (m lb 7).toInt ∧ IFZ v.toInt (CDS lb m m' 4 (PID (tC m) 0 (m 86 3).toInt) ((m' 86 3).toInt - (m 86 3).toInt)))) 8 0 0 [.ref 86, .int 6] (mk T m n r) := by
  have Kp : fr (wZ lb) m m := fr.rf
  have R0 := R
  have zR := R.2.2.2.2.1.1
  have zR2 := R.2.2.2.2.2.1
  have z193 : 0 ≤ (m 86 3).toInt ∧ (m 86 3).toInt ≤ 160 := I 86 3
  have z194 : 0 ≤ (m 86 2).toInt ∧ (m 86 2).toInt ≤ 160 := I 86 2
  refine PM.of 1 (lo := [.ref 86, .int 6, pv_U]) rfl (by decide) rfl rfl (Nat.le_of_ble_eq_true rfl) ?_
  refine pv_aload_n (M := mX7_readPiece) 0 dX7_readPiece_0 1 rfl rfl rfl ?_
  refine pv_callv (M := mX7_readPiece) (as := []) (st := []) (kc2 := 0) (ks2 := 0) dX7_readPiece_1 wd527 YX7_peek ⟨wd529, wd2⟩ (mk_get (tl86 hT)) rfl rfl (s_X7_peek_vx g hT I R) rfl rfl (Nat.le_of_ble_eq_true rfl) (by decide) rfl rfl 4 rfl (fun rv h1 q1 => ?_)
  obtain ⟨v2, rfl, rfl, pv2, qv2, rv2⟩ := q1
  replace rv2 : v2.toInt = tC m (m 86 3).toInt ∧ (v2.toInt = -1 ∨ (m 86 3).toInt < (m 86 2).toInt) := rv2
  show PV _ _ _ _ _ _ _ 4 [.ref 86, .int 6, pv_U] [.int v2] _
  have k4 := rv2.1
  have k4b := rv2.2
  refine pv_bipush (M := mX7_readPiece) (v := 33) dX7_readPiece_4 6 rfl (by decide) ?_
  refine pv_icmp_ne (M := mX7_readPiece) (tgt := 41) dX7_readPiece_6 9 rfl (by decide) (fun c5 => ?_) (fun c5 => ?_)
  · have c5 := iv_ne (X := v2.toInt) (Y := 33) c5 rfl (by decide)
    have kn33 : tC m (m 86 3).toInt ≠ 33 := by omega
    refine pv_aload_n (M := mX7_readPiece) 0 dX7_readPiece_41 42 rfl rfl rfl ?_
    refine pv_callv (M := mX7_readPiece) (as := []) (st := []) (kc2 := 0) (ks2 := 0) dX7_readPiece_42 wd527 YX7_peek ⟨wd529, wd2⟩ (mk_get (tl86 hT)) rfl rfl (s_X7_peek_vx g hT I R) rfl rfl (Nat.le_of_ble_eq_true rfl) (by decide) rfl rfl 45 rfl (fun rv h1 q7 => ?_)
    obtain ⟨v8, rfl, rfl, pv8, qv8, rv8⟩ := q7
    replace rv8 : v8.toInt = tC m (m 86 3).toInt ∧ (v8.toInt = -1 ∨ (m 86 3).toInt < (m 86 2).toInt) := rv8
    show PV _ _ _ _ _ _ _ 45 [.ref 86, .int 6, pv_U] [.int v8] _
    have k45 := rv8.1
    have k45b := rv8.2
    refine pv_bipush (M := mX7_readPiece) (v := 40) dX7_readPiece_45 47 rfl (by decide) ?_
    refine pv_icmp_ne (M := mX7_readPiece) (tgt := 83) dX7_readPiece_47 50 rfl (by decide) (fun c11 => ?_) (fun c11 => ?_)
    · have c11 := iv_ne (X := v8.toInt) (Y := 40) c11 rfl (by decide)
      have kn40 : tC m (m 86 3).toInt ≠ 40 := by omega
      refine pv_aload_n (M := mX7_readPiece) 0 dX7_readPiece_83 84 rfl rfl rfl ?_
      refine pv_iload_n (M := mX7_readPiece) 1 dX7_readPiece_84 85 rfl rfl rfl ?_
      have z13 : (6 : Int32).toInt = 6 := by decide
      refine pv_callv (M := mX7_readPiece) (as := [.int 6]) (st := []) (kc2 := 0) (ks2 := 0) dX7_readPiece_85 wd539 YX7_readSum ⟨wd541, wd4⟩ (mk_get (tl86 hT)) rfl rfl (s_X7_readSum_v6z g hT I R (by first | omega | assumption | exact (iv_rng _).2 | exact (iv_rng _).1 | decide) hp1 (by first | omega | assumption | exact (iv_rng _).2 | exact (iv_rng _).1 | decide)) rfl rfl (Nat.le_of_ble_eq_true rfl) (by decide) rfl rfl 88 rfl (fun rv h1 q14 => ?_)
      obtain ⟨m15, n16, v19, rfl, rfl, I17, K18, pv19, qv19, rv19⟩ := q14
      replace rv19 : (m 86 3).toInt ≤ (m15 86 3).toInt ∧ (m15 86 3).toInt ≤ (m15 86 2).toInt ∧ (m15 86 2).toInt = (m 86 2).toInt ∧ (RSX (SU (tC m) 0 (m 86 3).toInt) v19.toInt (m15 86 3).toInt (m15 86 4).toInt) ∧ (m15 lb 7).toInt = (m lb 7).toInt ∧ IFZ v19.toInt (CDS lb m m15 3 (SUD (tC m) 0 (m 86 3).toInt) ((m15 86 3).toInt - (m 86 3).toInt)) := by have q_ := rv19; (try rw [z13] at q_); exact q_
      have K18c := K18
      have K18 := Kp.trans (K18.sub (fun _ _ q => q))
      show PV _ _ _ _ _ _ _ 88 [.ref 86, .int 6, pv_U] [.int v19] _
      have k88 := rv19.2.2.2.1
      have k88z := rv19.2.2.2.2.2
      refine pv_if_ne (M := mX7_readPiece) (tgt := 93) dX7_readPiece_88 91 rfl (by decide) (fun c22 => ?_) (fun c22 => ?_)
      · have c22 := iv_ne (X := v19.toInt) (Y := 0) c22 rfl (by decide)
        have k93 := RSX_ok k88 (by omega)
        have kt93 : tC m15 = tC m := tC_fz zR2 K18
        have kA93 : (m15 86 3).toInt = (m15 86 3).toInt := rfl
        have k93z := IFZ.get k88z (by omega)
        have k93b := CDS_b k93z
        refine pv_aload_n (M := mX7_readPiece) 0 dX7_readPiece_93 94 rfl rfl rfl ?_
        refine pv_callv (M := mX7_readPiece) (as := []) (st := []) (kc2 := 0) (ks2 := 0) dX7_readPiece_94 wd527 YX7_peek ⟨wd529, wd2⟩ (mk_get (tl86 hT)) rfl rfl (s_X7_peek_vx g hT I17 R) rfl rfl (Nat.le_of_ble_eq_true rfl) (by decide) rfl rfl 97 rfl (fun rv h1 q28 => ?_)
        obtain ⟨v29, rfl, rfl, pv29, qv29, rv29⟩ := q28
        replace rv29 : v29.toInt = tC m15 (m15 86 3).toInt ∧ (v29.toInt = -1 ∨ (m15 86 3).toInt < (m15 86 2).toInt) := rv29
        show PV _ _ _ _ _ _ _ 97 [.ref 86, .int 6, pv_U] [.int v29] _
        have k97 := rv29.1
        have k97b := rv29.2
        rw [kt93] at k97
        refine pv_istore_n (M := mX7_readPiece) 2 (lo2 := [.ref 86, .int 6, .int v29]) dX7_readPiece_97 98 rfl rfl (by decide) rfl rfl ?_
        refine pv_iload_n (M := mX7_readPiece) 2 dX7_readPiece_98 99 rfl rfl rfl ?_
        refine pv_bipush (M := mX7_readPiece) (v := 60) dX7_readPiece_99 101 rfl (by decide) ?_
        refine pv_icmp_eq (M := mX7_readPiece) (tgt := 122) dX7_readPiece_101 104 rfl (by decide) (fun c33 => ?_) (fun c33 => ?_)
        · have c33 := iv_eq (X := v29.toInt) (Y := 60) c33 rfl (by decide)
          have kC : isC (tC m (m15 86 3).toInt) = true := by rw [← k97]; exact isC_y (by omega)
          refine pv_aload_n (M := mX7_readPiece) 0 dX7_readPiece_122 123 rfl rfl rfl ?_
          refine pv_dup (M := mX7_readPiece) dX7_readPiece_123 124 rfl rfl ?_
          refine iv_get (M := mX7_readPiece) (l1 := 0) (l2 := 160) dX7_readPiece_124 FX7 3 wd283 (by decide) (tl86 hT) rfl I17 rfl 127 rfl (fun v35 ev35 pv35 qv35 => ?_)
          have wv35 : v35.toInt = (m15 86 3).toInt := congrArg Int32.toInt ev35
          refine pv_iconst (M := mX7_readPiece) (v := 1) dX7_readPiece_127 128 rfl (by decide) ?_
          refine iv_iadd (M := mX7_readPiece) (X := v35.toInt) (Y := 1) dX7_readPiece_128 129 rfl rfl (by decide) (by omega) (by omega) (fun v36 ev36 => ?_)
          refine iv_put (M := mX7_readPiece) (l1 := 0) (l2 := 160) dX7_readPiece_129 FX7 3 wd283 (by decide) rfl (tl86 hT) rfl rfl rfl I17 rfl (by omega) (by omega) 132 rfl (fun m37 e40 I38 => ?_)
          have K39 := K18.set e40 (by first | rfl | decide)
          have w41 : (m37 86 3).toInt = v36.toInt := by rw [e40, up2_eq]
          have w42 : (m37 86 2).toInt = (m15 86 2).toInt := by rw [e40, up2_ne (by omega)]
          have w43 : (m37 86 4).toInt = (m15 86 4).toInt := by rw [e40, up2_ne (by omega)]
          have w44 : (m37 lb 7).toInt = (m15 lb 7).toInt := by rw [e40, up2_ne (by omega)]
          have w45 : (m37 lb 2).toInt = (m15 lb 2).toInt := by rw [e40, up2_ne (by omega)]
          have kt132 : tC m37 = tC m := tC_fz zR2 K39
          have kp132 : (m37 86 3).toInt = (m15 86 3).toInt + 1 := by omega
          have ks132 : SAML lb m15 m37 := SAML.set zR2 e40
          have kl132 : (m37 lb 2).toInt = (m15 lb 2).toInt := congrArg Int32.toInt ks132.1
          refine pv_aload_n (M := mX7_readPiece) 0 dX7_readPiece_132 133 rfl rfl rfl ?_
          refine pv_iload_n (M := mX7_readPiece) 1 dX7_readPiece_133 134 rfl rfl rfl ?_
          have z50 : (6 : Int32).toInt = 6 := by decide
          refine pv_callv (M := mX7_readPiece) (as := [.int 6]) (st := []) (kc2 := 0) (ks2 := 0) dX7_readPiece_134 wd539 YX7_readSum ⟨wd541, wd4⟩ (mk_get (tl86 hT)) rfl rfl (s_X7_readSum_v6z g hT I38 R (by first | omega | assumption | exact (iv_rng _).2 | exact (iv_rng _).1 | decide) (TBC_eq hp1 kt132) (by first | omega | assumption | exact (iv_rng _).2 | exact (iv_rng _).1 | decide)) rfl rfl (Nat.le_of_ble_eq_true rfl) (by decide) rfl rfl 137 rfl (fun rv h1 q51 => ?_)
          obtain ⟨m52, n53, v56, rfl, rfl, I54, K55, pv56, qv56, rv56⟩ := q51
          replace rv56 : (m37 86 3).toInt ≤ (m52 86 3).toInt ∧ (m52 86 3).toInt ≤ (m52 86 2).toInt ∧ (m52 86 2).toInt = (m37 86 2).toInt ∧ (RSX (SU (tC m37) 0 (m37 86 3).toInt) v56.toInt (m52 86 3).toInt (m52 86 4).toInt) ∧ (m52 lb 7).toInt = (m37 lb 7).toInt ∧ IFZ v56.toInt (CDS lb m37 m52 3 (SUD (tC m37) 0 (m37 86 3).toInt) ((m52 86 3).toInt - (m37 86 3).toInt)) := by have q_ := rv56; (try rw [z50] at q_); exact q_
          have K55c := K55
          have K55 := K39.trans (K55.sub (fun _ _ q => q))
          show PV _ _ _ _ _ _ _ 137 [.ref 86, .int 6, .int v29] [.int v56] _
          have k137 := rv56.2.2.2.1
          rw [kt132, kp132] at k137
          have k137z := rv56.2.2.2.2.2
          rw [kt132, kp132] at k137z
          refine pv_if_ne (M := mX7_readPiece) (tgt := 142) dX7_readPiece_137 140 rfl (by decide) (fun c61 => ?_) (fun c61 => ?_)
          · have c61 := iv_ne (X := v56.toInt) (Y := 0) c61 rfl (by decide)
            have k142z := IFZ.get k137z (by omega)
            have k142b := CDS_b k142z
            refine pv_aload_n (M := mX7_readPiece) 0 dX7_readPiece_142 143 rfl rfl rfl ?_
            refine mv_get (M := mX7_readPiece) (v := .ref lb) dX7_readPiece_143 FX7 1 wd281 (by decide) (tl86 hT) rfl R.2.2.2.1 146 rfl ?_
            refine pv_iload_n (M := mX7_readPiece) 2 dX7_readPiece_146 147 rfl rfl rfl ?_
            refine pv_iconst (M := mX7_readPiece) (v := 0) dX7_readPiece_147 148 rfl (by decide) ?_
            have z64 : (0 : Int32).toInt = 0 := by decide
            refine pv_callv (M := mX7_readPiece) (as := [.int v29, .int 0]) (st := []) (kc2 := 0) (ks2 := 0) dX7_readPiece_148 wd567 YX6_emit ⟨wd568, wd569⟩ (mk_get R.2.2.2.2.2.2.1) rfl rfl (s_X6_emit_vz g hT I54 lb R.2.2.2.2.2 v29 0 (by decide) (by decide)) rfl rfl (Nat.le_of_ble_eq_true rfl) (by decide) rfl rfl 151 rfl (fun rv h1 q65 => ?_)
            obtain ⟨m66, n67, rfl, rfl, I68, K69, rm66⟩ := q65
            replace rm66 : (m66 lb 7).toInt = (m52 lb 7).toInt ∧ ((m52 lb 2).toInt < 160 → EMT lb m52 m66 v29.toInt (0 : Int32)) := by have q_ := rm66; (try rw [z64] at q_); exact q_
            have K69c := K69
            have w70 : (m66 86 3).toInt = (m52 86 3).toInt := congrArg Int32.toInt (K69 86 3 (wY_out (by omega) (by omega) (by omega)))
            have w71 : (m66 86 2).toInt = (m52 86 2).toInt := congrArg Int32.toInt (K69 86 2 (wY_out (by omega) (by omega) (by omega)))
            have w72 : (m66 86 4).toInt = (m52 86 4).toInt := congrArg Int32.toInt (K69 86 4 (wY_out (by omega) (by omega) (by omega)))
            have K69 := K55.trans (K69.sub (by first | exact wZ_wY | exact wZ_86))
            show PV _ _ _ _ _ _ _ 151 [.ref 86, .int 6, .int v29] [] _
            have k151 := rm66.2 (by omega)
            refine pv_iconst (M := mX7_readPiece) (v := 1) dX7_readPiece_151 152 rfl (by decide) ?_
            have z74 : (1 : Int32).toInt = 1 := by decide
            exact pv_iret (M := mX7_readPiece) dX7_readPiece_152 rfl rfl ⟨_, _, _, rfl, rfl, I68, K69, by decide, by decide, ⟨by omega, by omega, by omega, Or.inl ⟨by decide, by rw [PI_cm kn33 kn40, CM_ok k93 kC, RSX_ok k137 (by omega), show (m52 86 3).toInt = (m66 86 3).toInt by omega]⟩, by omega, IFZ.is (by rw [PID_cm kn33 kn40, CMD_ok k93, ← k97]; exact CDS.wk (CDS.op k93z (CDS.pre ks132 k142z (Int.le_refl _)) k151 (isO_c (by rw [k97]; exact kC)) (Int.le_refl _) (by omega)) (by omega) (by omega))⟩⟩
          · have c61 := iv_eq (X := v56.toInt) (Y := 0) c61 rfl (by decide)
            refine pv_iconst (M := mX7_readPiece) (v := 0) dX7_readPiece_140 141 rfl (by decide) ?_
            have z75 : (0 : Int32).toInt = 0 := by decide
            exact pv_iret (M := mX7_readPiece) dX7_readPiece_141 rfl rfl ⟨_, _, _, rfl, rfl, I54, K55, by decide, by decide, ⟨by omega, by omega, by omega, Or.inr ⟨by decide, by rw [PI_cm kn33 kn40, CM_ok k93 kC]; exact RSX_fl k137 (by omega)⟩, by omega, IFZ.no (by first | decide | omega)⟩⟩
        · have c33 := iv_ne (X := v29.toInt) (Y := 60) c33 rfl (by decide)
          refine pv_iload_n (M := mX7_readPiece) 2 dX7_readPiece_104 105 rfl rfl rfl ?_
          refine pv_bipush (M := mX7_readPiece) (v := 62) dX7_readPiece_105 107 rfl (by decide) ?_
          refine pv_icmp_eq (M := mX7_readPiece) (tgt := 122) dX7_readPiece_107 110 rfl (by decide) (fun c76 => ?_) (fun c76 => ?_)
          · have c76 := iv_eq (X := v29.toInt) (Y := 62) c76 rfl (by decide)
            have kC : isC (tC m (m15 86 3).toInt) = true := by rw [← k97]; exact isC_y (by omega)
            refine pv_aload_n (M := mX7_readPiece) 0 dX7_readPiece_122 123 rfl rfl rfl ?_
            refine pv_dup (M := mX7_readPiece) dX7_readPiece_123 124 rfl rfl ?_
            refine iv_get (M := mX7_readPiece) (l1 := 0) (l2 := 160) dX7_readPiece_124 FX7 3 wd283 (by decide) (tl86 hT) rfl I17 rfl 127 rfl (fun v78 ev78 pv78 qv78 => ?_)
            have wv78 : v78.toInt = (m15 86 3).toInt := congrArg Int32.toInt ev78
            refine pv_iconst (M := mX7_readPiece) (v := 1) dX7_readPiece_127 128 rfl (by decide) ?_
            refine iv_iadd (M := mX7_readPiece) (X := v78.toInt) (Y := 1) dX7_readPiece_128 129 rfl rfl (by decide) (by omega) (by omega) (fun v79 ev79 => ?_)
            refine iv_put (M := mX7_readPiece) (l1 := 0) (l2 := 160) dX7_readPiece_129 FX7 3 wd283 (by decide) rfl (tl86 hT) rfl rfl rfl I17 rfl (by omega) (by omega) 132 rfl (fun m80 e83 I81 => ?_)
            have K82 := K18.set e83 (by first | rfl | decide)
            have w84 : (m80 86 3).toInt = v79.toInt := by rw [e83, up2_eq]
            have w85 : (m80 86 2).toInt = (m15 86 2).toInt := by rw [e83, up2_ne (by omega)]
            have w86 : (m80 86 4).toInt = (m15 86 4).toInt := by rw [e83, up2_ne (by omega)]
            have w87 : (m80 lb 7).toInt = (m15 lb 7).toInt := by rw [e83, up2_ne (by omega)]
            have w88 : (m80 lb 2).toInt = (m15 lb 2).toInt := by rw [e83, up2_ne (by omega)]
            have kt132 : tC m80 = tC m := tC_fz zR2 K82
            have kp132 : (m80 86 3).toInt = (m15 86 3).toInt + 1 := by omega
            have ks132 : SAML lb m15 m80 := SAML.set zR2 e83
            have kl132 : (m80 lb 2).toInt = (m15 lb 2).toInt := congrArg Int32.toInt ks132.1
            refine pv_aload_n (M := mX7_readPiece) 0 dX7_readPiece_132 133 rfl rfl rfl ?_
            refine pv_iload_n (M := mX7_readPiece) 1 dX7_readPiece_133 134 rfl rfl rfl ?_
            have z93 : (6 : Int32).toInt = 6 := by decide
            refine pv_callv (M := mX7_readPiece) (as := [.int 6]) (st := []) (kc2 := 0) (ks2 := 0) dX7_readPiece_134 wd539 YX7_readSum ⟨wd541, wd4⟩ (mk_get (tl86 hT)) rfl rfl (s_X7_readSum_v6z g hT I81 R (by first | omega | assumption | exact (iv_rng _).2 | exact (iv_rng _).1 | decide) (TBC_eq hp1 kt132) (by first | omega | assumption | exact (iv_rng _).2 | exact (iv_rng _).1 | decide)) rfl rfl (Nat.le_of_ble_eq_true rfl) (by decide) rfl rfl 137 rfl (fun rv h1 q94 => ?_)
            obtain ⟨m95, n96, v99, rfl, rfl, I97, K98, pv99, qv99, rv99⟩ := q94
            replace rv99 : (m80 86 3).toInt ≤ (m95 86 3).toInt ∧ (m95 86 3).toInt ≤ (m95 86 2).toInt ∧ (m95 86 2).toInt = (m80 86 2).toInt ∧ (RSX (SU (tC m80) 0 (m80 86 3).toInt) v99.toInt (m95 86 3).toInt (m95 86 4).toInt) ∧ (m95 lb 7).toInt = (m80 lb 7).toInt ∧ IFZ v99.toInt (CDS lb m80 m95 3 (SUD (tC m80) 0 (m80 86 3).toInt) ((m95 86 3).toInt - (m80 86 3).toInt)) := by have q_ := rv99; (try rw [z93] at q_); exact q_
            have K98c := K98
            have K98 := K82.trans (K98.sub (fun _ _ q => q))
            show PV _ _ _ _ _ _ _ 137 [.ref 86, .int 6, .int v29] [.int v99] _
            have k137 := rv99.2.2.2.1
            rw [kt132, kp132] at k137
            have k137z := rv99.2.2.2.2.2
            rw [kt132, kp132] at k137z
            refine pv_if_ne (M := mX7_readPiece) (tgt := 142) dX7_readPiece_137 140 rfl (by decide) (fun c104 => ?_) (fun c104 => ?_)
            · have c104 := iv_ne (X := v99.toInt) (Y := 0) c104 rfl (by decide)
              have k142z := IFZ.get k137z (by omega)
              have k142b := CDS_b k142z
              refine pv_aload_n (M := mX7_readPiece) 0 dX7_readPiece_142 143 rfl rfl rfl ?_
              refine mv_get (M := mX7_readPiece) (v := .ref lb) dX7_readPiece_143 FX7 1 wd281 (by decide) (tl86 hT) rfl R.2.2.2.1 146 rfl ?_
              refine pv_iload_n (M := mX7_readPiece) 2 dX7_readPiece_146 147 rfl rfl rfl ?_
              refine pv_iconst (M := mX7_readPiece) (v := 0) dX7_readPiece_147 148 rfl (by decide) ?_
              have z107 : (0 : Int32).toInt = 0 := by decide
              refine pv_callv (M := mX7_readPiece) (as := [.int v29, .int 0]) (st := []) (kc2 := 0) (ks2 := 0) dX7_readPiece_148 wd567 YX6_emit ⟨wd568, wd569⟩ (mk_get R.2.2.2.2.2.2.1) rfl rfl (s_X6_emit_vz g hT I97 lb R.2.2.2.2.2 v29 0 (by decide) (by decide)) rfl rfl (Nat.le_of_ble_eq_true rfl) (by decide) rfl rfl 151 rfl (fun rv h1 q108 => ?_)
              obtain ⟨m109, n110, rfl, rfl, I111, K112, rm109⟩ := q108
              replace rm109 : (m109 lb 7).toInt = (m95 lb 7).toInt ∧ ((m95 lb 2).toInt < 160 → EMT lb m95 m109 v29.toInt (0 : Int32)) := by have q_ := rm109; (try rw [z107] at q_); exact q_
              have K112c := K112
              have w113 : (m109 86 3).toInt = (m95 86 3).toInt := congrArg Int32.toInt (K112 86 3 (wY_out (by omega) (by omega) (by omega)))
              have w114 : (m109 86 2).toInt = (m95 86 2).toInt := congrArg Int32.toInt (K112 86 2 (wY_out (by omega) (by omega) (by omega)))
              have w115 : (m109 86 4).toInt = (m95 86 4).toInt := congrArg Int32.toInt (K112 86 4 (wY_out (by omega) (by omega) (by omega)))
              have K112 := K98.trans (K112.sub (by first | exact wZ_wY | exact wZ_86))
              show PV _ _ _ _ _ _ _ 151 [.ref 86, .int 6, .int v29] [] _
              have k151 := rm109.2 (by omega)
              refine pv_iconst (M := mX7_readPiece) (v := 1) dX7_readPiece_151 152 rfl (by decide) ?_
              have z117 : (1 : Int32).toInt = 1 := by decide
              exact pv_iret (M := mX7_readPiece) dX7_readPiece_152 rfl rfl ⟨_, _, _, rfl, rfl, I111, K112, by decide, by decide, ⟨by omega, by omega, by omega, Or.inl ⟨by decide, by rw [PI_cm kn33 kn40, CM_ok k93 kC, RSX_ok k137 (by omega), show (m95 86 3).toInt = (m109 86 3).toInt by omega]⟩, by omega, IFZ.is (by rw [PID_cm kn33 kn40, CMD_ok k93, ← k97]; exact CDS.wk (CDS.op k93z (CDS.pre ks132 k142z (Int.le_refl _)) k151 (isO_c (by rw [k97]; exact kC)) (Int.le_refl _) (by omega)) (by omega) (by omega))⟩⟩
            · have c104 := iv_eq (X := v99.toInt) (Y := 0) c104 rfl (by decide)
              refine pv_iconst (M := mX7_readPiece) (v := 0) dX7_readPiece_140 141 rfl (by decide) ?_
              have z118 : (0 : Int32).toInt = 0 := by decide
              exact pv_iret (M := mX7_readPiece) dX7_readPiece_141 rfl rfl ⟨_, _, _, rfl, rfl, I97, K98, by decide, by decide, ⟨by omega, by omega, by omega, Or.inr ⟨by decide, by rw [PI_cm kn33 kn40, CM_ok k93 kC]; exact RSX_fl k137 (by omega)⟩, by omega, IFZ.no (by first | decide | omega)⟩⟩
          · have c76 := iv_ne (X := v29.toInt) (Y := 62) c76 rfl (by decide)
            refine pv_iload_n (M := mX7_readPiece) 2 dX7_readPiece_110 111 rfl rfl rfl ?_
            refine pv_bipush (M := mX7_readPiece) (v := 61) dX7_readPiece_111 113 rfl (by decide) ?_
            refine pv_icmp_eq (M := mX7_readPiece) (tgt := 122) dX7_readPiece_113 116 rfl (by decide) (fun c119 => ?_) (fun c119 => ?_)
            · have c119 := iv_eq (X := v29.toInt) (Y := 61) c119 rfl (by decide)
              have kC : isC (tC m (m15 86 3).toInt) = true := by rw [← k97]; exact isC_y (by omega)
              refine pv_aload_n (M := mX7_readPiece) 0 dX7_readPiece_122 123 rfl rfl rfl ?_
              refine pv_dup (M := mX7_readPiece) dX7_readPiece_123 124 rfl rfl ?_
              refine iv_get (M := mX7_readPiece) (l1 := 0) (l2 := 160) dX7_readPiece_124 FX7 3 wd283 (by decide) (tl86 hT) rfl I17 rfl 127 rfl (fun v121 ev121 pv121 qv121 => ?_)
              have wv121 : v121.toInt = (m15 86 3).toInt := congrArg Int32.toInt ev121
              refine pv_iconst (M := mX7_readPiece) (v := 1) dX7_readPiece_127 128 rfl (by decide) ?_
              refine iv_iadd (M := mX7_readPiece) (X := v121.toInt) (Y := 1) dX7_readPiece_128 129 rfl rfl (by decide) (by omega) (by omega) (fun v122 ev122 => ?_)
              refine iv_put (M := mX7_readPiece) (l1 := 0) (l2 := 160) dX7_readPiece_129 FX7 3 wd283 (by decide) rfl (tl86 hT) rfl rfl rfl I17 rfl (by omega) (by omega) 132 rfl (fun m123 e126 I124 => ?_)
              have K125 := K18.set e126 (by first | rfl | decide)
              have w127 : (m123 86 3).toInt = v122.toInt := by rw [e126, up2_eq]
              have w128 : (m123 86 2).toInt = (m15 86 2).toInt := by rw [e126, up2_ne (by omega)]
              have w129 : (m123 86 4).toInt = (m15 86 4).toInt := by rw [e126, up2_ne (by omega)]
              have w130 : (m123 lb 7).toInt = (m15 lb 7).toInt := by rw [e126, up2_ne (by omega)]
              have w131 : (m123 lb 2).toInt = (m15 lb 2).toInt := by rw [e126, up2_ne (by omega)]
              have kt132 : tC m123 = tC m := tC_fz zR2 K125
              have kp132 : (m123 86 3).toInt = (m15 86 3).toInt + 1 := by omega
              have ks132 : SAML lb m15 m123 := SAML.set zR2 e126
              have kl132 : (m123 lb 2).toInt = (m15 lb 2).toInt := congrArg Int32.toInt ks132.1
              refine pv_aload_n (M := mX7_readPiece) 0 dX7_readPiece_132 133 rfl rfl rfl ?_
              refine pv_iload_n (M := mX7_readPiece) 1 dX7_readPiece_133 134 rfl rfl rfl ?_
              have z136 : (6 : Int32).toInt = 6 := by decide
              refine pv_callv (M := mX7_readPiece) (as := [.int 6]) (st := []) (kc2 := 0) (ks2 := 0) dX7_readPiece_134 wd539 YX7_readSum ⟨wd541, wd4⟩ (mk_get (tl86 hT)) rfl rfl (s_X7_readSum_v6z g hT I124 R (by first | omega | assumption | exact (iv_rng _).2 | exact (iv_rng _).1 | decide) (TBC_eq hp1 kt132) (by first | omega | assumption | exact (iv_rng _).2 | exact (iv_rng _).1 | decide)) rfl rfl (Nat.le_of_ble_eq_true rfl) (by decide) rfl rfl 137 rfl (fun rv h1 q137 => ?_)
              obtain ⟨m138, n139, v142, rfl, rfl, I140, K141, pv142, qv142, rv142⟩ := q137
              replace rv142 : (m123 86 3).toInt ≤ (m138 86 3).toInt ∧ (m138 86 3).toInt ≤ (m138 86 2).toInt ∧ (m138 86 2).toInt = (m123 86 2).toInt ∧ (RSX (SU (tC m123) 0 (m123 86 3).toInt) v142.toInt (m138 86 3).toInt (m138 86 4).toInt) ∧ (m138 lb 7).toInt = (m123 lb 7).toInt ∧ IFZ v142.toInt (CDS lb m123 m138 3 (SUD (tC m123) 0 (m123 86 3).toInt) ((m138 86 3).toInt - (m123 86 3).toInt)) := by have q_ := rv142; (try rw [z136] at q_); exact q_
              have K141c := K141
              have K141 := K125.trans (K141.sub (fun _ _ q => q))
              show PV _ _ _ _ _ _ _ 137 [.ref 86, .int 6, .int v29] [.int v142] _
              have k137 := rv142.2.2.2.1
              rw [kt132, kp132] at k137
              have k137z := rv142.2.2.2.2.2
              rw [kt132, kp132] at k137z
              refine pv_if_ne (M := mX7_readPiece) (tgt := 142) dX7_readPiece_137 140 rfl (by decide) (fun c147 => ?_) (fun c147 => ?_)
              · have c147 := iv_ne (X := v142.toInt) (Y := 0) c147 rfl (by decide)
                have k142z := IFZ.get k137z (by omega)
                have k142b := CDS_b k142z
                refine pv_aload_n (M := mX7_readPiece) 0 dX7_readPiece_142 143 rfl rfl rfl ?_
                refine mv_get (M := mX7_readPiece) (v := .ref lb) dX7_readPiece_143 FX7 1 wd281 (by decide) (tl86 hT) rfl R.2.2.2.1 146 rfl ?_
                refine pv_iload_n (M := mX7_readPiece) 2 dX7_readPiece_146 147 rfl rfl rfl ?_
                refine pv_iconst (M := mX7_readPiece) (v := 0) dX7_readPiece_147 148 rfl (by decide) ?_
                have z150 : (0 : Int32).toInt = 0 := by decide
                refine pv_callv (M := mX7_readPiece) (as := [.int v29, .int 0]) (st := []) (kc2 := 0) (ks2 := 0) dX7_readPiece_148 wd567 YX6_emit ⟨wd568, wd569⟩ (mk_get R.2.2.2.2.2.2.1) rfl rfl (s_X6_emit_vz g hT I140 lb R.2.2.2.2.2 v29 0 (by decide) (by decide)) rfl rfl (Nat.le_of_ble_eq_true rfl) (by decide) rfl rfl 151 rfl (fun rv h1 q151 => ?_)
                obtain ⟨m152, n153, rfl, rfl, I154, K155, rm152⟩ := q151
                replace rm152 : (m152 lb 7).toInt = (m138 lb 7).toInt ∧ ((m138 lb 2).toInt < 160 → EMT lb m138 m152 v29.toInt (0 : Int32)) := by have q_ := rm152; (try rw [z150] at q_); exact q_
                have K155c := K155
                have w156 : (m152 86 3).toInt = (m138 86 3).toInt := congrArg Int32.toInt (K155 86 3 (wY_out (by omega) (by omega) (by omega)))
                have w157 : (m152 86 2).toInt = (m138 86 2).toInt := congrArg Int32.toInt (K155 86 2 (wY_out (by omega) (by omega) (by omega)))
                have w158 : (m152 86 4).toInt = (m138 86 4).toInt := congrArg Int32.toInt (K155 86 4 (wY_out (by omega) (by omega) (by omega)))
                have K155 := K141.trans (K155.sub (by first | exact wZ_wY | exact wZ_86))
                show PV _ _ _ _ _ _ _ 151 [.ref 86, .int 6, .int v29] [] _
                have k151 := rm152.2 (by omega)
                refine pv_iconst (M := mX7_readPiece) (v := 1) dX7_readPiece_151 152 rfl (by decide) ?_
                have z160 : (1 : Int32).toInt = 1 := by decide
                exact pv_iret (M := mX7_readPiece) dX7_readPiece_152 rfl rfl ⟨_, _, _, rfl, rfl, I154, K155, by decide, by decide, ⟨by omega, by omega, by omega, Or.inl ⟨by decide, by rw [PI_cm kn33 kn40, CM_ok k93 kC, RSX_ok k137 (by omega), show (m138 86 3).toInt = (m152 86 3).toInt by omega]⟩, by omega, IFZ.is (by rw [PID_cm kn33 kn40, CMD_ok k93, ← k97]; exact CDS.wk (CDS.op k93z (CDS.pre ks132 k142z (Int.le_refl _)) k151 (isO_c (by rw [k97]; exact kC)) (Int.le_refl _) (by omega)) (by omega) (by omega))⟩⟩
              · have c147 := iv_eq (X := v142.toInt) (Y := 0) c147 rfl (by decide)
                refine pv_iconst (M := mX7_readPiece) (v := 0) dX7_readPiece_140 141 rfl (by decide) ?_
                have z161 : (0 : Int32).toInt = 0 := by decide
                exact pv_iret (M := mX7_readPiece) dX7_readPiece_141 rfl rfl ⟨_, _, _, rfl, rfl, I140, K141, by decide, by decide, ⟨by omega, by omega, by omega, Or.inr ⟨by decide, by rw [PI_cm kn33 kn40, CM_ok k93 kC]; exact RSX_fl k137 (by omega)⟩, by omega, IFZ.no (by first | decide | omega)⟩⟩
            · have c119 := iv_ne (X := v29.toInt) (Y := 61) c119 rfl (by decide)
              refine pv_aload_n (M := mX7_readPiece) 0 dX7_readPiece_116 117 rfl rfl rfl ?_
              refine pv_iconst (M := mX7_readPiece) (v := 1) dX7_readPiece_117 118 rfl (by decide) ?_
              have z162 : (1 : Int32).toInt = 1 := by decide
              refine pv_callv (M := mX7_readPiece) (as := [.int 1]) (st := []) (kc2 := 0) (ks2 := 0) dX7_readPiece_118 wd531 YX7_fail ⟨wd533, wd3⟩ (mk_get (tl86 hT)) rfl rfl (s_X7_fail_vz g hT I17 R 1 (by decide) (by decide) (by first | omega | assumption | exact (iv_rng _).2 | exact (iv_rng _).1 | decide)) rfl rfl (Nat.le_of_ble_eq_true rfl) (by decide) rfl rfl 121 rfl (fun rv h1 q163 => ?_)
              obtain ⟨m164, n165, v168, rfl, rfl, I166, K167, pv168, qv168, rv168⟩ := q163
              replace rv168 : (m15 86 3).toInt ≤ (m164 86 3).toInt ∧ (m164 86 3).toInt ≤ (m164 86 2).toInt ∧ (m164 86 2).toInt = (m15 86 2).toInt ∧ (v168.toInt = 0 ∧ (m164 86 3).toInt = (m15 86 3).toInt ∧ (m164 86 4).toInt = -1000 * (1 : Int) - (m15 86 3).toInt) ∧ (m164 lb 7).toInt = (m15 lb 7).toInt := by have q_ := rv168; (try rw [z162] at q_); exact q_
              have K167c := K167
              have w169 : (m164 86 2).toInt = (m15 86 2).toInt := congrArg Int32.toInt (K167 86 2 rfl)
              have K167 := K18.trans (K167.sub (by first | exact wZ_wY | exact wZ_86))
              show PV _ _ _ _ _ _ _ 121 [.ref 86, .int 6, .int v29] [.int v168] _
              exact pv_iret (M := mX7_readPiece) dX7_readPiece_121 rfl (iv_nz (by omega) (by omega)) ⟨_, _, _, rfl, rfl, I166, K167, by omega, by omega, ⟨by omega, by omega, by omega, Or.inr ⟨by omega, by rw [PI_cm kn33 kn40]; exact CM_no k93 (isC_no (by omega) (by omega) (by omega)) (by omega)⟩, by omega, IFZ.no (by first | decide | omega)⟩⟩
      · have c22 := iv_eq (X := v19.toInt) (Y := 0) c22 rfl (by decide)
        refine pv_iconst (M := mX7_readPiece) (v := 0) dX7_readPiece_91 92 rfl (by decide) ?_
        have z170 : (0 : Int32).toInt = 0 := by decide
        exact pv_iret (M := mX7_readPiece) dX7_readPiece_92 rfl rfl ⟨_, _, _, rfl, rfl, I17, K18, by decide, by decide, ⟨by omega, by omega, by omega, Or.inr ⟨by decide, by rw [PI_cm kn33 kn40]; exact CM_fl (RSX_fl k88 (by omega))⟩, by omega, IFZ.no (by first | decide | omega)⟩⟩
    · have c11 := iv_eq (X := v8.toInt) (Y := 40) c11 rfl (by decide)
      have k40 : tC m (m 86 3).toInt = 40 := by omega
      refine pv_aload_n (M := mX7_readPiece) 0 dX7_readPiece_50 51 rfl rfl rfl ?_
      refine pv_iload_n (M := mX7_readPiece) 1 dX7_readPiece_51 52 rfl rfl rfl ?_
      have z172 : (6 : Int32).toInt = 6 := by decide
      refine pv_callv (M := mX7_readPiece) (as := [.int 6]) (st := []) (kc2 := 0) (ks2 := 0) dX7_readPiece_52 wd551 YX7_open ⟨wd553, wd7⟩ (mk_get (tl86 hT)) rfl rfl (s_X7_open_vz g hT I R 6 (by decide) (by decide) (by first | omega | assumption | exact (iv_rng _).2 | exact (iv_rng _).1 | decide)) rfl rfl (Nat.le_of_ble_eq_true rfl) (by decide) rfl rfl 55 rfl (fun rv h1 q173 => ?_)
      obtain ⟨m174, n175, v178, rfl, rfl, I176, K177, pv178, qv178, rv178⟩ := q173
      replace rv178 : (v178 = 0 ∨ (6 : Int) ≤ 5) ∧ (m 86 3).toInt ≤ (m174 86 3).toInt ∧ (m174 86 3).toInt ≤ (m174 86 2).toInt ∧ (m174 86 2).toInt = (m 86 2).toInt ∧ ((v178.toInt = 1 ∧ (6 : Int) ≤ 5 ∧ (m174 86 3).toInt = (m 86 3).toInt + 1) ∨ (v178.toInt = 0 ∧ 6 ≤ (6 : Int) ∧ (m174 86 4).toInt = -5000 - (m 86 3).toInt ∧ (m174 86 3).toInt = (m 86 3).toInt)) ∧ (m174 lb 7).toInt = (m lb 7).toInt := by have q_ := rv178; (try rw [z172] at q_); exact q_
      have K177c := K177
      have w179 : (m174 86 2).toInt = (m 86 2).toInt := congrArg Int32.toInt (K177 86 2 rfl)
      have K177 := Kp.trans (K177.sub (by first | exact wZ_wY | exact wZ_86))
      show PV _ _ _ _ _ _ _ 55 [.ref 86, .int 6, pv_U] [.int v178] _
      refine pv_if_eq (M := mX7_readPiece) (tgt := 81) dX7_readPiece_55 58 rfl (by decide) (fun c180 => ?_) (fun c180 => ?_)
      · have c180 := iv_eq (X := v178.toInt) (Y := 0) c180 rfl (by decide)
        refine pv_iconst (M := mX7_readPiece) (v := 0) dX7_readPiece_81 82 rfl (by decide) ?_
        have z181 : (0 : Int32).toInt = 0 := by decide
        exact pv_iret (M := mX7_readPiece) dX7_readPiece_82 rfl rfl ⟨_, _, _, rfl, rfl, I176, K177, by decide, by decide, ⟨by omega, by omega, by omega, (by first | exact Or.inr ⟨by decide, PX_deep (Or.inr k40) (by omega)⟩ | exact Or.inr ⟨by decide, PX_cn k40 k68 (fun z => by omega) (by omega)⟩ | exact Or.inl ⟨by decide, PX_co k40 k68 (by omega) (by omega)⟩ | exact Or.inr ⟨by decide, PX_con k40 (RSX_fl k65 (by omega))⟩ | (exfalso; omega)), by omega, IFZ.no (by first | decide | omega)⟩⟩
      · have pc180 := rv178.1.resolve_left c180
        have c180 := iv_ne (X := v178.toInt) (Y := 0) c180 rfl (by decide)
        omega
  · have c5 := iv_eq (X := v2.toInt) (Y := 33) c5 rfl (by decide)
    have k33 : tC m (m 86 3).toInt = 33 := by omega
    refine pv_aload_n (M := mX7_readPiece) 0 dX7_readPiece_9 10 rfl rfl rfl ?_
    refine pv_iload_n (M := mX7_readPiece) 1 dX7_readPiece_10 11 rfl rfl rfl ?_
    have z183 : (6 : Int32).toInt = 6 := by decide
    refine pv_callv (M := mX7_readPiece) (as := [.int 6]) (st := []) (kc2 := 0) (ks2 := 0) dX7_readPiece_11 wd551 YX7_open ⟨wd553, wd7⟩ (mk_get (tl86 hT)) rfl rfl (s_X7_open_vz g hT I R 6 (by decide) (by decide) (by first | omega | assumption | exact (iv_rng _).2 | exact (iv_rng _).1 | decide)) rfl rfl (Nat.le_of_ble_eq_true rfl) (by decide) rfl rfl 14 rfl (fun rv h1 q184 => ?_)
    obtain ⟨m185, n186, v189, rfl, rfl, I187, K188, pv189, qv189, rv189⟩ := q184
    replace rv189 : (v189 = 0 ∨ (6 : Int) ≤ 5) ∧ (m 86 3).toInt ≤ (m185 86 3).toInt ∧ (m185 86 3).toInt ≤ (m185 86 2).toInt ∧ (m185 86 2).toInt = (m 86 2).toInt ∧ ((v189.toInt = 1 ∧ (6 : Int) ≤ 5 ∧ (m185 86 3).toInt = (m 86 3).toInt + 1) ∨ (v189.toInt = 0 ∧ 6 ≤ (6 : Int) ∧ (m185 86 4).toInt = -5000 - (m 86 3).toInt ∧ (m185 86 3).toInt = (m 86 3).toInt)) ∧ (m185 lb 7).toInt = (m lb 7).toInt := by have q_ := rv189; (try rw [z183] at q_); exact q_
    have K188c := K188
    have w190 : (m185 86 2).toInt = (m 86 2).toInt := congrArg Int32.toInt (K188 86 2 rfl)
    have K188 := Kp.trans (K188.sub (by first | exact wZ_wY | exact wZ_86))
    show PV _ _ _ _ _ _ _ 14 [.ref 86, .int 6, pv_U] [.int v189] _
    refine pv_if_eq (M := mX7_readPiece) (tgt := 27) dX7_readPiece_14 17 rfl (by decide) (fun c191 => ?_) (fun c191 => ?_)
    · have c191 := iv_eq (X := v189.toInt) (Y := 0) c191 rfl (by decide)
      refine pv_iconst (M := mX7_readPiece) (v := 0) dX7_readPiece_27 28 rfl (by decide) ?_
      have z192 : (0 : Int32).toInt = 0 := by decide
      exact pv_iret (M := mX7_readPiece) dX7_readPiece_28 rfl rfl ⟨_, _, _, rfl, rfl, I187, K188, by decide, by decide, ⟨by omega, by omega, by omega, (by first | exact Or.inr ⟨by decide, PX_deep (Or.inl k33) (by omega)⟩ | exact Or.inr ⟨by decide, by rw [PI_not k33]; exact RSX_fl k24 (by omega)⟩ | (exfalso; omega)), by omega, IFZ.no (by first | decide | omega)⟩⟩
    · have pc191 := rv189.1.resolve_left c191
      have c191 := iv_ne (X := v189.toInt) (Y := 0) c191 rfl (by decide)
      omega

set_option maxHeartbeats 2000000 in
set_option maxRecDepth 20000 in
theorem s_X7_readPart_v6z (g : pv_G) {T : List mv_T} {m : Nat → Nat → Int32} {n : Nat → Nat → Int64} {r : Nat → Value} {la lb : Nat} (hT : TX T) (I : IV BB m) (R : RX T r la lb) (hp0 : (m 86 3).toInt ≤ (m 86 2).toInt) (hp1 : TBC m) (hp2 : (m lb 2).toInt ≤ (m 86 3).toInt) : PM g mX7_readPart yX7_readPart (sqI T BB (wZ lb) r m 0 1 (fun m' v => (m 86 3).toInt ≤ (m' 86 3).toInt ∧ (m' 86 3).toInt ≤ (m' 86 2).toInt ∧ (m' 86 2).toInt = (m 86 2).toInt ∧ ((v.toInt = 0 ∨ (m 86 3).toInt + 1 ≤ (m' 86 3).toInt) ∧ TRX (CN (tC m) 0 (m 86 3).toInt) (LB (tC m) 0) (fun a => tC m a ≠ 38) v.toInt (m' 86 3).toInt (m' 86 4).toInt) ∧ (m' lb 7).toInt = (m lb 7).toInt ∧ IFZ v.toInt (PTZ (tC m) 0 lb m m' (m 86 3).toInt (m' 86 3).toInt))) 9 0 0 [.ref 86, .int 6] (mk T m n r) := by
  have Kp : fr (wZ lb) m m := fr.rf
  have R0 := R
  have zR := R.2.2.2.2.1.1
  have zR2 := R.2.2.2.2.2.1
  have z104 : 0 ≤ (m 86 3).toInt ∧ (m 86 3).toInt ≤ 160 := I 86 3
  have z105 : 0 ≤ (m 86 2).toInt ∧ (m 86 2).toInt ≤ 160 := I 86 2
  refine PM.of 2 (lo := [.ref 86, .int 6, pv_U, pv_U]) rfl (by decide) rfl rfl (Nat.le_of_ble_eq_true rfl) ?_
  have kTX := TXT_C I
  refine pv_aload_n (M := mX7_readPart) 0 dX7_readPart_0 1 rfl rfl rfl ?_
  refine mv_get (M := mX7_readPart) (v := .ref lb) dX7_readPart_1 FX7 1 wd281 (by decide) (tl86 hT) rfl R.2.2.2.1 4 rfl ?_
  refine pv_callv (M := mX7_readPart) (as := []) (st := []) (kc2 := 0) (ks2 := 0) dX7_readPart_4 wd666 YX6_steps ⟨wd667, wd668⟩ (mk_get R.2.2.2.2.2.2.1) rfl rfl (s_X6_steps_vz g hT I lb R.2.2.2.2.2) rfl rfl (Nat.le_of_ble_eq_true rfl) (by decide) rfl rfl 7 rfl (fun rv h1 q2 => ?_)
  obtain ⟨v3, rfl, rfl, pv3, qv3, rv3⟩ := q2
  replace rv3 : v3 = m lb 2 := rv3
  show PV _ _ _ _ _ _ _ 7 [.ref 86, .int 6, pv_U, pv_U] [.int v3] _
  have k7 : v3.toInt = (m lb 2).toInt := congrArg Int32.toInt rv3
  refine pv_istore_n (M := mX7_readPart) 2 (lo2 := [.ref 86, .int 6, .int v3, pv_U]) dX7_readPart_7 8 rfl rfl (by decide) rfl rfl ?_
  refine pv_iconst (M := mX7_readPart) (v := 0) dX7_readPart_8 9 rfl (by decide) ?_
  refine pv_istore_n (M := mX7_readPart) 3 (lo2 := [.ref 86, .int 6, .int v3, .int 0]) dX7_readPart_9 10 rfl rfl (by decide) rfl rfl ?_
  have lp11 : ∀ (fuel10 : Nat) (y5 : Int32) (m6 : Nat → Nat → Int32) (n7 : Nat → Nat → Int64), (0 ≤ y5.toInt) → (y5.toInt ≤ 160) → ((m6 86 3).toInt ≤ (m6 86 2).toInt) → ((m6 86 2).toInt = (m 86 2).toInt) → ((m6 lb 7).toInt = (m lb 7).toInt) → ((m 86 3).toInt + 2 * y5.toInt ≤ (m6 86 3).toInt) → (CN (tC m) 0 (m 86 3).toInt = CN (tC m) 0 (m6 86 3).toInt) → (PQZ (tC m) 0 lb m m6 (m 86 3).toInt (m6 86 3).toInt) → IV BB m6 → fr (wZ lb) m m6 → ((160 - y5.toInt) : Int).toNat < fuel10 → PV none g mX7_readPart (sqI T BB (wZ lb) r m 0 1 (fun m' v => (m 86 3).toInt ≤ (m' 86 3).toInt ∧ (m' 86 3).toInt ≤ (m' 86 2).toInt ∧ (m' 86 2).toInt = (m 86 2).toInt ∧ ((v.toInt = 0 ∨ (m 86 3).toInt + 1 ≤ (m' 86 3).toInt) ∧ TRX (CN (tC m) 0 (m 86 3).toInt) (LB (tC m) 0) (fun a => tC m a ≠ 38) v.toInt (m' 86 3).toInt (m' 86 4).toInt) ∧ (m' lb 7).toInt = (m lb 7).toInt ∧ IFZ v.toInt (PTZ (tC m) 0 lb m m' (m 86 3).toInt (m' 86 3).toInt))) 9 0 0 10 [.ref 86, .int 6, .int v3, .int y5] [] (mk T m6 n7 r) := by
    intro fuel10
    induction fuel10 with
    | zero => intro y5 m6 n7 b13 b14 b15 b16 b17 b18 b19 b20 I8 K9 z21; omega
    | succ fuel10 ih12 =>
      intro y5 m6 n7 b13 b14 b15 b16 b17 b18 b19 b20 I8 K9 z21
      have z22 : 0 ≤ (m6 86 3).toInt ∧ (m6 86 3).toInt ≤ 160 := I8 86 3
      have z23 : 0 ≤ (m6 86 2).toInt ∧ (m6 86 2).toInt ≤ 160 := I8 86 2
      have kgc := (show CN (tC m) 0 (m 86 3).toInt = CN (tC m) 0 (m6 86 3).toInt by assumption)
      have kt10 : tC m6 = tC m := tC_fz zR2 K9
      have kgz := (show PQZ (tC m) 0 lb m m6 (m 86 3).toInt (m6 86 3).toInt by assumption)
      have kgl := PQZ_b kgz
      refine pv_iload_n (M := mX7_readPart) 3 dX7_readPart_10 11 rfl rfl rfl ?_
      refine pv_sipush (M := mX7_readPart) (v := 160) dX7_readPart_11 14 rfl (by decide) ?_
      refine pv_icmp_ge (M := mX7_readPart) (tgt := 65) dX7_readPart_14 17 rfl (by decide) (fun c28 => ?_) (fun c28 => ?_)
      · have c28 := iv_le (X := 160) (Y := y5.toInt) c28 (by decide) rfl
        refine pv_aload_n (M := mX7_readPart) 0 dX7_readPart_65 66 rfl rfl rfl ?_
        refine mv_get (M := mX7_readPart) (v := .ref lb) dX7_readPart_66 FX7 1 wd281 (by decide) (tl86 hT) rfl R.2.2.2.1 69 rfl ?_
        refine pv_bipush (M := mX7_readPart) (v := 38) dX7_readPart_69 71 rfl (by decide) ?_
        refine pv_iload_n (M := mX7_readPart) 2 dX7_readPart_71 72 rfl rfl rfl ?_
        have z29 : (38 : Int32).toInt = 38 := by decide
        refine pv_callv (M := mX7_readPart) (as := [.int 38, .int v3]) (st := []) (kc2 := 0) (ks2 := 0) dX7_readPart_72 wd678 YX6_aimLeaps ⟨wd679, wd680⟩ (mk_get R.2.2.2.2.2.2.1) rfl rfl (s_X6_aimLeaps_vz g hT I8 lb R.2.2.2.2.2 38 v3 (by omega) (by omega)) rfl rfl (Nat.le_of_ble_eq_true rfl) (by decide) rfl rfl 75 rfl (fun rv h1 q30 => ?_)
        obtain ⟨m31, n32, rfl, rfl, I33, K34, rm31⟩ := q30
        replace rm31 : (m31 lb 7).toInt = (m6 lb 7).toInt ∧ AIMD lb m6 m31 (38 : Int) v3.toInt := by have q_ := rm31; (try rw [z29] at q_); exact q_
        have K34c := K34
        have w35 : (m31 86 3).toInt = (m6 86 3).toInt := congrArg Int32.toInt (K34 86 3 (wY_out (by omega) (by omega) (by omega)))
        have w36 : (m31 86 2).toInt = (m6 86 2).toInt := congrArg Int32.toInt (K34 86 2 (wY_out (by omega) (by omega) (by omega)))
        have w37 : (m31 86 4).toInt = (m6 86 4).toInt := congrArg Int32.toInt (K34 86 4 (wY_out (by omega) (by omega) (by omega)))
        have K34 := K9.trans (K34.sub (by first | exact wZ_wY | exact wZ_86))
        show PV _ _ _ _ _ _ _ 75 [.ref 86, .int 6, .int v3, .int y5] [] _
        have k75 := rm31.2
        refine pv_iconst (M := mX7_readPart) (v := 1) dX7_readPart_75 76 rfl (by decide) ?_
        have z39 : (1 : Int32).toInt = 1 := by decide
        exact pv_iret (M := mX7_readPart) dX7_readPart_76 rfl rfl ⟨_, _, _, rfl, rfl, I33, K34, by decide, by decide, ⟨by omega, by omega, by omega, (by first | exact ⟨Or.inr (by omega), Or.inl ⟨by decide, by rw [kgc, k27]; congr 1; omega, by show tC m (m31 86 3).toInt ≠ 38; rw [show (m31 86 3).toInt = (m6 86 3).toInt by omega, ← k31]; omega⟩⟩ | (exfalso; omega)), by omega, (by first | exact IFZ.is (by rw [show (m31 86 3).toInt = (m6 86 3).toInt by omega]; exact PRZ_e kzz k75 (by omega)) | exact IFZ.no (by omega))⟩⟩
      · have c28 := iv_nle (X := 160) (Y := y5.toInt) c28 (by decide) rfl
        refine pv_aload_n (M := mX7_readPart) 0 dX7_readPart_17 18 rfl rfl rfl ?_
        refine pv_iload_n (M := mX7_readPart) 1 dX7_readPart_18 19 rfl rfl rfl ?_
        have z40 : (6 : Int32).toInt = 6 := by decide
        refine pv_callv (M := mX7_readPart) (as := [.int 6]) (st := []) (kc2 := 0) (ks2 := 0) dX7_readPart_19 wd674 YX7_readPiece ⟨wd676, wd14⟩ (mk_get (tl86 hT)) rfl rfl (s_X7_readPiece_v6z g hT I8 R (by first | omega | assumption | exact (iv_rng _).2 | exact (iv_rng _).1 | decide) (TBC_eq hp1 kt10) (by first | omega | assumption | exact (iv_rng _).2 | exact (iv_rng _).1 | decide)) rfl rfl (Nat.le_of_ble_eq_true rfl) (by decide) rfl rfl 22 rfl (fun rv h1 q41 => ?_)
        obtain ⟨m42, n43, v46, rfl, rfl, I44, K45, pv46, qv46, rv46⟩ := q41
        replace rv46 : (m6 86 3).toInt ≤ (m42 86 3).toInt ∧ (m42 86 3).toInt ≤ (m42 86 2).toInt ∧ (m42 86 2).toInt = (m6 86 2).toInt ∧ (RSX (PI (tC m6) 0 (m6 86 3).toInt) v46.toInt (m42 86 3).toInt (m42 86 4).toInt) ∧ (m42 lb 7).toInt = (m6 lb 7).toInt ∧ IFZ v46.toInt (CDS lb m6 m42 4 (PID (tC m6) 0 (m6 86 3).toInt) ((m42 86 3).toInt - (m6 86 3).toInt)) := by have q_ := rv46; (try rw [z40] at q_); exact q_
        have K45c := K45
        have K45 := K9.trans (K45.sub (fun _ _ q => q))
        show PV _ _ _ _ _ _ _ 22 [.ref 86, .int 6, .int v3, .int y5] [.int v46] _
        have k22 := rv46.2.2.2.1
        rw [kt10] at k22
        have k22z := rv46.2.2.2.2.2
        rw [kt10] at k22z
        refine pv_if_ne (M := mX7_readPart) (tgt := 27) dX7_readPart_22 25 rfl (by decide) (fun c51 => ?_) (fun c51 => ?_)
        · have c51 := iv_ne (X := v46.toInt) (Y := 0) c51 rfl (by decide)
          have k27o := RSX_ok k22 (by omega)
          have k27 := CN_ok k27o
          have k27p := PI_le 0 (m6 86 3).toInt (by rw [k27o])
          rw [k27o] at k27p
          have kt27 : tC m42 = tC m := tC_fz zR2 K45
          have kzz : PRZ (tC m) 0 lb m m42 (m 86 3).toInt (m42 86 3).toInt := PQZ_p kgz k27o (IFZ.get k22z (by omega))
          have kzb := PRZ_b kzz
          refine pv_aload_n (M := mX7_readPart) 0 dX7_readPart_27 28 rfl rfl rfl ?_
          refine pv_callv (M := mX7_readPart) (as := []) (st := []) (kc2 := 0) (ks2 := 0) dX7_readPart_28 wd527 YX7_peek ⟨wd529, wd2⟩ (mk_get (tl86 hT)) rfl rfl (s_X7_peek_vx g hT I44 R) rfl rfl (Nat.le_of_ble_eq_true rfl) (by decide) rfl rfl 31 rfl (fun rv h1 q59 => ?_)
          obtain ⟨v60, rfl, rfl, pv60, qv60, rv60⟩ := q59
          replace rv60 : v60.toInt = tC m42 (m42 86 3).toInt ∧ (v60.toInt = -1 ∨ (m42 86 3).toInt < (m42 86 2).toInt) := rv60
          show PV _ _ _ _ _ _ _ 31 [.ref 86, .int 6, .int v3, .int y5] [.int v60] _
          have k31 := rv60.1
          have k31b := rv60.2
          rw [kt27] at k31
          refine pv_bipush (M := mX7_readPart) (v := 38) dX7_readPart_31 33 rfl (by decide) ?_
          refine pv_icmp_eq (M := mX7_readPart) (tgt := 39) dX7_readPart_33 36 rfl (by decide) (fun c64 => ?_) (fun c64 => ?_)
          · have c64 := iv_eq (X := v60.toInt) (Y := 38) c64 rfl (by decide)
            have kB : isB (tC m (m42 86 3).toInt) = true := isB_y (by omega)
            refine pv_aload_n (M := mX7_readPart) 0 dX7_readPart_39 40 rfl rfl rfl ?_
            refine mv_get (M := mX7_readPart) (v := .ref lb) dX7_readPart_40 FX7 1 wd281 (by decide) (tl86 hT) rfl R.2.2.2.1 43 rfl ?_
            refine pv_bipush (M := mX7_readPart) (v := 38) dX7_readPart_43 45 rfl (by decide) ?_
            refine pv_iconst (M := mX7_readPart) (v := (-1)) dX7_readPart_45 46 rfl (by decide) ?_
            have z66 : (38 : Int32).toInt = 38 := by decide
            have z67 : ((-1) : Int32).toInt = (-1) := by decide
            refine pv_callv (M := mX7_readPart) (as := [.int 38, .int (-1)]) (st := []) (kc2 := 0) (ks2 := 0) dX7_readPart_46 wd567 YX6_emit ⟨wd568, wd569⟩ (mk_get R.2.2.2.2.2.2.1) rfl rfl (s_X6_emit_vz g hT I44 lb R.2.2.2.2.2 38 (-1) (by decide) (by decide)) rfl rfl (Nat.le_of_ble_eq_true rfl) (by decide) rfl rfl 49 rfl (fun rv h1 q68 => ?_)
            obtain ⟨m69, n70, rfl, rfl, I71, K72, rm69⟩ := q68
            replace rm69 : (m69 lb 7).toInt = (m42 lb 7).toInt ∧ ((m42 lb 2).toInt < 160 → EMT lb m42 m69 (38 : Int) ((-1) : Int32)) := by have q_ := rm69; (try rw [z66] at q_); (try rw [z67] at q_); exact q_
            have K72c := K72
            have w73 : (m69 86 3).toInt = (m42 86 3).toInt := congrArg Int32.toInt (K72 86 3 (wY_out (by omega) (by omega) (by omega)))
            have w74 : (m69 86 2).toInt = (m42 86 2).toInt := congrArg Int32.toInt (K72 86 2 (wY_out (by omega) (by omega) (by omega)))
            have w75 : (m69 86 4).toInt = (m42 86 4).toInt := congrArg Int32.toInt (K72 86 4 (wY_out (by omega) (by omega) (by omega)))
            have K72 := K45.trans (K72.sub (by first | exact wZ_wY | exact wZ_86))
            show PV _ _ _ _ _ _ _ 49 [.ref 86, .int 6, .int v3, .int y5] [] _
            have k49 := rm69.2 (by omega)
            refine pv_aload_n (M := mX7_readPart) 0 dX7_readPart_49 50 rfl rfl rfl ?_
            refine pv_dup (M := mX7_readPart) dX7_readPart_50 51 rfl rfl ?_
            refine iv_get (M := mX7_readPart) (l1 := 0) (l2 := 160) dX7_readPart_51 FX7 3 wd283 (by decide) (tl86 hT) rfl I71 rfl 54 rfl (fun v77 ev77 pv77 qv77 => ?_)
            have wv77 : v77.toInt = (m69 86 3).toInt := congrArg Int32.toInt ev77
            refine pv_iconst (M := mX7_readPart) (v := 1) dX7_readPart_54 55 rfl (by decide) ?_
            refine iv_iadd (M := mX7_readPart) (X := v77.toInt) (Y := 1) dX7_readPart_55 56 rfl rfl (by decide) (by omega) (by omega) (fun v78 ev78 => ?_)
            refine iv_put (M := mX7_readPart) (l1 := 0) (l2 := 160) dX7_readPart_56 FX7 3 wd283 (by decide) rfl (tl86 hT) rfl rfl rfl I71 rfl (by omega) (by omega) 59 rfl (fun m79 e82 I80 => ?_)
            have K81 := K72.set e82 (by first | rfl | decide)
            have w83 : (m79 86 3).toInt = v78.toInt := by rw [e82, up2_eq]
            have w84 : (m79 86 2).toInt = (m69 86 2).toInt := by rw [e82, up2_ne (by omega)]
            have w85 : (m79 86 4).toInt = (m69 86 4).toInt := by rw [e82, up2_ne (by omega)]
            have w86 : (m79 lb 7).toInt = (m69 lb 7).toInt := by rw [e82, up2_ne (by omega)]
            have w87 : (m79 lb 2).toInt = (m69 lb 2).toInt := by rw [e82, up2_ne (by omega)]
            refine iv_inc (M := mX7_readPart) (C := 1) dX7_readPart_59 62 rfl rfl (by decide) rfl rfl (by decide) (by omega) (by omega) (fun v88 ev88 => ?_)
            show PV _ _ _ _ _ _ _ 62 [.ref 86, .int 6, .int v3, .int v88] [] _
            refine pv_goto (M := mX7_readPart) (tgt := 10) dX7_readPart_62 (by decide) ?_
            have kbc : CN (tC m) 0 (m 86 3).toInt = CN (tC m) 0 (m79 86 3).toInt := by rw [kgc, k27, LB_cn kTX (by omega) kB]; congr 1; omega
            have kbz : PQZ (tC m) 0 lb m m79 (m 86 3).toInt (m79 86 3).toInt := PRZ_l kzz kTX (by omega) (show tC m (m42 86 3).toInt = 38 by omega) k49 (by decide) (SAML.set zR2 e82) (by omega)
            exact ih12 v88 m79 n70 (by first | omega | assumption | exact (iv_rng _).2 | exact (iv_rng _).1 | decide) (by first | omega | assumption | exact (iv_rng _).2 | exact (iv_rng _).1 | decide) (by first | omega | assumption | (show (m79 86 3).toInt ≤ (m79 86 2).toInt; omega) | decide) (by first | omega | assumption | (show (m79 86 2).toInt = (m 86 2).toInt; omega) | decide) (by first | omega | assumption | (show (m79 lb 7).toInt = (m lb 7).toInt; omega) | decide) (by first | omega | assumption | (show (m 86 3).toInt + 2 * v88.toInt ≤ (m79 86 3).toInt; omega) | decide) kbc kbz I80 K81 (by omega)
          · have c64 := iv_ne (X := v60.toInt) (Y := 38) c64 rfl (by decide)
            refine pv_goto (M := mX7_readPart) (tgt := 65) dX7_readPart_36 (by decide) ?_
            refine pv_aload_n (M := mX7_readPart) 0 dX7_readPart_65 66 rfl rfl rfl ?_
            refine mv_get (M := mX7_readPart) (v := .ref lb) dX7_readPart_66 FX7 1 wd281 (by decide) (tl86 hT) rfl R.2.2.2.1 69 rfl ?_
            refine pv_bipush (M := mX7_readPart) (v := 38) dX7_readPart_69 71 rfl (by decide) ?_
            refine pv_iload_n (M := mX7_readPart) 2 dX7_readPart_71 72 rfl rfl rfl ?_
            have z91 : (38 : Int32).toInt = 38 := by decide
            refine pv_callv (M := mX7_readPart) (as := [.int 38, .int v3]) (st := []) (kc2 := 0) (ks2 := 0) dX7_readPart_72 wd678 YX6_aimLeaps ⟨wd679, wd680⟩ (mk_get R.2.2.2.2.2.2.1) rfl rfl (s_X6_aimLeaps_vz g hT I44 lb R.2.2.2.2.2 38 v3 (by omega) (by omega)) rfl rfl (Nat.le_of_ble_eq_true rfl) (by decide) rfl rfl 75 rfl (fun rv h1 q92 => ?_)
            obtain ⟨m93, n94, rfl, rfl, I95, K96, rm93⟩ := q92
            replace rm93 : (m93 lb 7).toInt = (m42 lb 7).toInt ∧ AIMD lb m42 m93 (38 : Int) v3.toInt := by have q_ := rm93; (try rw [z91] at q_); exact q_
            have K96c := K96
            have w97 : (m93 86 3).toInt = (m42 86 3).toInt := congrArg Int32.toInt (K96 86 3 (wY_out (by omega) (by omega) (by omega)))
            have w98 : (m93 86 2).toInt = (m42 86 2).toInt := congrArg Int32.toInt (K96 86 2 (wY_out (by omega) (by omega) (by omega)))
            have w99 : (m93 86 4).toInt = (m42 86 4).toInt := congrArg Int32.toInt (K96 86 4 (wY_out (by omega) (by omega) (by omega)))
            have K96 := K45.trans (K96.sub (by first | exact wZ_wY | exact wZ_86))
            show PV _ _ _ _ _ _ _ 75 [.ref 86, .int 6, .int v3, .int y5] [] _
            have k75 := rm93.2
            refine pv_iconst (M := mX7_readPart) (v := 1) dX7_readPart_75 76 rfl (by decide) ?_
            have z101 : (1 : Int32).toInt = 1 := by decide
            exact pv_iret (M := mX7_readPart) dX7_readPart_76 rfl rfl ⟨_, _, _, rfl, rfl, I95, K96, by decide, by decide, ⟨by omega, by omega, by omega, (by first | exact ⟨Or.inr (by omega), Or.inl ⟨by decide, by rw [kgc, k27]; congr 1; omega, by show tC m (m93 86 3).toInt ≠ 38; rw [show (m93 86 3).toInt = (m42 86 3).toInt by omega, ← k31]; omega⟩⟩ | (exfalso; omega)), by omega, (by first | exact IFZ.is (by rw [show (m93 86 3).toInt = (m42 86 3).toInt by omega]; exact PRZ_e kzz k75 (by omega)) | exact IFZ.no (by omega))⟩⟩
        · have c51 := iv_eq (X := v46.toInt) (Y := 0) c51 rfl (by decide)
          refine pv_iconst (M := mX7_readPart) (v := 0) dX7_readPart_25 26 rfl (by decide) ?_
          have z102 : (0 : Int32).toInt = 0 := by decide
          exact pv_iret (M := mX7_readPart) dX7_readPart_26 rfl rfl ⟨_, _, _, rfl, rfl, I44, K45, by decide, by decide, ⟨by omega, by omega, by omega, ⟨Or.inl (by decide), Or.inr ⟨by decide, by rw [kgc]; exact CN_fl (RSX_fl k22 (by omega))⟩⟩, by omega, IFZ.no (by first | decide | omega)⟩⟩
  have z103 : (0 : Int32).toInt = 0 := by decide
  exact lp11 (((160 - 0) : Int).toNat + 1) 0 m n (by first | omega | assumption | exact (iv_rng _).2 | exact (iv_rng _).1 | decide) (by first | omega | assumption | exact (iv_rng _).2 | exact (iv_rng _).1 | decide) (by first | omega | assumption | (show (m 86 3).toInt ≤ (m 86 2).toInt; omega) | decide) (by first | omega | assumption | (show (m 86 2).toInt = (m 86 2).toInt; omega) | decide) (by first | omega | assumption | (show (m lb 7).toInt = (m lb 7).toInt; omega) | decide) (by first | omega | assumption | (show (m 86 3).toInt + 2 * 0 ≤ (m 86 3).toInt; omega) | decide) rfl (PQZ_0 (by omega)) I Kp (by omega)

set_option maxHeartbeats 2000000 in
set_option maxRecDepth 20000 in
theorem s_X7_readCondition_v6z (g : pv_G) {T : List mv_T} {m : Nat → Nat → Int32} {n : Nat → Nat → Int64} {r : Nat → Value} {la lb : Nat} (hT : TX T) (I : IV BB m) (R : RX T r la lb) (hp0 : (m 86 3).toInt ≤ (m 86 2).toInt) (hp1 : TBC m) (hp2 : (m lb 2).toInt ≤ (m 86 3).toInt) : PM g mX7_readCondition yX7_readCondition (sqI T BB (wZ lb) r m 0 1 (fun m' v => (m 86 3).toInt ≤ (m' 86 3).toInt ∧ (m' 86 3).toInt ≤ (m' 86 2).toInt ∧ (m' 86 2).toInt = (m 86 2).toInt ∧ (RSX (CN (tC m) 0 (m 86 3).toInt) v.toInt (m' 86 3).toInt (m' 86 4).toInt) ∧ (m' lb 7).toInt = (m lb 7).toInt ∧ IFZ v.toInt (CDS lb m m' 4 (CND_ (tC m) 0 (m 86 3).toInt) ((m' 86 3).toInt - (m 86 3).toInt)))) 10 0 0 [.ref 86, .int 6] (mk T m n r) := by
  have Kp : fr (wZ lb) m m := fr.rf
  have R0 := R
  have zR := R.2.2.2.2.1.1
  have zR2 := R.2.2.2.2.2.1
  have z103 : 0 ≤ (m 86 3).toInt ∧ (m 86 3).toInt ≤ 160 := I 86 3
  have z104 : 0 ≤ (m 86 2).toInt ∧ (m 86 2).toInt ≤ 160 := I 86 2
  refine PM.of 2 (lo := [.ref 86, .int 6, pv_U, pv_U]) rfl (by decide) rfl rfl (Nat.le_of_ble_eq_true rfl) ?_
  have kTX := TXT_C I
  refine pv_aload_n (M := mX7_readCondition) 0 dX7_readCondition_0 1 rfl rfl rfl ?_
  refine mv_get (M := mX7_readCondition) (v := .ref lb) dX7_readCondition_1 FX7 1 wd281 (by decide) (tl86 hT) rfl R.2.2.2.1 4 rfl ?_
  refine pv_callv (M := mX7_readCondition) (as := []) (st := []) (kc2 := 0) (ks2 := 0) dX7_readCondition_4 wd666 YX6_steps ⟨wd667, wd668⟩ (mk_get R.2.2.2.2.2.2.1) rfl rfl (s_X6_steps_vz g hT I lb R.2.2.2.2.2) rfl rfl (Nat.le_of_ble_eq_true rfl) (by decide) rfl rfl 7 rfl (fun rv h1 q2 => ?_)
  obtain ⟨v3, rfl, rfl, pv3, qv3, rv3⟩ := q2
  replace rv3 : v3 = m lb 2 := rv3
  show PV _ _ _ _ _ _ _ 7 [.ref 86, .int 6, pv_U, pv_U] [.int v3] _
  have k7 : v3.toInt = (m lb 2).toInt := congrArg Int32.toInt rv3
  refine pv_istore_n (M := mX7_readCondition) 2 (lo2 := [.ref 86, .int 6, .int v3, pv_U]) dX7_readCondition_7 8 rfl rfl (by decide) rfl rfl ?_
  refine pv_iconst (M := mX7_readCondition) (v := 0) dX7_readCondition_8 9 rfl (by decide) ?_
  refine pv_istore_n (M := mX7_readCondition) 3 (lo2 := [.ref 86, .int 6, .int v3, .int 0]) dX7_readCondition_9 10 rfl rfl (by decide) rfl rfl ?_
  have lp11 : ∀ (fuel10 : Nat) (y5 : Int32) (m6 : Nat → Nat → Int32) (n7 : Nat → Nat → Int64), (0 ≤ y5.toInt) → (y5.toInt ≤ 160) → ((m6 86 3).toInt ≤ (m6 86 2).toInt) → ((m6 86 2).toInt = (m 86 2).toInt) → ((m6 lb 7).toInt = (m lb 7).toInt) → ((m 86 3).toInt + 2 * y5.toInt ≤ (m6 86 3).toInt) → (CN (tC m) 0 (m 86 3).toInt = CN (tC m) 0 (m6 86 3).toInt) → (CQZ (tC m) 0 lb m m6 (m 86 3).toInt (m6 86 3).toInt) → IV BB m6 → fr (wZ lb) m m6 → ((160 - y5.toInt) : Int).toNat < fuel10 → PV none g mX7_readCondition (sqI T BB (wZ lb) r m 0 1 (fun m' v => (m 86 3).toInt ≤ (m' 86 3).toInt ∧ (m' 86 3).toInt ≤ (m' 86 2).toInt ∧ (m' 86 2).toInt = (m 86 2).toInt ∧ (RSX (CN (tC m) 0 (m 86 3).toInt) v.toInt (m' 86 3).toInt (m' 86 4).toInt) ∧ (m' lb 7).toInt = (m lb 7).toInt ∧ IFZ v.toInt (CDS lb m m' 4 (CND_ (tC m) 0 (m 86 3).toInt) ((m' 86 3).toInt - (m 86 3).toInt)))) 10 0 0 10 [.ref 86, .int 6, .int v3, .int y5] [] (mk T m6 n7 r) := by
    intro fuel10
    induction fuel10 with
    | zero => intro y5 m6 n7 b13 b14 b15 b16 b17 b18 b19 b20 I8 K9 z21; omega
    | succ fuel10 ih12 =>
      intro y5 m6 n7 b13 b14 b15 b16 b17 b18 b19 b20 I8 K9 z21
      have z22 : 0 ≤ (m6 86 3).toInt ∧ (m6 86 3).toInt ≤ 160 := I8 86 3
      have z23 : 0 ≤ (m6 86 2).toInt ∧ (m6 86 2).toInt ≤ 160 := I8 86 2
      have kgc := (show CN (tC m) 0 (m 86 3).toInt = CN (tC m) 0 (m6 86 3).toInt by assumption)
      have kt10 : tC m6 = tC m := tC_fz zR2 K9
      have kgz := (show CQZ (tC m) 0 lb m m6 (m 86 3).toInt (m6 86 3).toInt by assumption)
      have kgl := CQZ_b kgz
      refine pv_iload_n (M := mX7_readCondition) 3 dX7_readCondition_10 11 rfl rfl rfl ?_
      refine pv_sipush (M := mX7_readCondition) (v := 160) dX7_readCondition_11 14 rfl (by decide) ?_
      refine pv_icmp_ge (M := mX7_readCondition) (tgt := 65) dX7_readCondition_14 17 rfl (by decide) (fun c28 => ?_) (fun c28 => ?_)
      · have c28 := iv_le (X := 160) (Y := y5.toInt) c28 (by decide) rfl
        refine pv_aload_n (M := mX7_readCondition) 0 dX7_readCondition_65 66 rfl rfl rfl ?_
        refine mv_get (M := mX7_readCondition) (v := .ref lb) dX7_readCondition_66 FX7 1 wd281 (by decide) (tl86 hT) rfl R.2.2.2.1 69 rfl ?_
        refine pv_bipush (M := mX7_readCondition) (v := 124) dX7_readCondition_69 71 rfl (by decide) ?_
        refine pv_iload_n (M := mX7_readCondition) 2 dX7_readCondition_71 72 rfl rfl rfl ?_
        have z29 : (124 : Int32).toInt = 124 := by decide
        refine pv_callv (M := mX7_readCondition) (as := [.int 124, .int v3]) (st := []) (kc2 := 0) (ks2 := 0) dX7_readCondition_72 wd678 YX6_aimLeaps ⟨wd679, wd680⟩ (mk_get R.2.2.2.2.2.2.1) rfl rfl (s_X6_aimLeaps_vz g hT I8 lb R.2.2.2.2.2 124 v3 (by omega) (by omega)) rfl rfl (Nat.le_of_ble_eq_true rfl) (by decide) rfl rfl 75 rfl (fun rv h1 q30 => ?_)
        obtain ⟨m31, n32, rfl, rfl, I33, K34, rm31⟩ := q30
        replace rm31 : (m31 lb 7).toInt = (m6 lb 7).toInt ∧ AIMD lb m6 m31 (124 : Int) v3.toInt := by have q_ := rm31; (try rw [z29] at q_); exact q_
        have K34c := K34
        have w35 : (m31 86 3).toInt = (m6 86 3).toInt := congrArg Int32.toInt (K34 86 3 (wY_out (by omega) (by omega) (by omega)))
        have w36 : (m31 86 2).toInt = (m6 86 2).toInt := congrArg Int32.toInt (K34 86 2 (wY_out (by omega) (by omega) (by omega)))
        have w37 : (m31 86 4).toInt = (m6 86 4).toInt := congrArg Int32.toInt (K34 86 4 (wY_out (by omega) (by omega) (by omega)))
        have K34 := K9.trans (K34.sub (by first | exact wZ_wY | exact wZ_86))
        show PV _ _ _ _ _ _ _ 75 [.ref 86, .int 6, .int v3, .int y5] [] _
        have k75 := rm31.2
        refine pv_iconst (M := mX7_readCondition) (v := 1) dX7_readCondition_75 76 rfl (by decide) ?_
        have z39 : (1 : Int32).toInt = 1 := by decide
        exact pv_iret (M := mX7_readCondition) dX7_readCondition_76 rfl rfl ⟨_, _, _, rfl, rfl, I33, K34, by decide, by decide, ⟨by omega, by omega, by omega, (by first | exact Or.inl ⟨by decide, by rw [kgc, k27, LB_no (isB_no k27n (by rw [← k31]; omega))]; congr 1; omega⟩ | (exfalso; omega)), by omega, (by first | exact IFZ.is (by rw [show (m31 86 3).toInt = (m6 86 3).toInt by omega]; exact CRZ_e kzz (isB_no k27n (by rw [← k31]; omega)) k75 (by omega)) | exact IFZ.no (by omega))⟩⟩
      · have c28 := iv_nle (X := 160) (Y := y5.toInt) c28 (by decide) rfl
        refine pv_aload_n (M := mX7_readCondition) 0 dX7_readCondition_17 18 rfl rfl rfl ?_
        refine pv_iload_n (M := mX7_readCondition) 1 dX7_readCondition_18 19 rfl rfl rfl ?_
        have z40 : (6 : Int32).toInt = 6 := by decide
        refine pv_callv (M := mX7_readCondition) (as := [.int 6]) (st := []) (kc2 := 0) (ks2 := 0) dX7_readCondition_19 wd670 YX7_readPart ⟨wd672, wd13⟩ (mk_get (tl86 hT)) rfl rfl (s_X7_readPart_v6z g hT I8 R (by first | omega | assumption | exact (iv_rng _).2 | exact (iv_rng _).1 | decide) (TBC_eq hp1 kt10) (by first | omega | assumption | exact (iv_rng _).2 | exact (iv_rng _).1 | decide)) rfl rfl (Nat.le_of_ble_eq_true rfl) (by decide) rfl rfl 22 rfl (fun rv h1 q41 => ?_)
        obtain ⟨m42, n43, v46, rfl, rfl, I44, K45, pv46, qv46, rv46⟩ := q41
        replace rv46 : (m6 86 3).toInt ≤ (m42 86 3).toInt ∧ (m42 86 3).toInt ≤ (m42 86 2).toInt ∧ (m42 86 2).toInt = (m6 86 2).toInt ∧ ((v46.toInt = 0 ∨ (m6 86 3).toInt + 1 ≤ (m42 86 3).toInt) ∧ TRX (CN (tC m6) 0 (m6 86 3).toInt) (LB (tC m6) 0) (fun a => tC m6 a ≠ 38) v46.toInt (m42 86 3).toInt (m42 86 4).toInt) ∧ (m42 lb 7).toInt = (m6 lb 7).toInt ∧ IFZ v46.toInt (PTZ (tC m6) 0 lb m6 m42 (m6 86 3).toInt (m42 86 3).toInt) := by have q_ := rv46; (try rw [z40] at q_); exact q_
        have K45c := K45
        have K45 := K9.trans (K45.sub (fun _ _ q => q))
        show PV _ _ _ _ _ _ _ 22 [.ref 86, .int 6, .int v3, .int y5] [.int v46] _
        have k22 := rv46.2.2.2.1.2
        have k22p := rv46.2.2.2.1.1
        rw [kt10] at k22
        have k22z := rv46.2.2.2.2.2
        rw [kt10] at k22z
        refine pv_if_ne (M := mX7_readCondition) (tgt := 27) dX7_readCondition_22 25 rfl (by decide) (fun c52 => ?_) (fun c52 => ?_)
        · have c52 := iv_ne (X := v46.toInt) (Y := 0) c52 rfl (by decide)
          have k27 := (TRX_ok k22 (by omega)).1
          have k27n := (TRX_ok k22 (by omega)).2
          have kt27 : tC m42 = tC m := tC_fz zR2 K45
          have kzz : CRZ (tC m) 0 lb m m42 (m 86 3).toInt (m42 86 3).toInt := CQZ_p kgz (IFZ.get k22z (by omega))
          have kzb := CRZ_b kzz
          refine pv_aload_n (M := mX7_readCondition) 0 dX7_readCondition_27 28 rfl rfl rfl ?_
          refine pv_callv (M := mX7_readCondition) (as := []) (st := []) (kc2 := 0) (ks2 := 0) dX7_readCondition_28 wd527 YX7_peek ⟨wd529, wd2⟩ (mk_get (tl86 hT)) rfl rfl (s_X7_peek_vx g hT I44 R) rfl rfl (Nat.le_of_ble_eq_true rfl) (by decide) rfl rfl 31 rfl (fun rv h1 q58 => ?_)
          obtain ⟨v59, rfl, rfl, pv59, qv59, rv59⟩ := q58
          replace rv59 : v59.toInt = tC m42 (m42 86 3).toInt ∧ (v59.toInt = -1 ∨ (m42 86 3).toInt < (m42 86 2).toInt) := rv59
          show PV _ _ _ _ _ _ _ 31 [.ref 86, .int 6, .int v3, .int y5] [.int v59] _
          have k31 := rv59.1
          have k31b := rv59.2
          rw [kt27] at k31
          refine pv_bipush (M := mX7_readCondition) (v := 124) dX7_readCondition_31 33 rfl (by decide) ?_
          refine pv_icmp_eq (M := mX7_readCondition) (tgt := 39) dX7_readCondition_33 36 rfl (by decide) (fun c63 => ?_) (fun c63 => ?_)
          · have c63 := iv_eq (X := v59.toInt) (Y := 124) c63 rfl (by decide)
            have kB : isB (tC m (m42 86 3).toInt) = true := isB_y (by omega)
            refine pv_aload_n (M := mX7_readCondition) 0 dX7_readCondition_39 40 rfl rfl rfl ?_
            refine mv_get (M := mX7_readCondition) (v := .ref lb) dX7_readCondition_40 FX7 1 wd281 (by decide) (tl86 hT) rfl R.2.2.2.1 43 rfl ?_
            refine pv_bipush (M := mX7_readCondition) (v := 124) dX7_readCondition_43 45 rfl (by decide) ?_
            refine pv_iconst (M := mX7_readCondition) (v := (-1)) dX7_readCondition_45 46 rfl (by decide) ?_
            have z65 : (124 : Int32).toInt = 124 := by decide
            have z66 : ((-1) : Int32).toInt = (-1) := by decide
            refine pv_callv (M := mX7_readCondition) (as := [.int 124, .int (-1)]) (st := []) (kc2 := 0) (ks2 := 0) dX7_readCondition_46 wd567 YX6_emit ⟨wd568, wd569⟩ (mk_get R.2.2.2.2.2.2.1) rfl rfl (s_X6_emit_vz g hT I44 lb R.2.2.2.2.2 124 (-1) (by decide) (by decide)) rfl rfl (Nat.le_of_ble_eq_true rfl) (by decide) rfl rfl 49 rfl (fun rv h1 q67 => ?_)
            obtain ⟨m68, n69, rfl, rfl, I70, K71, rm68⟩ := q67
            replace rm68 : (m68 lb 7).toInt = (m42 lb 7).toInt ∧ ((m42 lb 2).toInt < 160 → EMT lb m42 m68 (124 : Int) ((-1) : Int32)) := by have q_ := rm68; (try rw [z65] at q_); (try rw [z66] at q_); exact q_
            have K71c := K71
            have w72 : (m68 86 3).toInt = (m42 86 3).toInt := congrArg Int32.toInt (K71 86 3 (wY_out (by omega) (by omega) (by omega)))
            have w73 : (m68 86 2).toInt = (m42 86 2).toInt := congrArg Int32.toInt (K71 86 2 (wY_out (by omega) (by omega) (by omega)))
            have w74 : (m68 86 4).toInt = (m42 86 4).toInt := congrArg Int32.toInt (K71 86 4 (wY_out (by omega) (by omega) (by omega)))
            have K71 := K45.trans (K71.sub (by first | exact wZ_wY | exact wZ_86))
            show PV _ _ _ _ _ _ _ 49 [.ref 86, .int 6, .int v3, .int y5] [] _
            have k49 := rm68.2 (by omega)
            refine pv_aload_n (M := mX7_readCondition) 0 dX7_readCondition_49 50 rfl rfl rfl ?_
            refine pv_dup (M := mX7_readCondition) dX7_readCondition_50 51 rfl rfl ?_
            refine iv_get (M := mX7_readCondition) (l1 := 0) (l2 := 160) dX7_readCondition_51 FX7 3 wd283 (by decide) (tl86 hT) rfl I70 rfl 54 rfl (fun v76 ev76 pv76 qv76 => ?_)
            have wv76 : v76.toInt = (m68 86 3).toInt := congrArg Int32.toInt ev76
            refine pv_iconst (M := mX7_readCondition) (v := 1) dX7_readCondition_54 55 rfl (by decide) ?_
            refine iv_iadd (M := mX7_readCondition) (X := v76.toInt) (Y := 1) dX7_readCondition_55 56 rfl rfl (by decide) (by omega) (by omega) (fun v77 ev77 => ?_)
            refine iv_put (M := mX7_readCondition) (l1 := 0) (l2 := 160) dX7_readCondition_56 FX7 3 wd283 (by decide) rfl (tl86 hT) rfl rfl rfl I70 rfl (by omega) (by omega) 59 rfl (fun m78 e81 I79 => ?_)
            have K80 := K71.set e81 (by first | rfl | decide)
            have w82 : (m78 86 3).toInt = v77.toInt := by rw [e81, up2_eq]
            have w83 : (m78 86 2).toInt = (m68 86 2).toInt := by rw [e81, up2_ne (by omega)]
            have w84 : (m78 86 4).toInt = (m68 86 4).toInt := by rw [e81, up2_ne (by omega)]
            have w85 : (m78 lb 7).toInt = (m68 lb 7).toInt := by rw [e81, up2_ne (by omega)]
            have w86 : (m78 lb 2).toInt = (m68 lb 2).toInt := by rw [e81, up2_ne (by omega)]
            refine iv_inc (M := mX7_readCondition) (C := 1) dX7_readCondition_59 62 rfl rfl (by decide) rfl rfl (by decide) (by omega) (by omega) (fun v87 ev87 => ?_)
            show PV _ _ _ _ _ _ _ 62 [.ref 86, .int 6, .int v3, .int v87] [] _
            refine pv_goto (M := mX7_readCondition) (tgt := 10) dX7_readCondition_62 (by decide) ?_
            have kbc : CN (tC m) 0 (m 86 3).toInt = CN (tC m) 0 (m78 86 3).toInt := by rw [kgc, k27, LB_cn kTX (by omega) kB]; congr 1; omega
            have kbz : CQZ (tC m) 0 lb m m78 (m 86 3).toInt (m78 86 3).toInt := CRZ_l kzz kTX (by omega) (show tC m (m42 86 3).toInt = 124 by omega) k49 (by decide) (SAML.set zR2 e81) (by omega)
            exact ih12 v87 m78 n69 (by first | omega | assumption | exact (iv_rng _).2 | exact (iv_rng _).1 | decide) (by first | omega | assumption | exact (iv_rng _).2 | exact (iv_rng _).1 | decide) (by first | omega | assumption | (show (m78 86 3).toInt ≤ (m78 86 2).toInt; omega) | decide) (by first | omega | assumption | (show (m78 86 2).toInt = (m 86 2).toInt; omega) | decide) (by first | omega | assumption | (show (m78 lb 7).toInt = (m lb 7).toInt; omega) | decide) (by first | omega | assumption | (show (m 86 3).toInt + 2 * v87.toInt ≤ (m78 86 3).toInt; omega) | decide) kbc kbz I79 K80 (by omega)
          · have c63 := iv_ne (X := v59.toInt) (Y := 124) c63 rfl (by decide)
            refine pv_goto (M := mX7_readCondition) (tgt := 65) dX7_readCondition_36 (by decide) ?_
            refine pv_aload_n (M := mX7_readCondition) 0 dX7_readCondition_65 66 rfl rfl rfl ?_
            refine mv_get (M := mX7_readCondition) (v := .ref lb) dX7_readCondition_66 FX7 1 wd281 (by decide) (tl86 hT) rfl R.2.2.2.1 69 rfl ?_
            refine pv_bipush (M := mX7_readCondition) (v := 124) dX7_readCondition_69 71 rfl (by decide) ?_
            refine pv_iload_n (M := mX7_readCondition) 2 dX7_readCondition_71 72 rfl rfl rfl ?_
            have z90 : (124 : Int32).toInt = 124 := by decide
            refine pv_callv (M := mX7_readCondition) (as := [.int 124, .int v3]) (st := []) (kc2 := 0) (ks2 := 0) dX7_readCondition_72 wd678 YX6_aimLeaps ⟨wd679, wd680⟩ (mk_get R.2.2.2.2.2.2.1) rfl rfl (s_X6_aimLeaps_vz g hT I44 lb R.2.2.2.2.2 124 v3 (by omega) (by omega)) rfl rfl (Nat.le_of_ble_eq_true rfl) (by decide) rfl rfl 75 rfl (fun rv h1 q91 => ?_)
            obtain ⟨m92, n93, rfl, rfl, I94, K95, rm92⟩ := q91
            replace rm92 : (m92 lb 7).toInt = (m42 lb 7).toInt ∧ AIMD lb m42 m92 (124 : Int) v3.toInt := by have q_ := rm92; (try rw [z90] at q_); exact q_
            have K95c := K95
            have w96 : (m92 86 3).toInt = (m42 86 3).toInt := congrArg Int32.toInt (K95 86 3 (wY_out (by omega) (by omega) (by omega)))
            have w97 : (m92 86 2).toInt = (m42 86 2).toInt := congrArg Int32.toInt (K95 86 2 (wY_out (by omega) (by omega) (by omega)))
            have w98 : (m92 86 4).toInt = (m42 86 4).toInt := congrArg Int32.toInt (K95 86 4 (wY_out (by omega) (by omega) (by omega)))
            have K95 := K45.trans (K95.sub (by first | exact wZ_wY | exact wZ_86))
            show PV _ _ _ _ _ _ _ 75 [.ref 86, .int 6, .int v3, .int y5] [] _
            have k75 := rm92.2
            refine pv_iconst (M := mX7_readCondition) (v := 1) dX7_readCondition_75 76 rfl (by decide) ?_
            have z100 : (1 : Int32).toInt = 1 := by decide
            exact pv_iret (M := mX7_readCondition) dX7_readCondition_76 rfl rfl ⟨_, _, _, rfl, rfl, I94, K95, by decide, by decide, ⟨by omega, by omega, by omega, (by first | exact Or.inl ⟨by decide, by rw [kgc, k27, LB_no (isB_no k27n (by rw [← k31]; omega))]; congr 1; omega⟩ | (exfalso; omega)), by omega, (by first | exact IFZ.is (by rw [show (m92 86 3).toInt = (m42 86 3).toInt by omega]; exact CRZ_e kzz (isB_no k27n (by rw [← k31]; omega)) k75 (by omega)) | exact IFZ.no (by omega))⟩⟩
        · have c52 := iv_eq (X := v46.toInt) (Y := 0) c52 rfl (by decide)
          refine pv_iconst (M := mX7_readCondition) (v := 0) dX7_readCondition_25 26 rfl (by decide) ?_
          have z101 : (0 : Int32).toInt = 0 := by decide
          exact pv_iret (M := mX7_readCondition) dX7_readCondition_26 rfl rfl ⟨_, _, _, rfl, rfl, I44, K45, by decide, by decide, ⟨by omega, by omega, by omega, Or.inr ⟨by decide, by rw [kgc]; exact TRX_fl k22 (by omega)⟩, by omega, IFZ.no (by first | decide | omega)⟩⟩
  have z102 : (0 : Int32).toInt = 0 := by decide
  exact lp11 (((160 - 0) : Int).toNat + 1) 0 m n (by first | omega | assumption | exact (iv_rng _).2 | exact (iv_rng _).1 | decide) (by first | omega | assumption | exact (iv_rng _).2 | exact (iv_rng _).1 | decide) (by first | omega | assumption | (show (m 86 3).toInt ≤ (m 86 2).toInt; omega) | decide) (by first | omega | assumption | (show (m 86 2).toInt = (m 86 2).toInt; omega) | decide) (by first | omega | assumption | (show (m lb 7).toInt = (m lb 7).toInt; omega) | decide) (by first | omega | assumption | (show (m 86 3).toInt + 2 * 0 ≤ (m 86 3).toInt; omega) | decide) rfl (CQZ_0 (by omega)) I Kp (by omega)

set_option maxHeartbeats 2000000 in
set_option maxRecDepth 20000 in
theorem s_X7_readPiece_v5z (g : pv_G) {T : List mv_T} {m : Nat → Nat → Int32} {n : Nat → Nat → Int64} {r : Nat → Value} {la lb : Nat} (hT : TX T) (I : IV BB m) (R : RX T r la lb) (hp0 : (m 86 3).toInt ≤ (m 86 2).toInt) (hp1 : TBC m) (hp2 : (m lb 2).toInt ≤ (m 86 3).toInt) : PM g mX7_readPiece yX7_readPiece (sqI T BB (wZ lb) r m 0 1 (fun m' v => (m 86 3).toInt ≤ (m' 86 3).toInt ∧ (m' 86 3).toInt ≤ (m' 86 2).toInt ∧ (m' 86 2).toInt = (m 86 2).toInt ∧ (RSX (PI (tC m) 1 (m 86 3).toInt) v.toInt (m' 86 3).toInt (m' 86 4).toInt) ∧ (m' lb 7).toInt = (m lb 7).toInt ∧ IFZ v.toInt (CDS lb m m' 6 (PID (tC m) 1 (m 86 3).toInt) ((m' 86 3).toInt - (m 86 3).toInt)))) 11 0 0 [.ref 86, .int 5] (mk T m n r) := by
  have Kp : fr (wZ lb) m m := fr.rf
  have R0 := R
  have zR := R.2.2.2.2.1.1
  have zR2 := R.2.2.2.2.2.1
  have z259 : 0 ≤ (m 86 3).toInt ∧ (m 86 3).toInt ≤ 160 := I 86 3
  have z260 : 0 ≤ (m 86 2).toInt ∧ (m 86 2).toInt ≤ 160 := I 86 2
  refine PM.of 1 (lo := [.ref 86, .int 5, pv_U]) rfl (by decide) rfl rfl (Nat.le_of_ble_eq_true rfl) ?_
  refine pv_aload_n (M := mX7_readPiece) 0 dX7_readPiece_0 1 rfl rfl rfl ?_
  refine pv_callv (M := mX7_readPiece) (as := []) (st := []) (kc2 := 0) (ks2 := 0) dX7_readPiece_1 wd527 YX7_peek ⟨wd529, wd2⟩ (mk_get (tl86 hT)) rfl rfl (s_X7_peek_vx g hT I R) rfl rfl (Nat.le_of_ble_eq_true rfl) (by decide) rfl rfl 4 rfl (fun rv h1 q1 => ?_)
  obtain ⟨v2, rfl, rfl, pv2, qv2, rv2⟩ := q1
  replace rv2 : v2.toInt = tC m (m 86 3).toInt ∧ (v2.toInt = -1 ∨ (m 86 3).toInt < (m 86 2).toInt) := rv2
  show PV _ _ _ _ _ _ _ 4 [.ref 86, .int 5, pv_U] [.int v2] _
  have k4 := rv2.1
  have k4b := rv2.2
  refine pv_bipush (M := mX7_readPiece) (v := 33) dX7_readPiece_4 6 rfl (by decide) ?_
  refine pv_icmp_ne (M := mX7_readPiece) (tgt := 41) dX7_readPiece_6 9 rfl (by decide) (fun c5 => ?_) (fun c5 => ?_)
  · have c5 := iv_ne (X := v2.toInt) (Y := 33) c5 rfl (by decide)
    have kn33 : tC m (m 86 3).toInt ≠ 33 := by omega
    refine pv_aload_n (M := mX7_readPiece) 0 dX7_readPiece_41 42 rfl rfl rfl ?_
    refine pv_callv (M := mX7_readPiece) (as := []) (st := []) (kc2 := 0) (ks2 := 0) dX7_readPiece_42 wd527 YX7_peek ⟨wd529, wd2⟩ (mk_get (tl86 hT)) rfl rfl (s_X7_peek_vx g hT I R) rfl rfl (Nat.le_of_ble_eq_true rfl) (by decide) rfl rfl 45 rfl (fun rv h1 q7 => ?_)
    obtain ⟨v8, rfl, rfl, pv8, qv8, rv8⟩ := q7
    replace rv8 : v8.toInt = tC m (m 86 3).toInt ∧ (v8.toInt = -1 ∨ (m 86 3).toInt < (m 86 2).toInt) := rv8
    show PV _ _ _ _ _ _ _ 45 [.ref 86, .int 5, pv_U] [.int v8] _
    have k45 := rv8.1
    have k45b := rv8.2
    refine pv_bipush (M := mX7_readPiece) (v := 40) dX7_readPiece_45 47 rfl (by decide) ?_
    refine pv_icmp_ne (M := mX7_readPiece) (tgt := 83) dX7_readPiece_47 50 rfl (by decide) (fun c11 => ?_) (fun c11 => ?_)
    · have c11 := iv_ne (X := v8.toInt) (Y := 40) c11 rfl (by decide)
      have kn40 : tC m (m 86 3).toInt ≠ 40 := by omega
      refine pv_aload_n (M := mX7_readPiece) 0 dX7_readPiece_83 84 rfl rfl rfl ?_
      refine pv_iload_n (M := mX7_readPiece) 1 dX7_readPiece_84 85 rfl rfl rfl ?_
      have z13 : (5 : Int32).toInt = 5 := by decide
      refine pv_callv (M := mX7_readPiece) (as := [.int 5]) (st := []) (kc2 := 0) (ks2 := 0) dX7_readPiece_85 wd539 YX7_readSum ⟨wd541, wd4⟩ (mk_get (tl86 hT)) rfl rfl (s_X7_readSum_v5z g hT I R (by first | omega | assumption | exact (iv_rng _).2 | exact (iv_rng _).1 | decide) hp1 (by first | omega | assumption | exact (iv_rng _).2 | exact (iv_rng _).1 | decide)) rfl rfl (Nat.le_of_ble_eq_true rfl) (by decide) rfl rfl 88 rfl (fun rv h1 q14 => ?_)
      obtain ⟨m15, n16, v19, rfl, rfl, I17, K18, pv19, qv19, rv19⟩ := q14
      replace rv19 : (m 86 3).toInt ≤ (m15 86 3).toInt ∧ (m15 86 3).toInt ≤ (m15 86 2).toInt ∧ (m15 86 2).toInt = (m 86 2).toInt ∧ (RSX (SU (tC m) 1 (m 86 3).toInt) v19.toInt (m15 86 3).toInt (m15 86 4).toInt) ∧ (m15 lb 7).toInt = (m lb 7).toInt ∧ IFZ v19.toInt (CDS lb m m15 5 (SUD (tC m) 1 (m 86 3).toInt) ((m15 86 3).toInt - (m 86 3).toInt)) := by have q_ := rv19; (try rw [z13] at q_); exact q_
      have K18c := K18
      have K18 := Kp.trans (K18.sub (fun _ _ q => q))
      show PV _ _ _ _ _ _ _ 88 [.ref 86, .int 5, pv_U] [.int v19] _
      have k88 := rv19.2.2.2.1
      have k88z := rv19.2.2.2.2.2
      refine pv_if_ne (M := mX7_readPiece) (tgt := 93) dX7_readPiece_88 91 rfl (by decide) (fun c22 => ?_) (fun c22 => ?_)
      · have c22 := iv_ne (X := v19.toInt) (Y := 0) c22 rfl (by decide)
        have k93 := RSX_ok k88 (by omega)
        have kt93 : tC m15 = tC m := tC_fz zR2 K18
        have kA93 : (m15 86 3).toInt = (m15 86 3).toInt := rfl
        have k93z := IFZ.get k88z (by omega)
        have k93b := CDS_b k93z
        refine pv_aload_n (M := mX7_readPiece) 0 dX7_readPiece_93 94 rfl rfl rfl ?_
        refine pv_callv (M := mX7_readPiece) (as := []) (st := []) (kc2 := 0) (ks2 := 0) dX7_readPiece_94 wd527 YX7_peek ⟨wd529, wd2⟩ (mk_get (tl86 hT)) rfl rfl (s_X7_peek_vx g hT I17 R) rfl rfl (Nat.le_of_ble_eq_true rfl) (by decide) rfl rfl 97 rfl (fun rv h1 q28 => ?_)
        obtain ⟨v29, rfl, rfl, pv29, qv29, rv29⟩ := q28
        replace rv29 : v29.toInt = tC m15 (m15 86 3).toInt ∧ (v29.toInt = -1 ∨ (m15 86 3).toInt < (m15 86 2).toInt) := rv29
        show PV _ _ _ _ _ _ _ 97 [.ref 86, .int 5, pv_U] [.int v29] _
        have k97 := rv29.1
        have k97b := rv29.2
        rw [kt93] at k97
        refine pv_istore_n (M := mX7_readPiece) 2 (lo2 := [.ref 86, .int 5, .int v29]) dX7_readPiece_97 98 rfl rfl (by decide) rfl rfl ?_
        refine pv_iload_n (M := mX7_readPiece) 2 dX7_readPiece_98 99 rfl rfl rfl ?_
        refine pv_bipush (M := mX7_readPiece) (v := 60) dX7_readPiece_99 101 rfl (by decide) ?_
        refine pv_icmp_eq (M := mX7_readPiece) (tgt := 122) dX7_readPiece_101 104 rfl (by decide) (fun c33 => ?_) (fun c33 => ?_)
        · have c33 := iv_eq (X := v29.toInt) (Y := 60) c33 rfl (by decide)
          have kC : isC (tC m (m15 86 3).toInt) = true := by rw [← k97]; exact isC_y (by omega)
          refine pv_aload_n (M := mX7_readPiece) 0 dX7_readPiece_122 123 rfl rfl rfl ?_
          refine pv_dup (M := mX7_readPiece) dX7_readPiece_123 124 rfl rfl ?_
          refine iv_get (M := mX7_readPiece) (l1 := 0) (l2 := 160) dX7_readPiece_124 FX7 3 wd283 (by decide) (tl86 hT) rfl I17 rfl 127 rfl (fun v35 ev35 pv35 qv35 => ?_)
          have wv35 : v35.toInt = (m15 86 3).toInt := congrArg Int32.toInt ev35
          refine pv_iconst (M := mX7_readPiece) (v := 1) dX7_readPiece_127 128 rfl (by decide) ?_
          refine iv_iadd (M := mX7_readPiece) (X := v35.toInt) (Y := 1) dX7_readPiece_128 129 rfl rfl (by decide) (by omega) (by omega) (fun v36 ev36 => ?_)
          refine iv_put (M := mX7_readPiece) (l1 := 0) (l2 := 160) dX7_readPiece_129 FX7 3 wd283 (by decide) rfl (tl86 hT) rfl rfl rfl I17 rfl (by omega) (by omega) 132 rfl (fun m37 e40 I38 => ?_)
          have K39 := K18.set e40 (by first | rfl | decide)
          have w41 : (m37 86 3).toInt = v36.toInt := by rw [e40, up2_eq]
          have w42 : (m37 86 2).toInt = (m15 86 2).toInt := by rw [e40, up2_ne (by omega)]
          have w43 : (m37 86 4).toInt = (m15 86 4).toInt := by rw [e40, up2_ne (by omega)]
          have w44 : (m37 lb 7).toInt = (m15 lb 7).toInt := by rw [e40, up2_ne (by omega)]
          have w45 : (m37 lb 2).toInt = (m15 lb 2).toInt := by rw [e40, up2_ne (by omega)]
          have kt132 : tC m37 = tC m := tC_fz zR2 K39
          have kp132 : (m37 86 3).toInt = (m15 86 3).toInt + 1 := by omega
          have ks132 : SAML lb m15 m37 := SAML.set zR2 e40
          have kl132 : (m37 lb 2).toInt = (m15 lb 2).toInt := congrArg Int32.toInt ks132.1
          refine pv_aload_n (M := mX7_readPiece) 0 dX7_readPiece_132 133 rfl rfl rfl ?_
          refine pv_iload_n (M := mX7_readPiece) 1 dX7_readPiece_133 134 rfl rfl rfl ?_
          have z50 : (5 : Int32).toInt = 5 := by decide
          refine pv_callv (M := mX7_readPiece) (as := [.int 5]) (st := []) (kc2 := 0) (ks2 := 0) dX7_readPiece_134 wd539 YX7_readSum ⟨wd541, wd4⟩ (mk_get (tl86 hT)) rfl rfl (s_X7_readSum_v5z g hT I38 R (by first | omega | assumption | exact (iv_rng _).2 | exact (iv_rng _).1 | decide) (TBC_eq hp1 kt132) (by first | omega | assumption | exact (iv_rng _).2 | exact (iv_rng _).1 | decide)) rfl rfl (Nat.le_of_ble_eq_true rfl) (by decide) rfl rfl 137 rfl (fun rv h1 q51 => ?_)
          obtain ⟨m52, n53, v56, rfl, rfl, I54, K55, pv56, qv56, rv56⟩ := q51
          replace rv56 : (m37 86 3).toInt ≤ (m52 86 3).toInt ∧ (m52 86 3).toInt ≤ (m52 86 2).toInt ∧ (m52 86 2).toInt = (m37 86 2).toInt ∧ (RSX (SU (tC m37) 1 (m37 86 3).toInt) v56.toInt (m52 86 3).toInt (m52 86 4).toInt) ∧ (m52 lb 7).toInt = (m37 lb 7).toInt ∧ IFZ v56.toInt (CDS lb m37 m52 5 (SUD (tC m37) 1 (m37 86 3).toInt) ((m52 86 3).toInt - (m37 86 3).toInt)) := by have q_ := rv56; (try rw [z50] at q_); exact q_
          have K55c := K55
          have K55 := K39.trans (K55.sub (fun _ _ q => q))
          show PV _ _ _ _ _ _ _ 137 [.ref 86, .int 5, .int v29] [.int v56] _
          have k137 := rv56.2.2.2.1
          rw [kt132, kp132] at k137
          have k137z := rv56.2.2.2.2.2
          rw [kt132, kp132] at k137z
          refine pv_if_ne (M := mX7_readPiece) (tgt := 142) dX7_readPiece_137 140 rfl (by decide) (fun c61 => ?_) (fun c61 => ?_)
          · have c61 := iv_ne (X := v56.toInt) (Y := 0) c61 rfl (by decide)
            have k142z := IFZ.get k137z (by omega)
            have k142b := CDS_b k142z
            refine pv_aload_n (M := mX7_readPiece) 0 dX7_readPiece_142 143 rfl rfl rfl ?_
            refine mv_get (M := mX7_readPiece) (v := .ref lb) dX7_readPiece_143 FX7 1 wd281 (by decide) (tl86 hT) rfl R.2.2.2.1 146 rfl ?_
            refine pv_iload_n (M := mX7_readPiece) 2 dX7_readPiece_146 147 rfl rfl rfl ?_
            refine pv_iconst (M := mX7_readPiece) (v := 0) dX7_readPiece_147 148 rfl (by decide) ?_
            have z64 : (0 : Int32).toInt = 0 := by decide
            refine pv_callv (M := mX7_readPiece) (as := [.int v29, .int 0]) (st := []) (kc2 := 0) (ks2 := 0) dX7_readPiece_148 wd567 YX6_emit ⟨wd568, wd569⟩ (mk_get R.2.2.2.2.2.2.1) rfl rfl (s_X6_emit_vz g hT I54 lb R.2.2.2.2.2 v29 0 (by decide) (by decide)) rfl rfl (Nat.le_of_ble_eq_true rfl) (by decide) rfl rfl 151 rfl (fun rv h1 q65 => ?_)
            obtain ⟨m66, n67, rfl, rfl, I68, K69, rm66⟩ := q65
            replace rm66 : (m66 lb 7).toInt = (m52 lb 7).toInt ∧ ((m52 lb 2).toInt < 160 → EMT lb m52 m66 v29.toInt (0 : Int32)) := by have q_ := rm66; (try rw [z64] at q_); exact q_
            have K69c := K69
            have w70 : (m66 86 3).toInt = (m52 86 3).toInt := congrArg Int32.toInt (K69 86 3 (wY_out (by omega) (by omega) (by omega)))
            have w71 : (m66 86 2).toInt = (m52 86 2).toInt := congrArg Int32.toInt (K69 86 2 (wY_out (by omega) (by omega) (by omega)))
            have w72 : (m66 86 4).toInt = (m52 86 4).toInt := congrArg Int32.toInt (K69 86 4 (wY_out (by omega) (by omega) (by omega)))
            have K69 := K55.trans (K69.sub (by first | exact wZ_wY | exact wZ_86))
            show PV _ _ _ _ _ _ _ 151 [.ref 86, .int 5, .int v29] [] _
            have k151 := rm66.2 (by omega)
            refine pv_iconst (M := mX7_readPiece) (v := 1) dX7_readPiece_151 152 rfl (by decide) ?_
            have z74 : (1 : Int32).toInt = 1 := by decide
            exact pv_iret (M := mX7_readPiece) dX7_readPiece_152 rfl rfl ⟨_, _, _, rfl, rfl, I68, K69, by decide, by decide, ⟨by omega, by omega, by omega, Or.inl ⟨by decide, by rw [PI_cm kn33 kn40, CM_ok k93 kC, RSX_ok k137 (by omega), show (m52 86 3).toInt = (m66 86 3).toInt by omega]⟩, by omega, IFZ.is (by rw [PID_cm kn33 kn40, CMD_ok k93, ← k97]; exact CDS.wk (CDS.op k93z (CDS.pre ks132 k142z (Int.le_refl _)) k151 (isO_c (by rw [k97]; exact kC)) (Int.le_refl _) (by omega)) (by omega) (by omega))⟩⟩
          · have c61 := iv_eq (X := v56.toInt) (Y := 0) c61 rfl (by decide)
            refine pv_iconst (M := mX7_readPiece) (v := 0) dX7_readPiece_140 141 rfl (by decide) ?_
            have z75 : (0 : Int32).toInt = 0 := by decide
            exact pv_iret (M := mX7_readPiece) dX7_readPiece_141 rfl rfl ⟨_, _, _, rfl, rfl, I54, K55, by decide, by decide, ⟨by omega, by omega, by omega, Or.inr ⟨by decide, by rw [PI_cm kn33 kn40, CM_ok k93 kC]; exact RSX_fl k137 (by omega)⟩, by omega, IFZ.no (by first | decide | omega)⟩⟩
        · have c33 := iv_ne (X := v29.toInt) (Y := 60) c33 rfl (by decide)
          refine pv_iload_n (M := mX7_readPiece) 2 dX7_readPiece_104 105 rfl rfl rfl ?_
          refine pv_bipush (M := mX7_readPiece) (v := 62) dX7_readPiece_105 107 rfl (by decide) ?_
          refine pv_icmp_eq (M := mX7_readPiece) (tgt := 122) dX7_readPiece_107 110 rfl (by decide) (fun c76 => ?_) (fun c76 => ?_)
          · have c76 := iv_eq (X := v29.toInt) (Y := 62) c76 rfl (by decide)
            have kC : isC (tC m (m15 86 3).toInt) = true := by rw [← k97]; exact isC_y (by omega)
            refine pv_aload_n (M := mX7_readPiece) 0 dX7_readPiece_122 123 rfl rfl rfl ?_
            refine pv_dup (M := mX7_readPiece) dX7_readPiece_123 124 rfl rfl ?_
            refine iv_get (M := mX7_readPiece) (l1 := 0) (l2 := 160) dX7_readPiece_124 FX7 3 wd283 (by decide) (tl86 hT) rfl I17 rfl 127 rfl (fun v78 ev78 pv78 qv78 => ?_)
            have wv78 : v78.toInt = (m15 86 3).toInt := congrArg Int32.toInt ev78
            refine pv_iconst (M := mX7_readPiece) (v := 1) dX7_readPiece_127 128 rfl (by decide) ?_
            refine iv_iadd (M := mX7_readPiece) (X := v78.toInt) (Y := 1) dX7_readPiece_128 129 rfl rfl (by decide) (by omega) (by omega) (fun v79 ev79 => ?_)
            refine iv_put (M := mX7_readPiece) (l1 := 0) (l2 := 160) dX7_readPiece_129 FX7 3 wd283 (by decide) rfl (tl86 hT) rfl rfl rfl I17 rfl (by omega) (by omega) 132 rfl (fun m80 e83 I81 => ?_)
            have K82 := K18.set e83 (by first | rfl | decide)
            have w84 : (m80 86 3).toInt = v79.toInt := by rw [e83, up2_eq]
            have w85 : (m80 86 2).toInt = (m15 86 2).toInt := by rw [e83, up2_ne (by omega)]
            have w86 : (m80 86 4).toInt = (m15 86 4).toInt := by rw [e83, up2_ne (by omega)]
            have w87 : (m80 lb 7).toInt = (m15 lb 7).toInt := by rw [e83, up2_ne (by omega)]
            have w88 : (m80 lb 2).toInt = (m15 lb 2).toInt := by rw [e83, up2_ne (by omega)]
            have kt132 : tC m80 = tC m := tC_fz zR2 K82
            have kp132 : (m80 86 3).toInt = (m15 86 3).toInt + 1 := by omega
            have ks132 : SAML lb m15 m80 := SAML.set zR2 e83
            have kl132 : (m80 lb 2).toInt = (m15 lb 2).toInt := congrArg Int32.toInt ks132.1
            refine pv_aload_n (M := mX7_readPiece) 0 dX7_readPiece_132 133 rfl rfl rfl ?_
            refine pv_iload_n (M := mX7_readPiece) 1 dX7_readPiece_133 134 rfl rfl rfl ?_
            have z93 : (5 : Int32).toInt = 5 := by decide
            refine pv_callv (M := mX7_readPiece) (as := [.int 5]) (st := []) (kc2 := 0) (ks2 := 0) dX7_readPiece_134 wd539 YX7_readSum ⟨wd541, wd4⟩ (mk_get (tl86 hT)) rfl rfl (s_X7_readSum_v5z g hT I81 R (by first | omega | assumption | exact (iv_rng _).2 | exact (iv_rng _).1 | decide) (TBC_eq hp1 kt132) (by first | omega | assumption | exact (iv_rng _).2 | exact (iv_rng _).1 | decide)) rfl rfl (Nat.le_of_ble_eq_true rfl) (by decide) rfl rfl 137 rfl (fun rv h1 q94 => ?_)
            obtain ⟨m95, n96, v99, rfl, rfl, I97, K98, pv99, qv99, rv99⟩ := q94
            replace rv99 : (m80 86 3).toInt ≤ (m95 86 3).toInt ∧ (m95 86 3).toInt ≤ (m95 86 2).toInt ∧ (m95 86 2).toInt = (m80 86 2).toInt ∧ (RSX (SU (tC m80) 1 (m80 86 3).toInt) v99.toInt (m95 86 3).toInt (m95 86 4).toInt) ∧ (m95 lb 7).toInt = (m80 lb 7).toInt ∧ IFZ v99.toInt (CDS lb m80 m95 5 (SUD (tC m80) 1 (m80 86 3).toInt) ((m95 86 3).toInt - (m80 86 3).toInt)) := by have q_ := rv99; (try rw [z93] at q_); exact q_
            have K98c := K98
            have K98 := K82.trans (K98.sub (fun _ _ q => q))
            show PV _ _ _ _ _ _ _ 137 [.ref 86, .int 5, .int v29] [.int v99] _
            have k137 := rv99.2.2.2.1
            rw [kt132, kp132] at k137
            have k137z := rv99.2.2.2.2.2
            rw [kt132, kp132] at k137z
            refine pv_if_ne (M := mX7_readPiece) (tgt := 142) dX7_readPiece_137 140 rfl (by decide) (fun c104 => ?_) (fun c104 => ?_)
            · have c104 := iv_ne (X := v99.toInt) (Y := 0) c104 rfl (by decide)
              have k142z := IFZ.get k137z (by omega)
              have k142b := CDS_b k142z
              refine pv_aload_n (M := mX7_readPiece) 0 dX7_readPiece_142 143 rfl rfl rfl ?_
              refine mv_get (M := mX7_readPiece) (v := .ref lb) dX7_readPiece_143 FX7 1 wd281 (by decide) (tl86 hT) rfl R.2.2.2.1 146 rfl ?_
              refine pv_iload_n (M := mX7_readPiece) 2 dX7_readPiece_146 147 rfl rfl rfl ?_
              refine pv_iconst (M := mX7_readPiece) (v := 0) dX7_readPiece_147 148 rfl (by decide) ?_
              have z107 : (0 : Int32).toInt = 0 := by decide
              refine pv_callv (M := mX7_readPiece) (as := [.int v29, .int 0]) (st := []) (kc2 := 0) (ks2 := 0) dX7_readPiece_148 wd567 YX6_emit ⟨wd568, wd569⟩ (mk_get R.2.2.2.2.2.2.1) rfl rfl (s_X6_emit_vz g hT I97 lb R.2.2.2.2.2 v29 0 (by decide) (by decide)) rfl rfl (Nat.le_of_ble_eq_true rfl) (by decide) rfl rfl 151 rfl (fun rv h1 q108 => ?_)
              obtain ⟨m109, n110, rfl, rfl, I111, K112, rm109⟩ := q108
              replace rm109 : (m109 lb 7).toInt = (m95 lb 7).toInt ∧ ((m95 lb 2).toInt < 160 → EMT lb m95 m109 v29.toInt (0 : Int32)) := by have q_ := rm109; (try rw [z107] at q_); exact q_
              have K112c := K112
              have w113 : (m109 86 3).toInt = (m95 86 3).toInt := congrArg Int32.toInt (K112 86 3 (wY_out (by omega) (by omega) (by omega)))
              have w114 : (m109 86 2).toInt = (m95 86 2).toInt := congrArg Int32.toInt (K112 86 2 (wY_out (by omega) (by omega) (by omega)))
              have w115 : (m109 86 4).toInt = (m95 86 4).toInt := congrArg Int32.toInt (K112 86 4 (wY_out (by omega) (by omega) (by omega)))
              have K112 := K98.trans (K112.sub (by first | exact wZ_wY | exact wZ_86))
              show PV _ _ _ _ _ _ _ 151 [.ref 86, .int 5, .int v29] [] _
              have k151 := rm109.2 (by omega)
              refine pv_iconst (M := mX7_readPiece) (v := 1) dX7_readPiece_151 152 rfl (by decide) ?_
              have z117 : (1 : Int32).toInt = 1 := by decide
              exact pv_iret (M := mX7_readPiece) dX7_readPiece_152 rfl rfl ⟨_, _, _, rfl, rfl, I111, K112, by decide, by decide, ⟨by omega, by omega, by omega, Or.inl ⟨by decide, by rw [PI_cm kn33 kn40, CM_ok k93 kC, RSX_ok k137 (by omega), show (m95 86 3).toInt = (m109 86 3).toInt by omega]⟩, by omega, IFZ.is (by rw [PID_cm kn33 kn40, CMD_ok k93, ← k97]; exact CDS.wk (CDS.op k93z (CDS.pre ks132 k142z (Int.le_refl _)) k151 (isO_c (by rw [k97]; exact kC)) (Int.le_refl _) (by omega)) (by omega) (by omega))⟩⟩
            · have c104 := iv_eq (X := v99.toInt) (Y := 0) c104 rfl (by decide)
              refine pv_iconst (M := mX7_readPiece) (v := 0) dX7_readPiece_140 141 rfl (by decide) ?_
              have z118 : (0 : Int32).toInt = 0 := by decide
              exact pv_iret (M := mX7_readPiece) dX7_readPiece_141 rfl rfl ⟨_, _, _, rfl, rfl, I97, K98, by decide, by decide, ⟨by omega, by omega, by omega, Or.inr ⟨by decide, by rw [PI_cm kn33 kn40, CM_ok k93 kC]; exact RSX_fl k137 (by omega)⟩, by omega, IFZ.no (by first | decide | omega)⟩⟩
          · have c76 := iv_ne (X := v29.toInt) (Y := 62) c76 rfl (by decide)
            refine pv_iload_n (M := mX7_readPiece) 2 dX7_readPiece_110 111 rfl rfl rfl ?_
            refine pv_bipush (M := mX7_readPiece) (v := 61) dX7_readPiece_111 113 rfl (by decide) ?_
            refine pv_icmp_eq (M := mX7_readPiece) (tgt := 122) dX7_readPiece_113 116 rfl (by decide) (fun c119 => ?_) (fun c119 => ?_)
            · have c119 := iv_eq (X := v29.toInt) (Y := 61) c119 rfl (by decide)
              have kC : isC (tC m (m15 86 3).toInt) = true := by rw [← k97]; exact isC_y (by omega)
              refine pv_aload_n (M := mX7_readPiece) 0 dX7_readPiece_122 123 rfl rfl rfl ?_
              refine pv_dup (M := mX7_readPiece) dX7_readPiece_123 124 rfl rfl ?_
              refine iv_get (M := mX7_readPiece) (l1 := 0) (l2 := 160) dX7_readPiece_124 FX7 3 wd283 (by decide) (tl86 hT) rfl I17 rfl 127 rfl (fun v121 ev121 pv121 qv121 => ?_)
              have wv121 : v121.toInt = (m15 86 3).toInt := congrArg Int32.toInt ev121
              refine pv_iconst (M := mX7_readPiece) (v := 1) dX7_readPiece_127 128 rfl (by decide) ?_
              refine iv_iadd (M := mX7_readPiece) (X := v121.toInt) (Y := 1) dX7_readPiece_128 129 rfl rfl (by decide) (by omega) (by omega) (fun v122 ev122 => ?_)
              refine iv_put (M := mX7_readPiece) (l1 := 0) (l2 := 160) dX7_readPiece_129 FX7 3 wd283 (by decide) rfl (tl86 hT) rfl rfl rfl I17 rfl (by omega) (by omega) 132 rfl (fun m123 e126 I124 => ?_)
              have K125 := K18.set e126 (by first | rfl | decide)
              have w127 : (m123 86 3).toInt = v122.toInt := by rw [e126, up2_eq]
              have w128 : (m123 86 2).toInt = (m15 86 2).toInt := by rw [e126, up2_ne (by omega)]
              have w129 : (m123 86 4).toInt = (m15 86 4).toInt := by rw [e126, up2_ne (by omega)]
              have w130 : (m123 lb 7).toInt = (m15 lb 7).toInt := by rw [e126, up2_ne (by omega)]
              have w131 : (m123 lb 2).toInt = (m15 lb 2).toInt := by rw [e126, up2_ne (by omega)]
              have kt132 : tC m123 = tC m := tC_fz zR2 K125
              have kp132 : (m123 86 3).toInt = (m15 86 3).toInt + 1 := by omega
              have ks132 : SAML lb m15 m123 := SAML.set zR2 e126
              have kl132 : (m123 lb 2).toInt = (m15 lb 2).toInt := congrArg Int32.toInt ks132.1
              refine pv_aload_n (M := mX7_readPiece) 0 dX7_readPiece_132 133 rfl rfl rfl ?_
              refine pv_iload_n (M := mX7_readPiece) 1 dX7_readPiece_133 134 rfl rfl rfl ?_
              have z136 : (5 : Int32).toInt = 5 := by decide
              refine pv_callv (M := mX7_readPiece) (as := [.int 5]) (st := []) (kc2 := 0) (ks2 := 0) dX7_readPiece_134 wd539 YX7_readSum ⟨wd541, wd4⟩ (mk_get (tl86 hT)) rfl rfl (s_X7_readSum_v5z g hT I124 R (by first | omega | assumption | exact (iv_rng _).2 | exact (iv_rng _).1 | decide) (TBC_eq hp1 kt132) (by first | omega | assumption | exact (iv_rng _).2 | exact (iv_rng _).1 | decide)) rfl rfl (Nat.le_of_ble_eq_true rfl) (by decide) rfl rfl 137 rfl (fun rv h1 q137 => ?_)
              obtain ⟨m138, n139, v142, rfl, rfl, I140, K141, pv142, qv142, rv142⟩ := q137
              replace rv142 : (m123 86 3).toInt ≤ (m138 86 3).toInt ∧ (m138 86 3).toInt ≤ (m138 86 2).toInt ∧ (m138 86 2).toInt = (m123 86 2).toInt ∧ (RSX (SU (tC m123) 1 (m123 86 3).toInt) v142.toInt (m138 86 3).toInt (m138 86 4).toInt) ∧ (m138 lb 7).toInt = (m123 lb 7).toInt ∧ IFZ v142.toInt (CDS lb m123 m138 5 (SUD (tC m123) 1 (m123 86 3).toInt) ((m138 86 3).toInt - (m123 86 3).toInt)) := by have q_ := rv142; (try rw [z136] at q_); exact q_
              have K141c := K141
              have K141 := K125.trans (K141.sub (fun _ _ q => q))
              show PV _ _ _ _ _ _ _ 137 [.ref 86, .int 5, .int v29] [.int v142] _
              have k137 := rv142.2.2.2.1
              rw [kt132, kp132] at k137
              have k137z := rv142.2.2.2.2.2
              rw [kt132, kp132] at k137z
              refine pv_if_ne (M := mX7_readPiece) (tgt := 142) dX7_readPiece_137 140 rfl (by decide) (fun c147 => ?_) (fun c147 => ?_)
              · have c147 := iv_ne (X := v142.toInt) (Y := 0) c147 rfl (by decide)
                have k142z := IFZ.get k137z (by omega)
                have k142b := CDS_b k142z
                refine pv_aload_n (M := mX7_readPiece) 0 dX7_readPiece_142 143 rfl rfl rfl ?_
                refine mv_get (M := mX7_readPiece) (v := .ref lb) dX7_readPiece_143 FX7 1 wd281 (by decide) (tl86 hT) rfl R.2.2.2.1 146 rfl ?_
                refine pv_iload_n (M := mX7_readPiece) 2 dX7_readPiece_146 147 rfl rfl rfl ?_
                refine pv_iconst (M := mX7_readPiece) (v := 0) dX7_readPiece_147 148 rfl (by decide) ?_
                have z150 : (0 : Int32).toInt = 0 := by decide
                refine pv_callv (M := mX7_readPiece) (as := [.int v29, .int 0]) (st := []) (kc2 := 0) (ks2 := 0) dX7_readPiece_148 wd567 YX6_emit ⟨wd568, wd569⟩ (mk_get R.2.2.2.2.2.2.1) rfl rfl (s_X6_emit_vz g hT I140 lb R.2.2.2.2.2 v29 0 (by decide) (by decide)) rfl rfl (Nat.le_of_ble_eq_true rfl) (by decide) rfl rfl 151 rfl (fun rv h1 q151 => ?_)
                obtain ⟨m152, n153, rfl, rfl, I154, K155, rm152⟩ := q151
                replace rm152 : (m152 lb 7).toInt = (m138 lb 7).toInt ∧ ((m138 lb 2).toInt < 160 → EMT lb m138 m152 v29.toInt (0 : Int32)) := by have q_ := rm152; (try rw [z150] at q_); exact q_
                have K155c := K155
                have w156 : (m152 86 3).toInt = (m138 86 3).toInt := congrArg Int32.toInt (K155 86 3 (wY_out (by omega) (by omega) (by omega)))
                have w157 : (m152 86 2).toInt = (m138 86 2).toInt := congrArg Int32.toInt (K155 86 2 (wY_out (by omega) (by omega) (by omega)))
                have w158 : (m152 86 4).toInt = (m138 86 4).toInt := congrArg Int32.toInt (K155 86 4 (wY_out (by omega) (by omega) (by omega)))
                have K155 := K141.trans (K155.sub (by first | exact wZ_wY | exact wZ_86))
                show PV _ _ _ _ _ _ _ 151 [.ref 86, .int 5, .int v29] [] _
                have k151 := rm152.2 (by omega)
                refine pv_iconst (M := mX7_readPiece) (v := 1) dX7_readPiece_151 152 rfl (by decide) ?_
                have z160 : (1 : Int32).toInt = 1 := by decide
                exact pv_iret (M := mX7_readPiece) dX7_readPiece_152 rfl rfl ⟨_, _, _, rfl, rfl, I154, K155, by decide, by decide, ⟨by omega, by omega, by omega, Or.inl ⟨by decide, by rw [PI_cm kn33 kn40, CM_ok k93 kC, RSX_ok k137 (by omega), show (m138 86 3).toInt = (m152 86 3).toInt by omega]⟩, by omega, IFZ.is (by rw [PID_cm kn33 kn40, CMD_ok k93, ← k97]; exact CDS.wk (CDS.op k93z (CDS.pre ks132 k142z (Int.le_refl _)) k151 (isO_c (by rw [k97]; exact kC)) (Int.le_refl _) (by omega)) (by omega) (by omega))⟩⟩
              · have c147 := iv_eq (X := v142.toInt) (Y := 0) c147 rfl (by decide)
                refine pv_iconst (M := mX7_readPiece) (v := 0) dX7_readPiece_140 141 rfl (by decide) ?_
                have z161 : (0 : Int32).toInt = 0 := by decide
                exact pv_iret (M := mX7_readPiece) dX7_readPiece_141 rfl rfl ⟨_, _, _, rfl, rfl, I140, K141, by decide, by decide, ⟨by omega, by omega, by omega, Or.inr ⟨by decide, by rw [PI_cm kn33 kn40, CM_ok k93 kC]; exact RSX_fl k137 (by omega)⟩, by omega, IFZ.no (by first | decide | omega)⟩⟩
            · have c119 := iv_ne (X := v29.toInt) (Y := 61) c119 rfl (by decide)
              refine pv_aload_n (M := mX7_readPiece) 0 dX7_readPiece_116 117 rfl rfl rfl ?_
              refine pv_iconst (M := mX7_readPiece) (v := 1) dX7_readPiece_117 118 rfl (by decide) ?_
              have z162 : (1 : Int32).toInt = 1 := by decide
              refine pv_callv (M := mX7_readPiece) (as := [.int 1]) (st := []) (kc2 := 0) (ks2 := 0) dX7_readPiece_118 wd531 YX7_fail ⟨wd533, wd3⟩ (mk_get (tl86 hT)) rfl rfl (s_X7_fail_vz g hT I17 R 1 (by decide) (by decide) (by first | omega | assumption | exact (iv_rng _).2 | exact (iv_rng _).1 | decide)) rfl rfl (Nat.le_of_ble_eq_true rfl) (by decide) rfl rfl 121 rfl (fun rv h1 q163 => ?_)
              obtain ⟨m164, n165, v168, rfl, rfl, I166, K167, pv168, qv168, rv168⟩ := q163
              replace rv168 : (m15 86 3).toInt ≤ (m164 86 3).toInt ∧ (m164 86 3).toInt ≤ (m164 86 2).toInt ∧ (m164 86 2).toInt = (m15 86 2).toInt ∧ (v168.toInt = 0 ∧ (m164 86 3).toInt = (m15 86 3).toInt ∧ (m164 86 4).toInt = -1000 * (1 : Int) - (m15 86 3).toInt) ∧ (m164 lb 7).toInt = (m15 lb 7).toInt := by have q_ := rv168; (try rw [z162] at q_); exact q_
              have K167c := K167
              have w169 : (m164 86 2).toInt = (m15 86 2).toInt := congrArg Int32.toInt (K167 86 2 rfl)
              have K167 := K18.trans (K167.sub (by first | exact wZ_wY | exact wZ_86))
              show PV _ _ _ _ _ _ _ 121 [.ref 86, .int 5, .int v29] [.int v168] _
              exact pv_iret (M := mX7_readPiece) dX7_readPiece_121 rfl (iv_nz (by omega) (by omega)) ⟨_, _, _, rfl, rfl, I166, K167, by omega, by omega, ⟨by omega, by omega, by omega, Or.inr ⟨by omega, by rw [PI_cm kn33 kn40]; exact CM_no k93 (isC_no (by omega) (by omega) (by omega)) (by omega)⟩, by omega, IFZ.no (by first | decide | omega)⟩⟩
      · have c22 := iv_eq (X := v19.toInt) (Y := 0) c22 rfl (by decide)
        refine pv_iconst (M := mX7_readPiece) (v := 0) dX7_readPiece_91 92 rfl (by decide) ?_
        have z170 : (0 : Int32).toInt = 0 := by decide
        exact pv_iret (M := mX7_readPiece) dX7_readPiece_92 rfl rfl ⟨_, _, _, rfl, rfl, I17, K18, by decide, by decide, ⟨by omega, by omega, by omega, Or.inr ⟨by decide, by rw [PI_cm kn33 kn40]; exact CM_fl (RSX_fl k88 (by omega))⟩, by omega, IFZ.no (by first | decide | omega)⟩⟩
    · have c11 := iv_eq (X := v8.toInt) (Y := 40) c11 rfl (by decide)
      have k40 : tC m (m 86 3).toInt = 40 := by omega
      refine pv_aload_n (M := mX7_readPiece) 0 dX7_readPiece_50 51 rfl rfl rfl ?_
      refine pv_iload_n (M := mX7_readPiece) 1 dX7_readPiece_51 52 rfl rfl rfl ?_
      have z172 : (5 : Int32).toInt = 5 := by decide
      refine pv_callv (M := mX7_readPiece) (as := [.int 5]) (st := []) (kc2 := 0) (ks2 := 0) dX7_readPiece_52 wd551 YX7_open ⟨wd553, wd7⟩ (mk_get (tl86 hT)) rfl rfl (s_X7_open_vz g hT I R 5 (by decide) (by decide) (by first | omega | assumption | exact (iv_rng _).2 | exact (iv_rng _).1 | decide)) rfl rfl (Nat.le_of_ble_eq_true rfl) (by decide) rfl rfl 55 rfl (fun rv h1 q173 => ?_)
      obtain ⟨m174, n175, v178, rfl, rfl, I176, K177, pv178, qv178, rv178⟩ := q173
      replace rv178 : (v178 = 0 ∨ (5 : Int) ≤ 5) ∧ (m 86 3).toInt ≤ (m174 86 3).toInt ∧ (m174 86 3).toInt ≤ (m174 86 2).toInt ∧ (m174 86 2).toInt = (m 86 2).toInt ∧ ((v178.toInt = 1 ∧ (5 : Int) ≤ 5 ∧ (m174 86 3).toInt = (m 86 3).toInt + 1) ∨ (v178.toInt = 0 ∧ 6 ≤ (5 : Int) ∧ (m174 86 4).toInt = -5000 - (m 86 3).toInt ∧ (m174 86 3).toInt = (m 86 3).toInt)) ∧ (m174 lb 7).toInt = (m lb 7).toInt := by have q_ := rv178; (try rw [z172] at q_); exact q_
      have K177c := K177
      have w179 : (m174 86 2).toInt = (m 86 2).toInt := congrArg Int32.toInt (K177 86 2 rfl)
      have K177 := Kp.trans (K177.sub (by first | exact wZ_wY | exact wZ_86))
      show PV _ _ _ _ _ _ _ 55 [.ref 86, .int 5, pv_U] [.int v178] _
      refine pv_if_eq (M := mX7_readPiece) (tgt := 81) dX7_readPiece_55 58 rfl (by decide) (fun c180 => ?_) (fun c180 => ?_)
      · have c180 := iv_eq (X := v178.toInt) (Y := 0) c180 rfl (by decide)
        refine pv_iconst (M := mX7_readPiece) (v := 0) dX7_readPiece_81 82 rfl (by decide) ?_
        have z181 : (0 : Int32).toInt = 0 := by decide
        exact pv_iret (M := mX7_readPiece) dX7_readPiece_82 rfl rfl ⟨_, _, _, rfl, rfl, I176, K177, by decide, by decide, ⟨by omega, by omega, by omega, (by first | exact Or.inr ⟨by decide, PX_deep (Or.inr k40) (by omega)⟩ | exact Or.inr ⟨by decide, PX_cn k40 k68 (fun z => by omega) (by omega)⟩ | exact Or.inl ⟨by decide, PX_co k40 k68 (by omega) (by omega)⟩ | exact Or.inr ⟨by decide, PX_con k40 (RSX_fl k65 (by omega))⟩ | (exfalso; omega)), by omega, (by first | exact IFZ.is (by rw [PID_opn k40]; exact CDS.wk (CDS.post (CDS.pre ks58 (IFZ.get k65z (by omega)) (Int.le_refl _)) ks74) (by omega) (by omega)) | exact IFZ.no (by first | decide | omega))⟩⟩
      · have pc180 := rv178.1.resolve_left c180
        have c180 := iv_ne (X := v178.toInt) (Y := 0) c180 rfl (by decide)
        have kt58 : tC m174 = tC m := tC_fz zR2 K177
        have kp58 : (m174 86 3).toInt = (m 86 3).toInt + 1 := by omega
        have ks58 : SAML lb m m174 := SAML.fz zR2 K177c
        have kl58 : (m174 lb 2).toInt = (m lb 2).toInt := congrArg Int32.toInt ks58.1
        refine pv_aload_n (M := mX7_readPiece) 0 dX7_readPiece_58 59 rfl rfl rfl ?_
        refine pv_iload_n (M := mX7_readPiece) 1 dX7_readPiece_59 60 rfl rfl rfl ?_
        refine pv_iconst (M := mX7_readPiece) (v := 1) dX7_readPiece_60 61 rfl (by decide) ?_
        refine pv_iadd (M := mX7_readPiece) (v := 6) dX7_readPiece_61 62 rfl (by decide) ?_
        have z187 : (6 : Int32).toInt = 6 := by decide
        refine pv_callv (M := mX7_readPiece) (as := [.int 6]) (st := []) (kc2 := 0) (ks2 := 0) dX7_readPiece_62 wd662 YX7_readCondition ⟨wd664, wd12⟩ (mk_get (tl86 hT)) rfl rfl (s_X7_readCondition_v6z g hT I176 R (by first | omega | assumption | exact (iv_rng _).2 | exact (iv_rng _).1 | decide) (TBC_eq hp1 kt58) (by first | omega | assumption | exact (iv_rng _).2 | exact (iv_rng _).1 | decide)) rfl rfl (Nat.le_of_ble_eq_true rfl) (by decide) rfl rfl 65 rfl (fun rv h1 q188 => ?_)
        obtain ⟨m189, n190, v193, rfl, rfl, I191, K192, pv193, qv193, rv193⟩ := q188
        replace rv193 : (m174 86 3).toInt ≤ (m189 86 3).toInt ∧ (m189 86 3).toInt ≤ (m189 86 2).toInt ∧ (m189 86 2).toInt = (m174 86 2).toInt ∧ (RSX (CN (tC m174) 0 (m174 86 3).toInt) v193.toInt (m189 86 3).toInt (m189 86 4).toInt) ∧ (m189 lb 7).toInt = (m174 lb 7).toInt ∧ IFZ v193.toInt (CDS lb m174 m189 4 (CND_ (tC m174) 0 (m174 86 3).toInt) ((m189 86 3).toInt - (m174 86 3).toInt)) := by have q_ := rv193; (try rw [z187] at q_); exact q_
        have K192c := K192
        have K192 := K177.trans (K192.sub (fun _ _ q => q))
        show PV _ _ _ _ _ _ _ 65 [.ref 86, .int 5, pv_U] [.int v193] _
        have k65 := rv193.2.2.2.1
        rw [kt58, kp58] at k65
        have k65z := rv193.2.2.2.2.2
        rw [kt58, kp58] at k65z
        refine pv_if_eq (M := mX7_readPiece) (tgt := 81) dX7_readPiece_65 68 rfl (by decide) (fun c198 => ?_) (fun c198 => ?_)
        · have c198 := iv_eq (X := v193.toInt) (Y := 0) c198 rfl (by decide)
          refine pv_iconst (M := mX7_readPiece) (v := 0) dX7_readPiece_81 82 rfl (by decide) ?_
          have z199 : (0 : Int32).toInt = 0 := by decide
          exact pv_iret (M := mX7_readPiece) dX7_readPiece_82 rfl rfl ⟨_, _, _, rfl, rfl, I191, K192, by decide, by decide, ⟨by omega, by omega, by omega, (by first | exact Or.inr ⟨by decide, PX_deep (Or.inr k40) (by omega)⟩ | exact Or.inr ⟨by decide, PX_cn k40 k68 (fun z => by omega) (by omega)⟩ | exact Or.inl ⟨by decide, PX_co k40 k68 (by omega) (by omega)⟩ | exact Or.inr ⟨by decide, PX_con k40 (RSX_fl k65 (by omega))⟩ | (exfalso; omega)), by omega, (by first | exact IFZ.is (by rw [PID_opn k40]; exact CDS.wk (CDS.post (CDS.pre ks58 (IFZ.get k65z (by omega)) (Int.le_refl _)) ks74) (by omega) (by omega)) | exact IFZ.no (by first | decide | omega))⟩⟩
        · have c198 := iv_ne (X := v193.toInt) (Y := 0) c198 rfl (by decide)
          have k68 := RSX_ok k65 (by omega)
          have kt68 : tC m189 = tC m := tC_fz zR2 K192
          refine pv_aload_n (M := mX7_readPiece) 0 dX7_readPiece_68 69 rfl rfl rfl ?_
          refine pv_bipush (M := mX7_readPiece) (v := 41) dX7_readPiece_69 71 rfl (by decide) ?_
          have z202 : (41 : Int32).toInt = 41 := by decide
          refine pv_callv (M := mX7_readPiece) (as := [.int 41]) (st := []) (kc2 := 0) (ks2 := 0) dX7_readPiece_71 wd555 YX7_pass ⟨wd557, wd8⟩ (mk_get (tl86 hT)) rfl rfl (s_X7_pass_vz g hT I191 R 41 (by decide) (by decide) (by first | omega | assumption | exact (iv_rng _).2 | exact (iv_rng _).1 | decide)) rfl rfl (Nat.le_of_ble_eq_true rfl) (by decide) rfl rfl 74 rfl (fun rv h1 q203 => ?_)
          obtain ⟨m204, n205, v208, rfl, rfl, I206, K207, pv208, qv208, rv208⟩ := q203
          replace rv208 : (m189 86 3).toInt ≤ (m204 86 3).toInt ∧ (m204 86 3).toInt ≤ (m204 86 2).toInt ∧ (m204 86 2).toInt = (m189 86 2).toInt ∧ ((v208.toInt = 1 ∧ tC m189 (m189 86 3).toInt = (41 : Int) ∧ (m204 86 3).toInt = (m189 86 3).toInt + 1) ∨ (v208.toInt = 0 ∧ tC m189 (m189 86 3).toInt ≠ (41 : Int) ∧ (m204 86 4).toInt = -1000 - (m189 86 3).toInt ∧ (m204 86 3).toInt = (m189 86 3).toInt)) ∧ (m204 lb 7).toInt = (m189 lb 7).toInt := by have q_ := rv208; (try rw [z202] at q_); exact q_
          have K207c := K207
          have w209 : (m204 86 2).toInt = (m189 86 2).toInt := congrArg Int32.toInt (K207 86 2 rfl)
          have K207 := K192.trans (K207.sub (by first | exact wZ_wY | exact wZ_86))
          show PV _ _ _ _ _ _ _ 74 [.ref 86, .int 5, pv_U] [.int v208] _
          have k74 := rv208.2.2.2.1
          rw [kt68] at k74
          have ks74 : SAML lb m189 m204 := SAML.fz zR2 K207c
          refine pv_if_eq (M := mX7_readPiece) (tgt := 81) dX7_readPiece_74 77 rfl (by decide) (fun c213 => ?_) (fun c213 => ?_)
          · have c213 := iv_eq (X := v208.toInt) (Y := 0) c213 rfl (by decide)
            refine pv_iconst (M := mX7_readPiece) (v := 0) dX7_readPiece_81 82 rfl (by decide) ?_
            have z214 : (0 : Int32).toInt = 0 := by decide
            exact pv_iret (M := mX7_readPiece) dX7_readPiece_82 rfl rfl ⟨_, _, _, rfl, rfl, I206, K207, by decide, by decide, ⟨by omega, by omega, by omega, (by first | exact Or.inr ⟨by decide, PX_deep (Or.inr k40) (by omega)⟩ | exact Or.inr ⟨by decide, PX_cn k40 k68 (fun z => by omega) (by omega)⟩ | exact Or.inl ⟨by decide, PX_co k40 k68 (by omega) (by omega)⟩ | exact Or.inr ⟨by decide, PX_con k40 (RSX_fl k65 (by omega))⟩ | (exfalso; omega)), by omega, (by first | exact IFZ.is (by rw [PID_opn k40]; exact CDS.wk (CDS.post (CDS.pre ks58 (IFZ.get k65z (by omega)) (Int.le_refl _)) ks74) (by omega) (by omega)) | exact IFZ.no (by first | decide | omega))⟩⟩
          · have c213 := iv_ne (X := v208.toInt) (Y := 0) c213 rfl (by decide)
            refine pv_iconst (M := mX7_readPiece) (v := 1) dX7_readPiece_77 78 rfl (by decide) ?_
            refine pv_goto (M := mX7_readPiece) (tgt := 82) dX7_readPiece_78 (by decide) ?_
            have z215 : (1 : Int32).toInt = 1 := by decide
            exact pv_iret (M := mX7_readPiece) dX7_readPiece_82 rfl rfl ⟨_, _, _, rfl, rfl, I206, K207, by decide, by decide, ⟨by omega, by omega, by omega, (by first | exact Or.inr ⟨by decide, PX_deep (Or.inr k40) (by omega)⟩ | exact Or.inr ⟨by decide, PX_cn k40 k68 (fun z => by omega) (by omega)⟩ | exact Or.inl ⟨by decide, PX_co k40 k68 (by omega) (by omega)⟩ | exact Or.inr ⟨by decide, PX_con k40 (RSX_fl k65 (by omega))⟩ | (exfalso; omega)), by omega, (by first | exact IFZ.is (by rw [PID_opn k40]; exact CDS.wk (CDS.post (CDS.pre ks58 (IFZ.get k65z (by omega)) (Int.le_refl _)) ks74) (by omega) (by omega)) | exact IFZ.no (by first | decide | omega))⟩⟩
  · have c5 := iv_eq (X := v2.toInt) (Y := 33) c5 rfl (by decide)
    have k33 : tC m (m 86 3).toInt = 33 := by omega
    refine pv_aload_n (M := mX7_readPiece) 0 dX7_readPiece_9 10 rfl rfl rfl ?_
    refine pv_iload_n (M := mX7_readPiece) 1 dX7_readPiece_10 11 rfl rfl rfl ?_
    have z217 : (5 : Int32).toInt = 5 := by decide
    refine pv_callv (M := mX7_readPiece) (as := [.int 5]) (st := []) (kc2 := 0) (ks2 := 0) dX7_readPiece_11 wd551 YX7_open ⟨wd553, wd7⟩ (mk_get (tl86 hT)) rfl rfl (s_X7_open_vz g hT I R 5 (by decide) (by decide) (by first | omega | assumption | exact (iv_rng _).2 | exact (iv_rng _).1 | decide)) rfl rfl (Nat.le_of_ble_eq_true rfl) (by decide) rfl rfl 14 rfl (fun rv h1 q218 => ?_)
    obtain ⟨m219, n220, v223, rfl, rfl, I221, K222, pv223, qv223, rv223⟩ := q218
    replace rv223 : (v223 = 0 ∨ (5 : Int) ≤ 5) ∧ (m 86 3).toInt ≤ (m219 86 3).toInt ∧ (m219 86 3).toInt ≤ (m219 86 2).toInt ∧ (m219 86 2).toInt = (m 86 2).toInt ∧ ((v223.toInt = 1 ∧ (5 : Int) ≤ 5 ∧ (m219 86 3).toInt = (m 86 3).toInt + 1) ∨ (v223.toInt = 0 ∧ 6 ≤ (5 : Int) ∧ (m219 86 4).toInt = -5000 - (m 86 3).toInt ∧ (m219 86 3).toInt = (m 86 3).toInt)) ∧ (m219 lb 7).toInt = (m lb 7).toInt := by have q_ := rv223; (try rw [z217] at q_); exact q_
    have K222c := K222
    have w224 : (m219 86 2).toInt = (m 86 2).toInt := congrArg Int32.toInt (K222 86 2 rfl)
    have K222 := Kp.trans (K222.sub (by first | exact wZ_wY | exact wZ_86))
    show PV _ _ _ _ _ _ _ 14 [.ref 86, .int 5, pv_U] [.int v223] _
    refine pv_if_eq (M := mX7_readPiece) (tgt := 27) dX7_readPiece_14 17 rfl (by decide) (fun c225 => ?_) (fun c225 => ?_)
    · have c225 := iv_eq (X := v223.toInt) (Y := 0) c225 rfl (by decide)
      refine pv_iconst (M := mX7_readPiece) (v := 0) dX7_readPiece_27 28 rfl (by decide) ?_
      have z226 : (0 : Int32).toInt = 0 := by decide
      exact pv_iret (M := mX7_readPiece) dX7_readPiece_28 rfl rfl ⟨_, _, _, rfl, rfl, I221, K222, by decide, by decide, ⟨by omega, by omega, by omega, (by first | exact Or.inr ⟨by decide, PX_deep (Or.inl k33) (by omega)⟩ | exact Or.inr ⟨by decide, by rw [PI_not k33]; exact RSX_fl k24 (by omega)⟩ | (exfalso; omega)), by omega, IFZ.no (by first | decide | omega)⟩⟩
    · have pc225 := rv223.1.resolve_left c225
      have c225 := iv_ne (X := v223.toInt) (Y := 0) c225 rfl (by decide)
      have kt17 : tC m219 = tC m := tC_fz zR2 K222
      have kp17 : (m219 86 3).toInt = (m 86 3).toInt + 1 := by omega
      have ks17 : SAML lb m m219 := SAML.fz zR2 K222c
      have kl17 : (m219 lb 2).toInt = (m lb 2).toInt := congrArg Int32.toInt ks17.1
      refine pv_aload_n (M := mX7_readPiece) 0 dX7_readPiece_17 18 rfl rfl rfl ?_
      refine pv_iload_n (M := mX7_readPiece) 1 dX7_readPiece_18 19 rfl rfl rfl ?_
      refine pv_iconst (M := mX7_readPiece) (v := 1) dX7_readPiece_19 20 rfl (by decide) ?_
      refine pv_iadd (M := mX7_readPiece) (v := 6) dX7_readPiece_20 21 rfl (by decide) ?_
      have z232 : (6 : Int32).toInt = 6 := by decide
      refine pv_callv (M := mX7_readPiece) (as := [.int 6]) (st := []) (kc2 := 0) (ks2 := 0) dX7_readPiece_21 wd674 YX7_readPiece ⟨wd676, wd14⟩ (mk_get (tl86 hT)) rfl rfl (s_X7_readPiece_v6z g hT I221 R (by first | omega | assumption | exact (iv_rng _).2 | exact (iv_rng _).1 | decide) (TBC_eq hp1 kt17) (by first | omega | assumption | exact (iv_rng _).2 | exact (iv_rng _).1 | decide)) rfl rfl (Nat.le_of_ble_eq_true rfl) (by decide) rfl rfl 24 rfl (fun rv h1 q233 => ?_)
      obtain ⟨m234, n235, v238, rfl, rfl, I236, K237, pv238, qv238, rv238⟩ := q233
      replace rv238 : (m219 86 3).toInt ≤ (m234 86 3).toInt ∧ (m234 86 3).toInt ≤ (m234 86 2).toInt ∧ (m234 86 2).toInt = (m219 86 2).toInt ∧ (RSX (PI (tC m219) 0 (m219 86 3).toInt) v238.toInt (m234 86 3).toInt (m234 86 4).toInt) ∧ (m234 lb 7).toInt = (m219 lb 7).toInt ∧ IFZ v238.toInt (CDS lb m219 m234 4 (PID (tC m219) 0 (m219 86 3).toInt) ((m234 86 3).toInt - (m219 86 3).toInt)) := by have q_ := rv238; (try rw [z232] at q_); exact q_
      have K237c := K237
      have K237 := K222.trans (K237.sub (fun _ _ q => q))
      show PV _ _ _ _ _ _ _ 24 [.ref 86, .int 5, pv_U] [.int v238] _
      have k24 := rv238.2.2.2.1
      rw [kt17, kp17] at k24
      have k24z := rv238.2.2.2.2.2
      rw [kt17, kp17] at k24z
      refine pv_if_ne (M := mX7_readPiece) (tgt := 29) dX7_readPiece_24 27 rfl (by decide) (fun c243 => ?_) (fun c243 => ?_)
      · have c243 := iv_ne (X := v238.toInt) (Y := 0) c243 rfl (by decide)
        have k29z := IFZ.get k24z (by omega)
        have k29b := CDS_b k29z
        refine pv_aload_n (M := mX7_readPiece) 0 dX7_readPiece_29 30 rfl rfl rfl ?_
        refine mv_get (M := mX7_readPiece) (v := .ref lb) dX7_readPiece_30 FX7 1 wd281 (by decide) (tl86 hT) rfl R.2.2.2.1 33 rfl ?_
        refine pv_bipush (M := mX7_readPiece) (v := 33) dX7_readPiece_33 35 rfl (by decide) ?_
        refine pv_iconst (M := mX7_readPiece) (v := 0) dX7_readPiece_35 36 rfl (by decide) ?_
        have z246 : (33 : Int32).toInt = 33 := by decide
        have z247 : (0 : Int32).toInt = 0 := by decide
        refine pv_callv (M := mX7_readPiece) (as := [.int 33, .int 0]) (st := []) (kc2 := 0) (ks2 := 0) dX7_readPiece_36 wd567 YX6_emit ⟨wd568, wd569⟩ (mk_get R.2.2.2.2.2.2.1) rfl rfl (s_X6_emit_vz g hT I236 lb R.2.2.2.2.2 33 0 (by decide) (by decide)) rfl rfl (Nat.le_of_ble_eq_true rfl) (by decide) rfl rfl 39 rfl (fun rv h1 q248 => ?_)
        obtain ⟨m249, n250, rfl, rfl, I251, K252, rm249⟩ := q248
        replace rm249 : (m249 lb 7).toInt = (m234 lb 7).toInt ∧ ((m234 lb 2).toInt < 160 → EMT lb m234 m249 (33 : Int) (0 : Int32)) := by have q_ := rm249; (try rw [z246] at q_); (try rw [z247] at q_); exact q_
        have K252c := K252
        have w253 : (m249 86 3).toInt = (m234 86 3).toInt := congrArg Int32.toInt (K252 86 3 (wY_out (by omega) (by omega) (by omega)))
        have w254 : (m249 86 2).toInt = (m234 86 2).toInt := congrArg Int32.toInt (K252 86 2 (wY_out (by omega) (by omega) (by omega)))
        have w255 : (m249 86 4).toInt = (m234 86 4).toInt := congrArg Int32.toInt (K252 86 4 (wY_out (by omega) (by omega) (by omega)))
        have K252 := K237.trans (K252.sub (by first | exact wZ_wY | exact wZ_86))
        show PV _ _ _ _ _ _ _ 39 [.ref 86, .int 5, pv_U] [] _
        have k39 := rm249.2 (by omega)
        refine pv_iconst (M := mX7_readPiece) (v := 1) dX7_readPiece_39 40 rfl (by decide) ?_
        have z257 : (1 : Int32).toInt = 1 := by decide
        exact pv_iret (M := mX7_readPiece) dX7_readPiece_40 rfl rfl ⟨_, _, _, rfl, rfl, I251, K252, by decide, by decide, ⟨by omega, by omega, by omega, Or.inl ⟨by decide, by rw [PI_not k33, RSX_ok k24 (by omega), show (m234 86 3).toInt = (m249 86 3).toInt by omega]⟩, by omega, IFZ.is (by rw [PID_not k33]; exact CDS.wk (CDS.not (CDS.pre ks17 k29z (Int.le_refl _)) k39 (Int.le_refl _) (by omega)) (by omega) (by omega))⟩⟩
      · have c243 := iv_eq (X := v238.toInt) (Y := 0) c243 rfl (by decide)
        refine pv_iconst (M := mX7_readPiece) (v := 0) dX7_readPiece_27 28 rfl (by decide) ?_
        have z258 : (0 : Int32).toInt = 0 := by decide
        exact pv_iret (M := mX7_readPiece) dX7_readPiece_28 rfl rfl ⟨_, _, _, rfl, rfl, I236, K237, by decide, by decide, ⟨by omega, by omega, by omega, (by first | exact Or.inr ⟨by decide, PX_deep (Or.inl k33) (by omega)⟩ | exact Or.inr ⟨by decide, by rw [PI_not k33]; exact RSX_fl k24 (by omega)⟩ | (exfalso; omega)), by omega, IFZ.no (by first | decide | omega)⟩⟩

set_option maxHeartbeats 2000000 in
set_option maxRecDepth 20000 in
theorem s_X7_readPart_v5z (g : pv_G) {T : List mv_T} {m : Nat → Nat → Int32} {n : Nat → Nat → Int64} {r : Nat → Value} {la lb : Nat} (hT : TX T) (I : IV BB m) (R : RX T r la lb) (hp0 : (m 86 3).toInt ≤ (m 86 2).toInt) (hp1 : TBC m) (hp2 : (m lb 2).toInt ≤ (m 86 3).toInt) : PM g mX7_readPart yX7_readPart (sqI T BB (wZ lb) r m 0 1 (fun m' v => (m 86 3).toInt ≤ (m' 86 3).toInt ∧ (m' 86 3).toInt ≤ (m' 86 2).toInt ∧ (m' 86 2).toInt = (m 86 2).toInt ∧ ((v.toInt = 0 ∨ (m 86 3).toInt + 1 ≤ (m' 86 3).toInt) ∧ TRX (CN (tC m) 1 (m 86 3).toInt) (LB (tC m) 1) (fun a => tC m a ≠ 38) v.toInt (m' 86 3).toInt (m' 86 4).toInt) ∧ (m' lb 7).toInt = (m lb 7).toInt ∧ IFZ v.toInt (PTZ (tC m) 1 lb m m' (m 86 3).toInt (m' 86 3).toInt))) 12 0 0 [.ref 86, .int 5] (mk T m n r) := by
  have Kp : fr (wZ lb) m m := fr.rf
  have R0 := R
  have zR := R.2.2.2.2.1.1
  have zR2 := R.2.2.2.2.2.1
  have z104 : 0 ≤ (m 86 3).toInt ∧ (m 86 3).toInt ≤ 160 := I 86 3
  have z105 : 0 ≤ (m 86 2).toInt ∧ (m 86 2).toInt ≤ 160 := I 86 2
  refine PM.of 2 (lo := [.ref 86, .int 5, pv_U, pv_U]) rfl (by decide) rfl rfl (Nat.le_of_ble_eq_true rfl) ?_
  have kTX := TXT_C I
  refine pv_aload_n (M := mX7_readPart) 0 dX7_readPart_0 1 rfl rfl rfl ?_
  refine mv_get (M := mX7_readPart) (v := .ref lb) dX7_readPart_1 FX7 1 wd281 (by decide) (tl86 hT) rfl R.2.2.2.1 4 rfl ?_
  refine pv_callv (M := mX7_readPart) (as := []) (st := []) (kc2 := 0) (ks2 := 0) dX7_readPart_4 wd666 YX6_steps ⟨wd667, wd668⟩ (mk_get R.2.2.2.2.2.2.1) rfl rfl (s_X6_steps_vz g hT I lb R.2.2.2.2.2) rfl rfl (Nat.le_of_ble_eq_true rfl) (by decide) rfl rfl 7 rfl (fun rv h1 q2 => ?_)
  obtain ⟨v3, rfl, rfl, pv3, qv3, rv3⟩ := q2
  replace rv3 : v3 = m lb 2 := rv3
  show PV _ _ _ _ _ _ _ 7 [.ref 86, .int 5, pv_U, pv_U] [.int v3] _
  have k7 : v3.toInt = (m lb 2).toInt := congrArg Int32.toInt rv3
  refine pv_istore_n (M := mX7_readPart) 2 (lo2 := [.ref 86, .int 5, .int v3, pv_U]) dX7_readPart_7 8 rfl rfl (by decide) rfl rfl ?_
  refine pv_iconst (M := mX7_readPart) (v := 0) dX7_readPart_8 9 rfl (by decide) ?_
  refine pv_istore_n (M := mX7_readPart) 3 (lo2 := [.ref 86, .int 5, .int v3, .int 0]) dX7_readPart_9 10 rfl rfl (by decide) rfl rfl ?_
  have lp11 : ∀ (fuel10 : Nat) (y5 : Int32) (m6 : Nat → Nat → Int32) (n7 : Nat → Nat → Int64), (0 ≤ y5.toInt) → (y5.toInt ≤ 160) → ((m6 86 3).toInt ≤ (m6 86 2).toInt) → ((m6 86 2).toInt = (m 86 2).toInt) → ((m6 lb 7).toInt = (m lb 7).toInt) → ((m 86 3).toInt + 2 * y5.toInt ≤ (m6 86 3).toInt) → (CN (tC m) 1 (m 86 3).toInt = CN (tC m) 1 (m6 86 3).toInt) → (PQZ (tC m) 1 lb m m6 (m 86 3).toInt (m6 86 3).toInt) → IV BB m6 → fr (wZ lb) m m6 → ((160 - y5.toInt) : Int).toNat < fuel10 → PV none g mX7_readPart (sqI T BB (wZ lb) r m 0 1 (fun m' v => (m 86 3).toInt ≤ (m' 86 3).toInt ∧ (m' 86 3).toInt ≤ (m' 86 2).toInt ∧ (m' 86 2).toInt = (m 86 2).toInt ∧ ((v.toInt = 0 ∨ (m 86 3).toInt + 1 ≤ (m' 86 3).toInt) ∧ TRX (CN (tC m) 1 (m 86 3).toInt) (LB (tC m) 1) (fun a => tC m a ≠ 38) v.toInt (m' 86 3).toInt (m' 86 4).toInt) ∧ (m' lb 7).toInt = (m lb 7).toInt ∧ IFZ v.toInt (PTZ (tC m) 1 lb m m' (m 86 3).toInt (m' 86 3).toInt))) 12 0 0 10 [.ref 86, .int 5, .int v3, .int y5] [] (mk T m6 n7 r) := by
    intro fuel10
    induction fuel10 with
    | zero => intro y5 m6 n7 b13 b14 b15 b16 b17 b18 b19 b20 I8 K9 z21; omega
    | succ fuel10 ih12 =>
      intro y5 m6 n7 b13 b14 b15 b16 b17 b18 b19 b20 I8 K9 z21
      have z22 : 0 ≤ (m6 86 3).toInt ∧ (m6 86 3).toInt ≤ 160 := I8 86 3
      have z23 : 0 ≤ (m6 86 2).toInt ∧ (m6 86 2).toInt ≤ 160 := I8 86 2
      have kgc := (show CN (tC m) 1 (m 86 3).toInt = CN (tC m) 1 (m6 86 3).toInt by assumption)
      have kt10 : tC m6 = tC m := tC_fz zR2 K9
      have kgz := (show PQZ (tC m) 1 lb m m6 (m 86 3).toInt (m6 86 3).toInt by assumption)
      have kgl := PQZ_b kgz
      refine pv_iload_n (M := mX7_readPart) 3 dX7_readPart_10 11 rfl rfl rfl ?_
      refine pv_sipush (M := mX7_readPart) (v := 160) dX7_readPart_11 14 rfl (by decide) ?_
      refine pv_icmp_ge (M := mX7_readPart) (tgt := 65) dX7_readPart_14 17 rfl (by decide) (fun c28 => ?_) (fun c28 => ?_)
      · have c28 := iv_le (X := 160) (Y := y5.toInt) c28 (by decide) rfl
        refine pv_aload_n (M := mX7_readPart) 0 dX7_readPart_65 66 rfl rfl rfl ?_
        refine mv_get (M := mX7_readPart) (v := .ref lb) dX7_readPart_66 FX7 1 wd281 (by decide) (tl86 hT) rfl R.2.2.2.1 69 rfl ?_
        refine pv_bipush (M := mX7_readPart) (v := 38) dX7_readPart_69 71 rfl (by decide) ?_
        refine pv_iload_n (M := mX7_readPart) 2 dX7_readPart_71 72 rfl rfl rfl ?_
        have z29 : (38 : Int32).toInt = 38 := by decide
        refine pv_callv (M := mX7_readPart) (as := [.int 38, .int v3]) (st := []) (kc2 := 0) (ks2 := 0) dX7_readPart_72 wd678 YX6_aimLeaps ⟨wd679, wd680⟩ (mk_get R.2.2.2.2.2.2.1) rfl rfl (s_X6_aimLeaps_vz g hT I8 lb R.2.2.2.2.2 38 v3 (by omega) (by omega)) rfl rfl (Nat.le_of_ble_eq_true rfl) (by decide) rfl rfl 75 rfl (fun rv h1 q30 => ?_)
        obtain ⟨m31, n32, rfl, rfl, I33, K34, rm31⟩ := q30
        replace rm31 : (m31 lb 7).toInt = (m6 lb 7).toInt ∧ AIMD lb m6 m31 (38 : Int) v3.toInt := by have q_ := rm31; (try rw [z29] at q_); exact q_
        have K34c := K34
        have w35 : (m31 86 3).toInt = (m6 86 3).toInt := congrArg Int32.toInt (K34 86 3 (wY_out (by omega) (by omega) (by omega)))
        have w36 : (m31 86 2).toInt = (m6 86 2).toInt := congrArg Int32.toInt (K34 86 2 (wY_out (by omega) (by omega) (by omega)))
        have w37 : (m31 86 4).toInt = (m6 86 4).toInt := congrArg Int32.toInt (K34 86 4 (wY_out (by omega) (by omega) (by omega)))
        have K34 := K9.trans (K34.sub (by first | exact wZ_wY | exact wZ_86))
        show PV _ _ _ _ _ _ _ 75 [.ref 86, .int 5, .int v3, .int y5] [] _
        have k75 := rm31.2
        refine pv_iconst (M := mX7_readPart) (v := 1) dX7_readPart_75 76 rfl (by decide) ?_
        have z39 : (1 : Int32).toInt = 1 := by decide
        exact pv_iret (M := mX7_readPart) dX7_readPart_76 rfl rfl ⟨_, _, _, rfl, rfl, I33, K34, by decide, by decide, ⟨by omega, by omega, by omega, (by first | exact ⟨Or.inr (by omega), Or.inl ⟨by decide, by rw [kgc, k27]; congr 1; omega, by show tC m (m31 86 3).toInt ≠ 38; rw [show (m31 86 3).toInt = (m6 86 3).toInt by omega, ← k31]; omega⟩⟩ | (exfalso; omega)), by omega, (by first | exact IFZ.is (by rw [show (m31 86 3).toInt = (m6 86 3).toInt by omega]; exact PRZ_e kzz k75 (by omega)) | exact IFZ.no (by omega))⟩⟩
      · have c28 := iv_nle (X := 160) (Y := y5.toInt) c28 (by decide) rfl
        refine pv_aload_n (M := mX7_readPart) 0 dX7_readPart_17 18 rfl rfl rfl ?_
        refine pv_iload_n (M := mX7_readPart) 1 dX7_readPart_18 19 rfl rfl rfl ?_
        have z40 : (5 : Int32).toInt = 5 := by decide
        refine pv_callv (M := mX7_readPart) (as := [.int 5]) (st := []) (kc2 := 0) (ks2 := 0) dX7_readPart_19 wd674 YX7_readPiece ⟨wd676, wd14⟩ (mk_get (tl86 hT)) rfl rfl (s_X7_readPiece_v5z g hT I8 R (by first | omega | assumption | exact (iv_rng _).2 | exact (iv_rng _).1 | decide) (TBC_eq hp1 kt10) (by first | omega | assumption | exact (iv_rng _).2 | exact (iv_rng _).1 | decide)) rfl rfl (Nat.le_of_ble_eq_true rfl) (by decide) rfl rfl 22 rfl (fun rv h1 q41 => ?_)
        obtain ⟨m42, n43, v46, rfl, rfl, I44, K45, pv46, qv46, rv46⟩ := q41
        replace rv46 : (m6 86 3).toInt ≤ (m42 86 3).toInt ∧ (m42 86 3).toInt ≤ (m42 86 2).toInt ∧ (m42 86 2).toInt = (m6 86 2).toInt ∧ (RSX (PI (tC m6) 1 (m6 86 3).toInt) v46.toInt (m42 86 3).toInt (m42 86 4).toInt) ∧ (m42 lb 7).toInt = (m6 lb 7).toInt ∧ IFZ v46.toInt (CDS lb m6 m42 6 (PID (tC m6) 1 (m6 86 3).toInt) ((m42 86 3).toInt - (m6 86 3).toInt)) := by have q_ := rv46; (try rw [z40] at q_); exact q_
        have K45c := K45
        have K45 := K9.trans (K45.sub (fun _ _ q => q))
        show PV _ _ _ _ _ _ _ 22 [.ref 86, .int 5, .int v3, .int y5] [.int v46] _
        have k22 := rv46.2.2.2.1
        rw [kt10] at k22
        have k22z := rv46.2.2.2.2.2
        rw [kt10] at k22z
        refine pv_if_ne (M := mX7_readPart) (tgt := 27) dX7_readPart_22 25 rfl (by decide) (fun c51 => ?_) (fun c51 => ?_)
        · have c51 := iv_ne (X := v46.toInt) (Y := 0) c51 rfl (by decide)
          have k27o := RSX_ok k22 (by omega)
          have k27 := CN_ok k27o
          have k27p := PI_le 1 (m6 86 3).toInt (by rw [k27o])
          rw [k27o] at k27p
          have kt27 : tC m42 = tC m := tC_fz zR2 K45
          have kzz : PRZ (tC m) 1 lb m m42 (m 86 3).toInt (m42 86 3).toInt := PQZ_p kgz k27o (IFZ.get k22z (by omega))
          have kzb := PRZ_b kzz
          refine pv_aload_n (M := mX7_readPart) 0 dX7_readPart_27 28 rfl rfl rfl ?_
          refine pv_callv (M := mX7_readPart) (as := []) (st := []) (kc2 := 0) (ks2 := 0) dX7_readPart_28 wd527 YX7_peek ⟨wd529, wd2⟩ (mk_get (tl86 hT)) rfl rfl (s_X7_peek_vx g hT I44 R) rfl rfl (Nat.le_of_ble_eq_true rfl) (by decide) rfl rfl 31 rfl (fun rv h1 q59 => ?_)
          obtain ⟨v60, rfl, rfl, pv60, qv60, rv60⟩ := q59
          replace rv60 : v60.toInt = tC m42 (m42 86 3).toInt ∧ (v60.toInt = -1 ∨ (m42 86 3).toInt < (m42 86 2).toInt) := rv60
          show PV _ _ _ _ _ _ _ 31 [.ref 86, .int 5, .int v3, .int y5] [.int v60] _
          have k31 := rv60.1
          have k31b := rv60.2
          rw [kt27] at k31
          refine pv_bipush (M := mX7_readPart) (v := 38) dX7_readPart_31 33 rfl (by decide) ?_
          refine pv_icmp_eq (M := mX7_readPart) (tgt := 39) dX7_readPart_33 36 rfl (by decide) (fun c64 => ?_) (fun c64 => ?_)
          · have c64 := iv_eq (X := v60.toInt) (Y := 38) c64 rfl (by decide)
            have kB : isB (tC m (m42 86 3).toInt) = true := isB_y (by omega)
            refine pv_aload_n (M := mX7_readPart) 0 dX7_readPart_39 40 rfl rfl rfl ?_
            refine mv_get (M := mX7_readPart) (v := .ref lb) dX7_readPart_40 FX7 1 wd281 (by decide) (tl86 hT) rfl R.2.2.2.1 43 rfl ?_
            refine pv_bipush (M := mX7_readPart) (v := 38) dX7_readPart_43 45 rfl (by decide) ?_
            refine pv_iconst (M := mX7_readPart) (v := (-1)) dX7_readPart_45 46 rfl (by decide) ?_
            have z66 : (38 : Int32).toInt = 38 := by decide
            have z67 : ((-1) : Int32).toInt = (-1) := by decide
            refine pv_callv (M := mX7_readPart) (as := [.int 38, .int (-1)]) (st := []) (kc2 := 0) (ks2 := 0) dX7_readPart_46 wd567 YX6_emit ⟨wd568, wd569⟩ (mk_get R.2.2.2.2.2.2.1) rfl rfl (s_X6_emit_vz g hT I44 lb R.2.2.2.2.2 38 (-1) (by decide) (by decide)) rfl rfl (Nat.le_of_ble_eq_true rfl) (by decide) rfl rfl 49 rfl (fun rv h1 q68 => ?_)
            obtain ⟨m69, n70, rfl, rfl, I71, K72, rm69⟩ := q68
            replace rm69 : (m69 lb 7).toInt = (m42 lb 7).toInt ∧ ((m42 lb 2).toInt < 160 → EMT lb m42 m69 (38 : Int) ((-1) : Int32)) := by have q_ := rm69; (try rw [z66] at q_); (try rw [z67] at q_); exact q_
            have K72c := K72
            have w73 : (m69 86 3).toInt = (m42 86 3).toInt := congrArg Int32.toInt (K72 86 3 (wY_out (by omega) (by omega) (by omega)))
            have w74 : (m69 86 2).toInt = (m42 86 2).toInt := congrArg Int32.toInt (K72 86 2 (wY_out (by omega) (by omega) (by omega)))
            have w75 : (m69 86 4).toInt = (m42 86 4).toInt := congrArg Int32.toInt (K72 86 4 (wY_out (by omega) (by omega) (by omega)))
            have K72 := K45.trans (K72.sub (by first | exact wZ_wY | exact wZ_86))
            show PV _ _ _ _ _ _ _ 49 [.ref 86, .int 5, .int v3, .int y5] [] _
            have k49 := rm69.2 (by omega)
            refine pv_aload_n (M := mX7_readPart) 0 dX7_readPart_49 50 rfl rfl rfl ?_
            refine pv_dup (M := mX7_readPart) dX7_readPart_50 51 rfl rfl ?_
            refine iv_get (M := mX7_readPart) (l1 := 0) (l2 := 160) dX7_readPart_51 FX7 3 wd283 (by decide) (tl86 hT) rfl I71 rfl 54 rfl (fun v77 ev77 pv77 qv77 => ?_)
            have wv77 : v77.toInt = (m69 86 3).toInt := congrArg Int32.toInt ev77
            refine pv_iconst (M := mX7_readPart) (v := 1) dX7_readPart_54 55 rfl (by decide) ?_
            refine iv_iadd (M := mX7_readPart) (X := v77.toInt) (Y := 1) dX7_readPart_55 56 rfl rfl (by decide) (by omega) (by omega) (fun v78 ev78 => ?_)
            refine iv_put (M := mX7_readPart) (l1 := 0) (l2 := 160) dX7_readPart_56 FX7 3 wd283 (by decide) rfl (tl86 hT) rfl rfl rfl I71 rfl (by omega) (by omega) 59 rfl (fun m79 e82 I80 => ?_)
            have K81 := K72.set e82 (by first | rfl | decide)
            have w83 : (m79 86 3).toInt = v78.toInt := by rw [e82, up2_eq]
            have w84 : (m79 86 2).toInt = (m69 86 2).toInt := by rw [e82, up2_ne (by omega)]
            have w85 : (m79 86 4).toInt = (m69 86 4).toInt := by rw [e82, up2_ne (by omega)]
            have w86 : (m79 lb 7).toInt = (m69 lb 7).toInt := by rw [e82, up2_ne (by omega)]
            have w87 : (m79 lb 2).toInt = (m69 lb 2).toInt := by rw [e82, up2_ne (by omega)]
            refine iv_inc (M := mX7_readPart) (C := 1) dX7_readPart_59 62 rfl rfl (by decide) rfl rfl (by decide) (by omega) (by omega) (fun v88 ev88 => ?_)
            show PV _ _ _ _ _ _ _ 62 [.ref 86, .int 5, .int v3, .int v88] [] _
            refine pv_goto (M := mX7_readPart) (tgt := 10) dX7_readPart_62 (by decide) ?_
            have kbc : CN (tC m) 1 (m 86 3).toInt = CN (tC m) 1 (m79 86 3).toInt := by rw [kgc, k27, LB_cn kTX (by omega) kB]; congr 1; omega
            have kbz : PQZ (tC m) 1 lb m m79 (m 86 3).toInt (m79 86 3).toInt := PRZ_l kzz kTX (by omega) (show tC m (m42 86 3).toInt = 38 by omega) k49 (by decide) (SAML.set zR2 e82) (by omega)
            exact ih12 v88 m79 n70 (by first | omega | assumption | exact (iv_rng _).2 | exact (iv_rng _).1 | decide) (by first | omega | assumption | exact (iv_rng _).2 | exact (iv_rng _).1 | decide) (by first | omega | assumption | (show (m79 86 3).toInt ≤ (m79 86 2).toInt; omega) | decide) (by first | omega | assumption | (show (m79 86 2).toInt = (m 86 2).toInt; omega) | decide) (by first | omega | assumption | (show (m79 lb 7).toInt = (m lb 7).toInt; omega) | decide) (by first | omega | assumption | (show (m 86 3).toInt + 2 * v88.toInt ≤ (m79 86 3).toInt; omega) | decide) kbc kbz I80 K81 (by omega)
          · have c64 := iv_ne (X := v60.toInt) (Y := 38) c64 rfl (by decide)
            refine pv_goto (M := mX7_readPart) (tgt := 65) dX7_readPart_36 (by decide) ?_
            refine pv_aload_n (M := mX7_readPart) 0 dX7_readPart_65 66 rfl rfl rfl ?_
            refine mv_get (M := mX7_readPart) (v := .ref lb) dX7_readPart_66 FX7 1 wd281 (by decide) (tl86 hT) rfl R.2.2.2.1 69 rfl ?_
            refine pv_bipush (M := mX7_readPart) (v := 38) dX7_readPart_69 71 rfl (by decide) ?_
            refine pv_iload_n (M := mX7_readPart) 2 dX7_readPart_71 72 rfl rfl rfl ?_
            have z91 : (38 : Int32).toInt = 38 := by decide
            refine pv_callv (M := mX7_readPart) (as := [.int 38, .int v3]) (st := []) (kc2 := 0) (ks2 := 0) dX7_readPart_72 wd678 YX6_aimLeaps ⟨wd679, wd680⟩ (mk_get R.2.2.2.2.2.2.1) rfl rfl (s_X6_aimLeaps_vz g hT I44 lb R.2.2.2.2.2 38 v3 (by omega) (by omega)) rfl rfl (Nat.le_of_ble_eq_true rfl) (by decide) rfl rfl 75 rfl (fun rv h1 q92 => ?_)
            obtain ⟨m93, n94, rfl, rfl, I95, K96, rm93⟩ := q92
            replace rm93 : (m93 lb 7).toInt = (m42 lb 7).toInt ∧ AIMD lb m42 m93 (38 : Int) v3.toInt := by have q_ := rm93; (try rw [z91] at q_); exact q_
            have K96c := K96
            have w97 : (m93 86 3).toInt = (m42 86 3).toInt := congrArg Int32.toInt (K96 86 3 (wY_out (by omega) (by omega) (by omega)))
            have w98 : (m93 86 2).toInt = (m42 86 2).toInt := congrArg Int32.toInt (K96 86 2 (wY_out (by omega) (by omega) (by omega)))
            have w99 : (m93 86 4).toInt = (m42 86 4).toInt := congrArg Int32.toInt (K96 86 4 (wY_out (by omega) (by omega) (by omega)))
            have K96 := K45.trans (K96.sub (by first | exact wZ_wY | exact wZ_86))
            show PV _ _ _ _ _ _ _ 75 [.ref 86, .int 5, .int v3, .int y5] [] _
            have k75 := rm93.2
            refine pv_iconst (M := mX7_readPart) (v := 1) dX7_readPart_75 76 rfl (by decide) ?_
            have z101 : (1 : Int32).toInt = 1 := by decide
            exact pv_iret (M := mX7_readPart) dX7_readPart_76 rfl rfl ⟨_, _, _, rfl, rfl, I95, K96, by decide, by decide, ⟨by omega, by omega, by omega, (by first | exact ⟨Or.inr (by omega), Or.inl ⟨by decide, by rw [kgc, k27]; congr 1; omega, by show tC m (m93 86 3).toInt ≠ 38; rw [show (m93 86 3).toInt = (m42 86 3).toInt by omega, ← k31]; omega⟩⟩ | (exfalso; omega)), by omega, (by first | exact IFZ.is (by rw [show (m93 86 3).toInt = (m42 86 3).toInt by omega]; exact PRZ_e kzz k75 (by omega)) | exact IFZ.no (by omega))⟩⟩
        · have c51 := iv_eq (X := v46.toInt) (Y := 0) c51 rfl (by decide)
          refine pv_iconst (M := mX7_readPart) (v := 0) dX7_readPart_25 26 rfl (by decide) ?_
          have z102 : (0 : Int32).toInt = 0 := by decide
          exact pv_iret (M := mX7_readPart) dX7_readPart_26 rfl rfl ⟨_, _, _, rfl, rfl, I44, K45, by decide, by decide, ⟨by omega, by omega, by omega, ⟨Or.inl (by decide), Or.inr ⟨by decide, by rw [kgc]; exact CN_fl (RSX_fl k22 (by omega))⟩⟩, by omega, IFZ.no (by first | decide | omega)⟩⟩
  have z103 : (0 : Int32).toInt = 0 := by decide
  exact lp11 (((160 - 0) : Int).toNat + 1) 0 m n (by first | omega | assumption | exact (iv_rng _).2 | exact (iv_rng _).1 | decide) (by first | omega | assumption | exact (iv_rng _).2 | exact (iv_rng _).1 | decide) (by first | omega | assumption | (show (m 86 3).toInt ≤ (m 86 2).toInt; omega) | decide) (by first | omega | assumption | (show (m 86 2).toInt = (m 86 2).toInt; omega) | decide) (by first | omega | assumption | (show (m lb 7).toInt = (m lb 7).toInt; omega) | decide) (by first | omega | assumption | (show (m 86 3).toInt + 2 * 0 ≤ (m 86 3).toInt; omega) | decide) rfl (PQZ_0 (by omega)) I Kp (by omega)

set_option maxHeartbeats 2000000 in
set_option maxRecDepth 20000 in
theorem s_X7_readCondition_v5z (g : pv_G) {T : List mv_T} {m : Nat → Nat → Int32} {n : Nat → Nat → Int64} {r : Nat → Value} {la lb : Nat} (hT : TX T) (I : IV BB m) (R : RX T r la lb) (hp0 : (m 86 3).toInt ≤ (m 86 2).toInt) (hp1 : TBC m) (hp2 : (m lb 2).toInt ≤ (m 86 3).toInt) : PM g mX7_readCondition yX7_readCondition (sqI T BB (wZ lb) r m 0 1 (fun m' v => (m 86 3).toInt ≤ (m' 86 3).toInt ∧ (m' 86 3).toInt ≤ (m' 86 2).toInt ∧ (m' 86 2).toInt = (m 86 2).toInt ∧ (RSX (CN (tC m) 1 (m 86 3).toInt) v.toInt (m' 86 3).toInt (m' 86 4).toInt) ∧ (m' lb 7).toInt = (m lb 7).toInt ∧ IFZ v.toInt (CDS lb m m' 6 (CND_ (tC m) 1 (m 86 3).toInt) ((m' 86 3).toInt - (m 86 3).toInt)))) 13 0 0 [.ref 86, .int 5] (mk T m n r) := by
  have Kp : fr (wZ lb) m m := fr.rf
  have R0 := R
  have zR := R.2.2.2.2.1.1
  have zR2 := R.2.2.2.2.2.1
  have z103 : 0 ≤ (m 86 3).toInt ∧ (m 86 3).toInt ≤ 160 := I 86 3
  have z104 : 0 ≤ (m 86 2).toInt ∧ (m 86 2).toInt ≤ 160 := I 86 2
  refine PM.of 2 (lo := [.ref 86, .int 5, pv_U, pv_U]) rfl (by decide) rfl rfl (Nat.le_of_ble_eq_true rfl) ?_
  have kTX := TXT_C I
  refine pv_aload_n (M := mX7_readCondition) 0 dX7_readCondition_0 1 rfl rfl rfl ?_
  refine mv_get (M := mX7_readCondition) (v := .ref lb) dX7_readCondition_1 FX7 1 wd281 (by decide) (tl86 hT) rfl R.2.2.2.1 4 rfl ?_
  refine pv_callv (M := mX7_readCondition) (as := []) (st := []) (kc2 := 0) (ks2 := 0) dX7_readCondition_4 wd666 YX6_steps ⟨wd667, wd668⟩ (mk_get R.2.2.2.2.2.2.1) rfl rfl (s_X6_steps_vz g hT I lb R.2.2.2.2.2) rfl rfl (Nat.le_of_ble_eq_true rfl) (by decide) rfl rfl 7 rfl (fun rv h1 q2 => ?_)
  obtain ⟨v3, rfl, rfl, pv3, qv3, rv3⟩ := q2
  replace rv3 : v3 = m lb 2 := rv3
  show PV _ _ _ _ _ _ _ 7 [.ref 86, .int 5, pv_U, pv_U] [.int v3] _
  have k7 : v3.toInt = (m lb 2).toInt := congrArg Int32.toInt rv3
  refine pv_istore_n (M := mX7_readCondition) 2 (lo2 := [.ref 86, .int 5, .int v3, pv_U]) dX7_readCondition_7 8 rfl rfl (by decide) rfl rfl ?_
  refine pv_iconst (M := mX7_readCondition) (v := 0) dX7_readCondition_8 9 rfl (by decide) ?_
  refine pv_istore_n (M := mX7_readCondition) 3 (lo2 := [.ref 86, .int 5, .int v3, .int 0]) dX7_readCondition_9 10 rfl rfl (by decide) rfl rfl ?_
  have lp11 : ∀ (fuel10 : Nat) (y5 : Int32) (m6 : Nat → Nat → Int32) (n7 : Nat → Nat → Int64), (0 ≤ y5.toInt) → (y5.toInt ≤ 160) → ((m6 86 3).toInt ≤ (m6 86 2).toInt) → ((m6 86 2).toInt = (m 86 2).toInt) → ((m6 lb 7).toInt = (m lb 7).toInt) → ((m 86 3).toInt + 2 * y5.toInt ≤ (m6 86 3).toInt) → (CN (tC m) 1 (m 86 3).toInt = CN (tC m) 1 (m6 86 3).toInt) → (CQZ (tC m) 1 lb m m6 (m 86 3).toInt (m6 86 3).toInt) → IV BB m6 → fr (wZ lb) m m6 → ((160 - y5.toInt) : Int).toNat < fuel10 → PV none g mX7_readCondition (sqI T BB (wZ lb) r m 0 1 (fun m' v => (m 86 3).toInt ≤ (m' 86 3).toInt ∧ (m' 86 3).toInt ≤ (m' 86 2).toInt ∧ (m' 86 2).toInt = (m 86 2).toInt ∧ (RSX (CN (tC m) 1 (m 86 3).toInt) v.toInt (m' 86 3).toInt (m' 86 4).toInt) ∧ (m' lb 7).toInt = (m lb 7).toInt ∧ IFZ v.toInt (CDS lb m m' 6 (CND_ (tC m) 1 (m 86 3).toInt) ((m' 86 3).toInt - (m 86 3).toInt)))) 13 0 0 10 [.ref 86, .int 5, .int v3, .int y5] [] (mk T m6 n7 r) := by
    intro fuel10
    induction fuel10 with
    | zero => intro y5 m6 n7 b13 b14 b15 b16 b17 b18 b19 b20 I8 K9 z21; omega
    | succ fuel10 ih12 =>
      intro y5 m6 n7 b13 b14 b15 b16 b17 b18 b19 b20 I8 K9 z21
      have z22 : 0 ≤ (m6 86 3).toInt ∧ (m6 86 3).toInt ≤ 160 := I8 86 3
      have z23 : 0 ≤ (m6 86 2).toInt ∧ (m6 86 2).toInt ≤ 160 := I8 86 2
      have kgc := (show CN (tC m) 1 (m 86 3).toInt = CN (tC m) 1 (m6 86 3).toInt by assumption)
      have kt10 : tC m6 = tC m := tC_fz zR2 K9
      have kgz := (show CQZ (tC m) 1 lb m m6 (m 86 3).toInt (m6 86 3).toInt by assumption)
      have kgl := CQZ_b kgz
      refine pv_iload_n (M := mX7_readCondition) 3 dX7_readCondition_10 11 rfl rfl rfl ?_
      refine pv_sipush (M := mX7_readCondition) (v := 160) dX7_readCondition_11 14 rfl (by decide) ?_
      refine pv_icmp_ge (M := mX7_readCondition) (tgt := 65) dX7_readCondition_14 17 rfl (by decide) (fun c28 => ?_) (fun c28 => ?_)
      · have c28 := iv_le (X := 160) (Y := y5.toInt) c28 (by decide) rfl
        refine pv_aload_n (M := mX7_readCondition) 0 dX7_readCondition_65 66 rfl rfl rfl ?_
        refine mv_get (M := mX7_readCondition) (v := .ref lb) dX7_readCondition_66 FX7 1 wd281 (by decide) (tl86 hT) rfl R.2.2.2.1 69 rfl ?_
        refine pv_bipush (M := mX7_readCondition) (v := 124) dX7_readCondition_69 71 rfl (by decide) ?_
        refine pv_iload_n (M := mX7_readCondition) 2 dX7_readCondition_71 72 rfl rfl rfl ?_
        have z29 : (124 : Int32).toInt = 124 := by decide
        refine pv_callv (M := mX7_readCondition) (as := [.int 124, .int v3]) (st := []) (kc2 := 0) (ks2 := 0) dX7_readCondition_72 wd678 YX6_aimLeaps ⟨wd679, wd680⟩ (mk_get R.2.2.2.2.2.2.1) rfl rfl (s_X6_aimLeaps_vz g hT I8 lb R.2.2.2.2.2 124 v3 (by omega) (by omega)) rfl rfl (Nat.le_of_ble_eq_true rfl) (by decide) rfl rfl 75 rfl (fun rv h1 q30 => ?_)
        obtain ⟨m31, n32, rfl, rfl, I33, K34, rm31⟩ := q30
        replace rm31 : (m31 lb 7).toInt = (m6 lb 7).toInt ∧ AIMD lb m6 m31 (124 : Int) v3.toInt := by have q_ := rm31; (try rw [z29] at q_); exact q_
        have K34c := K34
        have w35 : (m31 86 3).toInt = (m6 86 3).toInt := congrArg Int32.toInt (K34 86 3 (wY_out (by omega) (by omega) (by omega)))
        have w36 : (m31 86 2).toInt = (m6 86 2).toInt := congrArg Int32.toInt (K34 86 2 (wY_out (by omega) (by omega) (by omega)))
        have w37 : (m31 86 4).toInt = (m6 86 4).toInt := congrArg Int32.toInt (K34 86 4 (wY_out (by omega) (by omega) (by omega)))
        have K34 := K9.trans (K34.sub (by first | exact wZ_wY | exact wZ_86))
        show PV _ _ _ _ _ _ _ 75 [.ref 86, .int 5, .int v3, .int y5] [] _
        have k75 := rm31.2
        refine pv_iconst (M := mX7_readCondition) (v := 1) dX7_readCondition_75 76 rfl (by decide) ?_
        have z39 : (1 : Int32).toInt = 1 := by decide
        exact pv_iret (M := mX7_readCondition) dX7_readCondition_76 rfl rfl ⟨_, _, _, rfl, rfl, I33, K34, by decide, by decide, ⟨by omega, by omega, by omega, (by first | exact Or.inl ⟨by decide, by rw [kgc, k27, LB_no (isB_no k27n (by rw [← k31]; omega))]; congr 1; omega⟩ | (exfalso; omega)), by omega, (by first | exact IFZ.is (by rw [show (m31 86 3).toInt = (m6 86 3).toInt by omega]; exact CRZ_e kzz (isB_no k27n (by rw [← k31]; omega)) k75 (by omega)) | exact IFZ.no (by omega))⟩⟩
      · have c28 := iv_nle (X := 160) (Y := y5.toInt) c28 (by decide) rfl
        refine pv_aload_n (M := mX7_readCondition) 0 dX7_readCondition_17 18 rfl rfl rfl ?_
        refine pv_iload_n (M := mX7_readCondition) 1 dX7_readCondition_18 19 rfl rfl rfl ?_
        have z40 : (5 : Int32).toInt = 5 := by decide
        refine pv_callv (M := mX7_readCondition) (as := [.int 5]) (st := []) (kc2 := 0) (ks2 := 0) dX7_readCondition_19 wd670 YX7_readPart ⟨wd672, wd13⟩ (mk_get (tl86 hT)) rfl rfl (s_X7_readPart_v5z g hT I8 R (by first | omega | assumption | exact (iv_rng _).2 | exact (iv_rng _).1 | decide) (TBC_eq hp1 kt10) (by first | omega | assumption | exact (iv_rng _).2 | exact (iv_rng _).1 | decide)) rfl rfl (Nat.le_of_ble_eq_true rfl) (by decide) rfl rfl 22 rfl (fun rv h1 q41 => ?_)
        obtain ⟨m42, n43, v46, rfl, rfl, I44, K45, pv46, qv46, rv46⟩ := q41
        replace rv46 : (m6 86 3).toInt ≤ (m42 86 3).toInt ∧ (m42 86 3).toInt ≤ (m42 86 2).toInt ∧ (m42 86 2).toInt = (m6 86 2).toInt ∧ ((v46.toInt = 0 ∨ (m6 86 3).toInt + 1 ≤ (m42 86 3).toInt) ∧ TRX (CN (tC m6) 1 (m6 86 3).toInt) (LB (tC m6) 1) (fun a => tC m6 a ≠ 38) v46.toInt (m42 86 3).toInt (m42 86 4).toInt) ∧ (m42 lb 7).toInt = (m6 lb 7).toInt ∧ IFZ v46.toInt (PTZ (tC m6) 1 lb m6 m42 (m6 86 3).toInt (m42 86 3).toInt) := by have q_ := rv46; (try rw [z40] at q_); exact q_
        have K45c := K45
        have K45 := K9.trans (K45.sub (fun _ _ q => q))
        show PV _ _ _ _ _ _ _ 22 [.ref 86, .int 5, .int v3, .int y5] [.int v46] _
        have k22 := rv46.2.2.2.1.2
        have k22p := rv46.2.2.2.1.1
        rw [kt10] at k22
        have k22z := rv46.2.2.2.2.2
        rw [kt10] at k22z
        refine pv_if_ne (M := mX7_readCondition) (tgt := 27) dX7_readCondition_22 25 rfl (by decide) (fun c52 => ?_) (fun c52 => ?_)
        · have c52 := iv_ne (X := v46.toInt) (Y := 0) c52 rfl (by decide)
          have k27 := (TRX_ok k22 (by omega)).1
          have k27n := (TRX_ok k22 (by omega)).2
          have kt27 : tC m42 = tC m := tC_fz zR2 K45
          have kzz : CRZ (tC m) 1 lb m m42 (m 86 3).toInt (m42 86 3).toInt := CQZ_p kgz (IFZ.get k22z (by omega))
          have kzb := CRZ_b kzz
          refine pv_aload_n (M := mX7_readCondition) 0 dX7_readCondition_27 28 rfl rfl rfl ?_
          refine pv_callv (M := mX7_readCondition) (as := []) (st := []) (kc2 := 0) (ks2 := 0) dX7_readCondition_28 wd527 YX7_peek ⟨wd529, wd2⟩ (mk_get (tl86 hT)) rfl rfl (s_X7_peek_vx g hT I44 R) rfl rfl (Nat.le_of_ble_eq_true rfl) (by decide) rfl rfl 31 rfl (fun rv h1 q58 => ?_)
          obtain ⟨v59, rfl, rfl, pv59, qv59, rv59⟩ := q58
          replace rv59 : v59.toInt = tC m42 (m42 86 3).toInt ∧ (v59.toInt = -1 ∨ (m42 86 3).toInt < (m42 86 2).toInt) := rv59
          show PV _ _ _ _ _ _ _ 31 [.ref 86, .int 5, .int v3, .int y5] [.int v59] _
          have k31 := rv59.1
          have k31b := rv59.2
          rw [kt27] at k31
          refine pv_bipush (M := mX7_readCondition) (v := 124) dX7_readCondition_31 33 rfl (by decide) ?_
          refine pv_icmp_eq (M := mX7_readCondition) (tgt := 39) dX7_readCondition_33 36 rfl (by decide) (fun c63 => ?_) (fun c63 => ?_)
          · have c63 := iv_eq (X := v59.toInt) (Y := 124) c63 rfl (by decide)
            have kB : isB (tC m (m42 86 3).toInt) = true := isB_y (by omega)
            refine pv_aload_n (M := mX7_readCondition) 0 dX7_readCondition_39 40 rfl rfl rfl ?_
            refine mv_get (M := mX7_readCondition) (v := .ref lb) dX7_readCondition_40 FX7 1 wd281 (by decide) (tl86 hT) rfl R.2.2.2.1 43 rfl ?_
            refine pv_bipush (M := mX7_readCondition) (v := 124) dX7_readCondition_43 45 rfl (by decide) ?_
            refine pv_iconst (M := mX7_readCondition) (v := (-1)) dX7_readCondition_45 46 rfl (by decide) ?_
            have z65 : (124 : Int32).toInt = 124 := by decide
            have z66 : ((-1) : Int32).toInt = (-1) := by decide
            refine pv_callv (M := mX7_readCondition) (as := [.int 124, .int (-1)]) (st := []) (kc2 := 0) (ks2 := 0) dX7_readCondition_46 wd567 YX6_emit ⟨wd568, wd569⟩ (mk_get R.2.2.2.2.2.2.1) rfl rfl (s_X6_emit_vz g hT I44 lb R.2.2.2.2.2 124 (-1) (by decide) (by decide)) rfl rfl (Nat.le_of_ble_eq_true rfl) (by decide) rfl rfl 49 rfl (fun rv h1 q67 => ?_)
            obtain ⟨m68, n69, rfl, rfl, I70, K71, rm68⟩ := q67
            replace rm68 : (m68 lb 7).toInt = (m42 lb 7).toInt ∧ ((m42 lb 2).toInt < 160 → EMT lb m42 m68 (124 : Int) ((-1) : Int32)) := by have q_ := rm68; (try rw [z65] at q_); (try rw [z66] at q_); exact q_
            have K71c := K71
            have w72 : (m68 86 3).toInt = (m42 86 3).toInt := congrArg Int32.toInt (K71 86 3 (wY_out (by omega) (by omega) (by omega)))
            have w73 : (m68 86 2).toInt = (m42 86 2).toInt := congrArg Int32.toInt (K71 86 2 (wY_out (by omega) (by omega) (by omega)))
            have w74 : (m68 86 4).toInt = (m42 86 4).toInt := congrArg Int32.toInt (K71 86 4 (wY_out (by omega) (by omega) (by omega)))
            have K71 := K45.trans (K71.sub (by first | exact wZ_wY | exact wZ_86))
            show PV _ _ _ _ _ _ _ 49 [.ref 86, .int 5, .int v3, .int y5] [] _
            have k49 := rm68.2 (by omega)
            refine pv_aload_n (M := mX7_readCondition) 0 dX7_readCondition_49 50 rfl rfl rfl ?_
            refine pv_dup (M := mX7_readCondition) dX7_readCondition_50 51 rfl rfl ?_
            refine iv_get (M := mX7_readCondition) (l1 := 0) (l2 := 160) dX7_readCondition_51 FX7 3 wd283 (by decide) (tl86 hT) rfl I70 rfl 54 rfl (fun v76 ev76 pv76 qv76 => ?_)
            have wv76 : v76.toInt = (m68 86 3).toInt := congrArg Int32.toInt ev76
            refine pv_iconst (M := mX7_readCondition) (v := 1) dX7_readCondition_54 55 rfl (by decide) ?_
            refine iv_iadd (M := mX7_readCondition) (X := v76.toInt) (Y := 1) dX7_readCondition_55 56 rfl rfl (by decide) (by omega) (by omega) (fun v77 ev77 => ?_)
            refine iv_put (M := mX7_readCondition) (l1 := 0) (l2 := 160) dX7_readCondition_56 FX7 3 wd283 (by decide) rfl (tl86 hT) rfl rfl rfl I70 rfl (by omega) (by omega) 59 rfl (fun m78 e81 I79 => ?_)
            have K80 := K71.set e81 (by first | rfl | decide)
            have w82 : (m78 86 3).toInt = v77.toInt := by rw [e81, up2_eq]
            have w83 : (m78 86 2).toInt = (m68 86 2).toInt := by rw [e81, up2_ne (by omega)]
            have w84 : (m78 86 4).toInt = (m68 86 4).toInt := by rw [e81, up2_ne (by omega)]
            have w85 : (m78 lb 7).toInt = (m68 lb 7).toInt := by rw [e81, up2_ne (by omega)]
            have w86 : (m78 lb 2).toInt = (m68 lb 2).toInt := by rw [e81, up2_ne (by omega)]
            refine iv_inc (M := mX7_readCondition) (C := 1) dX7_readCondition_59 62 rfl rfl (by decide) rfl rfl (by decide) (by omega) (by omega) (fun v87 ev87 => ?_)
            show PV _ _ _ _ _ _ _ 62 [.ref 86, .int 5, .int v3, .int v87] [] _
            refine pv_goto (M := mX7_readCondition) (tgt := 10) dX7_readCondition_62 (by decide) ?_
            have kbc : CN (tC m) 1 (m 86 3).toInt = CN (tC m) 1 (m78 86 3).toInt := by rw [kgc, k27, LB_cn kTX (by omega) kB]; congr 1; omega
            have kbz : CQZ (tC m) 1 lb m m78 (m 86 3).toInt (m78 86 3).toInt := CRZ_l kzz kTX (by omega) (show tC m (m42 86 3).toInt = 124 by omega) k49 (by decide) (SAML.set zR2 e81) (by omega)
            exact ih12 v87 m78 n69 (by first | omega | assumption | exact (iv_rng _).2 | exact (iv_rng _).1 | decide) (by first | omega | assumption | exact (iv_rng _).2 | exact (iv_rng _).1 | decide) (by first | omega | assumption | (show (m78 86 3).toInt ≤ (m78 86 2).toInt; omega) | decide) (by first | omega | assumption | (show (m78 86 2).toInt = (m 86 2).toInt; omega) | decide) (by first | omega | assumption | (show (m78 lb 7).toInt = (m lb 7).toInt; omega) | decide) (by first | omega | assumption | (show (m 86 3).toInt + 2 * v87.toInt ≤ (m78 86 3).toInt; omega) | decide) kbc kbz I79 K80 (by omega)
          · have c63 := iv_ne (X := v59.toInt) (Y := 124) c63 rfl (by decide)
            refine pv_goto (M := mX7_readCondition) (tgt := 65) dX7_readCondition_36 (by decide) ?_
            refine pv_aload_n (M := mX7_readCondition) 0 dX7_readCondition_65 66 rfl rfl rfl ?_
            refine mv_get (M := mX7_readCondition) (v := .ref lb) dX7_readCondition_66 FX7 1 wd281 (by decide) (tl86 hT) rfl R.2.2.2.1 69 rfl ?_
            refine pv_bipush (M := mX7_readCondition) (v := 124) dX7_readCondition_69 71 rfl (by decide) ?_
            refine pv_iload_n (M := mX7_readCondition) 2 dX7_readCondition_71 72 rfl rfl rfl ?_
            have z90 : (124 : Int32).toInt = 124 := by decide
            refine pv_callv (M := mX7_readCondition) (as := [.int 124, .int v3]) (st := []) (kc2 := 0) (ks2 := 0) dX7_readCondition_72 wd678 YX6_aimLeaps ⟨wd679, wd680⟩ (mk_get R.2.2.2.2.2.2.1) rfl rfl (s_X6_aimLeaps_vz g hT I44 lb R.2.2.2.2.2 124 v3 (by omega) (by omega)) rfl rfl (Nat.le_of_ble_eq_true rfl) (by decide) rfl rfl 75 rfl (fun rv h1 q91 => ?_)
            obtain ⟨m92, n93, rfl, rfl, I94, K95, rm92⟩ := q91
            replace rm92 : (m92 lb 7).toInt = (m42 lb 7).toInt ∧ AIMD lb m42 m92 (124 : Int) v3.toInt := by have q_ := rm92; (try rw [z90] at q_); exact q_
            have K95c := K95
            have w96 : (m92 86 3).toInt = (m42 86 3).toInt := congrArg Int32.toInt (K95 86 3 (wY_out (by omega) (by omega) (by omega)))
            have w97 : (m92 86 2).toInt = (m42 86 2).toInt := congrArg Int32.toInt (K95 86 2 (wY_out (by omega) (by omega) (by omega)))
            have w98 : (m92 86 4).toInt = (m42 86 4).toInt := congrArg Int32.toInt (K95 86 4 (wY_out (by omega) (by omega) (by omega)))
            have K95 := K45.trans (K95.sub (by first | exact wZ_wY | exact wZ_86))
            show PV _ _ _ _ _ _ _ 75 [.ref 86, .int 5, .int v3, .int y5] [] _
            have k75 := rm92.2
            refine pv_iconst (M := mX7_readCondition) (v := 1) dX7_readCondition_75 76 rfl (by decide) ?_
            have z100 : (1 : Int32).toInt = 1 := by decide
            exact pv_iret (M := mX7_readCondition) dX7_readCondition_76 rfl rfl ⟨_, _, _, rfl, rfl, I94, K95, by decide, by decide, ⟨by omega, by omega, by omega, (by first | exact Or.inl ⟨by decide, by rw [kgc, k27, LB_no (isB_no k27n (by rw [← k31]; omega))]; congr 1; omega⟩ | (exfalso; omega)), by omega, (by first | exact IFZ.is (by rw [show (m92 86 3).toInt = (m42 86 3).toInt by omega]; exact CRZ_e kzz (isB_no k27n (by rw [← k31]; omega)) k75 (by omega)) | exact IFZ.no (by omega))⟩⟩
        · have c52 := iv_eq (X := v46.toInt) (Y := 0) c52 rfl (by decide)
          refine pv_iconst (M := mX7_readCondition) (v := 0) dX7_readCondition_25 26 rfl (by decide) ?_
          have z101 : (0 : Int32).toInt = 0 := by decide
          exact pv_iret (M := mX7_readCondition) dX7_readCondition_26 rfl rfl ⟨_, _, _, rfl, rfl, I44, K45, by decide, by decide, ⟨by omega, by omega, by omega, Or.inr ⟨by decide, by rw [kgc]; exact TRX_fl k22 (by omega)⟩, by omega, IFZ.no (by first | decide | omega)⟩⟩
  have z102 : (0 : Int32).toInt = 0 := by decide
  exact lp11 (((160 - 0) : Int).toNat + 1) 0 m n (by first | omega | assumption | exact (iv_rng _).2 | exact (iv_rng _).1 | decide) (by first | omega | assumption | exact (iv_rng _).2 | exact (iv_rng _).1 | decide) (by first | omega | assumption | (show (m 86 3).toInt ≤ (m 86 2).toInt; omega) | decide) (by first | omega | assumption | (show (m 86 2).toInt = (m 86 2).toInt; omega) | decide) (by first | omega | assumption | (show (m lb 7).toInt = (m lb 7).toInt; omega) | decide) (by first | omega | assumption | (show (m 86 3).toInt + 2 * 0 ≤ (m 86 3).toInt; omega) | decide) rfl (CQZ_0 (by omega)) I Kp (by omega)

set_option maxHeartbeats 2000000 in
set_option maxRecDepth 20000 in
theorem s_X7_readPiece_v4z (g : pv_G) {T : List mv_T} {m : Nat → Nat → Int32} {n : Nat → Nat → Int64} {r : Nat → Value} {la lb : Nat} (hT : TX T) (I : IV BB m) (R : RX T r la lb) (hp0 : (m 86 3).toInt ≤ (m 86 2).toInt) (hp1 : TBC m) (hp2 : (m lb 2).toInt ≤ (m 86 3).toInt) : PM g mX7_readPiece yX7_readPiece (sqI T BB (wZ lb) r m 0 1 (fun m' v => (m 86 3).toInt ≤ (m' 86 3).toInt ∧ (m' 86 3).toInt ≤ (m' 86 2).toInt ∧ (m' 86 2).toInt = (m 86 2).toInt ∧ (RSX (PI (tC m) 2 (m 86 3).toInt) v.toInt (m' 86 3).toInt (m' 86 4).toInt) ∧ (m' lb 7).toInt = (m lb 7).toInt ∧ IFZ v.toInt (CDS lb m m' 8 (PID (tC m) 2 (m 86 3).toInt) ((m' 86 3).toInt - (m 86 3).toInt)))) 14 0 0 [.ref 86, .int 4] (mk T m n r) := by
  have Kp : fr (wZ lb) m m := fr.rf
  have R0 := R
  have zR := R.2.2.2.2.1.1
  have zR2 := R.2.2.2.2.2.1
  have z259 : 0 ≤ (m 86 3).toInt ∧ (m 86 3).toInt ≤ 160 := I 86 3
  have z260 : 0 ≤ (m 86 2).toInt ∧ (m 86 2).toInt ≤ 160 := I 86 2
  refine PM.of 1 (lo := [.ref 86, .int 4, pv_U]) rfl (by decide) rfl rfl (Nat.le_of_ble_eq_true rfl) ?_
  refine pv_aload_n (M := mX7_readPiece) 0 dX7_readPiece_0 1 rfl rfl rfl ?_
  refine pv_callv (M := mX7_readPiece) (as := []) (st := []) (kc2 := 0) (ks2 := 0) dX7_readPiece_1 wd527 YX7_peek ⟨wd529, wd2⟩ (mk_get (tl86 hT)) rfl rfl (s_X7_peek_vx g hT I R) rfl rfl (Nat.le_of_ble_eq_true rfl) (by decide) rfl rfl 4 rfl (fun rv h1 q1 => ?_)
  obtain ⟨v2, rfl, rfl, pv2, qv2, rv2⟩ := q1
  replace rv2 : v2.toInt = tC m (m 86 3).toInt ∧ (v2.toInt = -1 ∨ (m 86 3).toInt < (m 86 2).toInt) := rv2
  show PV _ _ _ _ _ _ _ 4 [.ref 86, .int 4, pv_U] [.int v2] _
  have k4 := rv2.1
  have k4b := rv2.2
  refine pv_bipush (M := mX7_readPiece) (v := 33) dX7_readPiece_4 6 rfl (by decide) ?_
  refine pv_icmp_ne (M := mX7_readPiece) (tgt := 41) dX7_readPiece_6 9 rfl (by decide) (fun c5 => ?_) (fun c5 => ?_)
  · have c5 := iv_ne (X := v2.toInt) (Y := 33) c5 rfl (by decide)
    have kn33 : tC m (m 86 3).toInt ≠ 33 := by omega
    refine pv_aload_n (M := mX7_readPiece) 0 dX7_readPiece_41 42 rfl rfl rfl ?_
    refine pv_callv (M := mX7_readPiece) (as := []) (st := []) (kc2 := 0) (ks2 := 0) dX7_readPiece_42 wd527 YX7_peek ⟨wd529, wd2⟩ (mk_get (tl86 hT)) rfl rfl (s_X7_peek_vx g hT I R) rfl rfl (Nat.le_of_ble_eq_true rfl) (by decide) rfl rfl 45 rfl (fun rv h1 q7 => ?_)
    obtain ⟨v8, rfl, rfl, pv8, qv8, rv8⟩ := q7
    replace rv8 : v8.toInt = tC m (m 86 3).toInt ∧ (v8.toInt = -1 ∨ (m 86 3).toInt < (m 86 2).toInt) := rv8
    show PV _ _ _ _ _ _ _ 45 [.ref 86, .int 4, pv_U] [.int v8] _
    have k45 := rv8.1
    have k45b := rv8.2
    refine pv_bipush (M := mX7_readPiece) (v := 40) dX7_readPiece_45 47 rfl (by decide) ?_
    refine pv_icmp_ne (M := mX7_readPiece) (tgt := 83) dX7_readPiece_47 50 rfl (by decide) (fun c11 => ?_) (fun c11 => ?_)
    · have c11 := iv_ne (X := v8.toInt) (Y := 40) c11 rfl (by decide)
      have kn40 : tC m (m 86 3).toInt ≠ 40 := by omega
      refine pv_aload_n (M := mX7_readPiece) 0 dX7_readPiece_83 84 rfl rfl rfl ?_
      refine pv_iload_n (M := mX7_readPiece) 1 dX7_readPiece_84 85 rfl rfl rfl ?_
      have z13 : (4 : Int32).toInt = 4 := by decide
      refine pv_callv (M := mX7_readPiece) (as := [.int 4]) (st := []) (kc2 := 0) (ks2 := 0) dX7_readPiece_85 wd539 YX7_readSum ⟨wd541, wd4⟩ (mk_get (tl86 hT)) rfl rfl (s_X7_readSum_v4z g hT I R (by first | omega | assumption | exact (iv_rng _).2 | exact (iv_rng _).1 | decide) hp1 (by first | omega | assumption | exact (iv_rng _).2 | exact (iv_rng _).1 | decide)) rfl rfl (Nat.le_of_ble_eq_true rfl) (by decide) rfl rfl 88 rfl (fun rv h1 q14 => ?_)
      obtain ⟨m15, n16, v19, rfl, rfl, I17, K18, pv19, qv19, rv19⟩ := q14
      replace rv19 : (m 86 3).toInt ≤ (m15 86 3).toInt ∧ (m15 86 3).toInt ≤ (m15 86 2).toInt ∧ (m15 86 2).toInt = (m 86 2).toInt ∧ (RSX (SU (tC m) 2 (m 86 3).toInt) v19.toInt (m15 86 3).toInt (m15 86 4).toInt) ∧ (m15 lb 7).toInt = (m lb 7).toInt ∧ IFZ v19.toInt (CDS lb m m15 7 (SUD (tC m) 2 (m 86 3).toInt) ((m15 86 3).toInt - (m 86 3).toInt)) := by have q_ := rv19; (try rw [z13] at q_); exact q_
      have K18c := K18
      have K18 := Kp.trans (K18.sub (fun _ _ q => q))
      show PV _ _ _ _ _ _ _ 88 [.ref 86, .int 4, pv_U] [.int v19] _
      have k88 := rv19.2.2.2.1
      have k88z := rv19.2.2.2.2.2
      refine pv_if_ne (M := mX7_readPiece) (tgt := 93) dX7_readPiece_88 91 rfl (by decide) (fun c22 => ?_) (fun c22 => ?_)
      · have c22 := iv_ne (X := v19.toInt) (Y := 0) c22 rfl (by decide)
        have k93 := RSX_ok k88 (by omega)
        have kt93 : tC m15 = tC m := tC_fz zR2 K18
        have kA93 : (m15 86 3).toInt = (m15 86 3).toInt := rfl
        have k93z := IFZ.get k88z (by omega)
        have k93b := CDS_b k93z
        refine pv_aload_n (M := mX7_readPiece) 0 dX7_readPiece_93 94 rfl rfl rfl ?_
        refine pv_callv (M := mX7_readPiece) (as := []) (st := []) (kc2 := 0) (ks2 := 0) dX7_readPiece_94 wd527 YX7_peek ⟨wd529, wd2⟩ (mk_get (tl86 hT)) rfl rfl (s_X7_peek_vx g hT I17 R) rfl rfl (Nat.le_of_ble_eq_true rfl) (by decide) rfl rfl 97 rfl (fun rv h1 q28 => ?_)
        obtain ⟨v29, rfl, rfl, pv29, qv29, rv29⟩ := q28
        replace rv29 : v29.toInt = tC m15 (m15 86 3).toInt ∧ (v29.toInt = -1 ∨ (m15 86 3).toInt < (m15 86 2).toInt) := rv29
        show PV _ _ _ _ _ _ _ 97 [.ref 86, .int 4, pv_U] [.int v29] _
        have k97 := rv29.1
        have k97b := rv29.2
        rw [kt93] at k97
        refine pv_istore_n (M := mX7_readPiece) 2 (lo2 := [.ref 86, .int 4, .int v29]) dX7_readPiece_97 98 rfl rfl (by decide) rfl rfl ?_
        refine pv_iload_n (M := mX7_readPiece) 2 dX7_readPiece_98 99 rfl rfl rfl ?_
        refine pv_bipush (M := mX7_readPiece) (v := 60) dX7_readPiece_99 101 rfl (by decide) ?_
        refine pv_icmp_eq (M := mX7_readPiece) (tgt := 122) dX7_readPiece_101 104 rfl (by decide) (fun c33 => ?_) (fun c33 => ?_)
        · have c33 := iv_eq (X := v29.toInt) (Y := 60) c33 rfl (by decide)
          have kC : isC (tC m (m15 86 3).toInt) = true := by rw [← k97]; exact isC_y (by omega)
          refine pv_aload_n (M := mX7_readPiece) 0 dX7_readPiece_122 123 rfl rfl rfl ?_
          refine pv_dup (M := mX7_readPiece) dX7_readPiece_123 124 rfl rfl ?_
          refine iv_get (M := mX7_readPiece) (l1 := 0) (l2 := 160) dX7_readPiece_124 FX7 3 wd283 (by decide) (tl86 hT) rfl I17 rfl 127 rfl (fun v35 ev35 pv35 qv35 => ?_)
          have wv35 : v35.toInt = (m15 86 3).toInt := congrArg Int32.toInt ev35
          refine pv_iconst (M := mX7_readPiece) (v := 1) dX7_readPiece_127 128 rfl (by decide) ?_
          refine iv_iadd (M := mX7_readPiece) (X := v35.toInt) (Y := 1) dX7_readPiece_128 129 rfl rfl (by decide) (by omega) (by omega) (fun v36 ev36 => ?_)
          refine iv_put (M := mX7_readPiece) (l1 := 0) (l2 := 160) dX7_readPiece_129 FX7 3 wd283 (by decide) rfl (tl86 hT) rfl rfl rfl I17 rfl (by omega) (by omega) 132 rfl (fun m37 e40 I38 => ?_)
          have K39 := K18.set e40 (by first | rfl | decide)
          have w41 : (m37 86 3).toInt = v36.toInt := by rw [e40, up2_eq]
          have w42 : (m37 86 2).toInt = (m15 86 2).toInt := by rw [e40, up2_ne (by omega)]
          have w43 : (m37 86 4).toInt = (m15 86 4).toInt := by rw [e40, up2_ne (by omega)]
          have w44 : (m37 lb 7).toInt = (m15 lb 7).toInt := by rw [e40, up2_ne (by omega)]
          have w45 : (m37 lb 2).toInt = (m15 lb 2).toInt := by rw [e40, up2_ne (by omega)]
          have kt132 : tC m37 = tC m := tC_fz zR2 K39
          have kp132 : (m37 86 3).toInt = (m15 86 3).toInt + 1 := by omega
          have ks132 : SAML lb m15 m37 := SAML.set zR2 e40
          have kl132 : (m37 lb 2).toInt = (m15 lb 2).toInt := congrArg Int32.toInt ks132.1
          refine pv_aload_n (M := mX7_readPiece) 0 dX7_readPiece_132 133 rfl rfl rfl ?_
          refine pv_iload_n (M := mX7_readPiece) 1 dX7_readPiece_133 134 rfl rfl rfl ?_
          have z50 : (4 : Int32).toInt = 4 := by decide
          refine pv_callv (M := mX7_readPiece) (as := [.int 4]) (st := []) (kc2 := 0) (ks2 := 0) dX7_readPiece_134 wd539 YX7_readSum ⟨wd541, wd4⟩ (mk_get (tl86 hT)) rfl rfl (s_X7_readSum_v4z g hT I38 R (by first | omega | assumption | exact (iv_rng _).2 | exact (iv_rng _).1 | decide) (TBC_eq hp1 kt132) (by first | omega | assumption | exact (iv_rng _).2 | exact (iv_rng _).1 | decide)) rfl rfl (Nat.le_of_ble_eq_true rfl) (by decide) rfl rfl 137 rfl (fun rv h1 q51 => ?_)
          obtain ⟨m52, n53, v56, rfl, rfl, I54, K55, pv56, qv56, rv56⟩ := q51
          replace rv56 : (m37 86 3).toInt ≤ (m52 86 3).toInt ∧ (m52 86 3).toInt ≤ (m52 86 2).toInt ∧ (m52 86 2).toInt = (m37 86 2).toInt ∧ (RSX (SU (tC m37) 2 (m37 86 3).toInt) v56.toInt (m52 86 3).toInt (m52 86 4).toInt) ∧ (m52 lb 7).toInt = (m37 lb 7).toInt ∧ IFZ v56.toInt (CDS lb m37 m52 7 (SUD (tC m37) 2 (m37 86 3).toInt) ((m52 86 3).toInt - (m37 86 3).toInt)) := by have q_ := rv56; (try rw [z50] at q_); exact q_
          have K55c := K55
          have K55 := K39.trans (K55.sub (fun _ _ q => q))
          show PV _ _ _ _ _ _ _ 137 [.ref 86, .int 4, .int v29] [.int v56] _
          have k137 := rv56.2.2.2.1
          rw [kt132, kp132] at k137
          have k137z := rv56.2.2.2.2.2
          rw [kt132, kp132] at k137z
          refine pv_if_ne (M := mX7_readPiece) (tgt := 142) dX7_readPiece_137 140 rfl (by decide) (fun c61 => ?_) (fun c61 => ?_)
          · have c61 := iv_ne (X := v56.toInt) (Y := 0) c61 rfl (by decide)
            have k142z := IFZ.get k137z (by omega)
            have k142b := CDS_b k142z
            refine pv_aload_n (M := mX7_readPiece) 0 dX7_readPiece_142 143 rfl rfl rfl ?_
            refine mv_get (M := mX7_readPiece) (v := .ref lb) dX7_readPiece_143 FX7 1 wd281 (by decide) (tl86 hT) rfl R.2.2.2.1 146 rfl ?_
            refine pv_iload_n (M := mX7_readPiece) 2 dX7_readPiece_146 147 rfl rfl rfl ?_
            refine pv_iconst (M := mX7_readPiece) (v := 0) dX7_readPiece_147 148 rfl (by decide) ?_
            have z64 : (0 : Int32).toInt = 0 := by decide
            refine pv_callv (M := mX7_readPiece) (as := [.int v29, .int 0]) (st := []) (kc2 := 0) (ks2 := 0) dX7_readPiece_148 wd567 YX6_emit ⟨wd568, wd569⟩ (mk_get R.2.2.2.2.2.2.1) rfl rfl (s_X6_emit_vz g hT I54 lb R.2.2.2.2.2 v29 0 (by decide) (by decide)) rfl rfl (Nat.le_of_ble_eq_true rfl) (by decide) rfl rfl 151 rfl (fun rv h1 q65 => ?_)
            obtain ⟨m66, n67, rfl, rfl, I68, K69, rm66⟩ := q65
            replace rm66 : (m66 lb 7).toInt = (m52 lb 7).toInt ∧ ((m52 lb 2).toInt < 160 → EMT lb m52 m66 v29.toInt (0 : Int32)) := by have q_ := rm66; (try rw [z64] at q_); exact q_
            have K69c := K69
            have w70 : (m66 86 3).toInt = (m52 86 3).toInt := congrArg Int32.toInt (K69 86 3 (wY_out (by omega) (by omega) (by omega)))
            have w71 : (m66 86 2).toInt = (m52 86 2).toInt := congrArg Int32.toInt (K69 86 2 (wY_out (by omega) (by omega) (by omega)))
            have w72 : (m66 86 4).toInt = (m52 86 4).toInt := congrArg Int32.toInt (K69 86 4 (wY_out (by omega) (by omega) (by omega)))
            have K69 := K55.trans (K69.sub (by first | exact wZ_wY | exact wZ_86))
            show PV _ _ _ _ _ _ _ 151 [.ref 86, .int 4, .int v29] [] _
            have k151 := rm66.2 (by omega)
            refine pv_iconst (M := mX7_readPiece) (v := 1) dX7_readPiece_151 152 rfl (by decide) ?_
            have z74 : (1 : Int32).toInt = 1 := by decide
            exact pv_iret (M := mX7_readPiece) dX7_readPiece_152 rfl rfl ⟨_, _, _, rfl, rfl, I68, K69, by decide, by decide, ⟨by omega, by omega, by omega, Or.inl ⟨by decide, by rw [PI_cm kn33 kn40, CM_ok k93 kC, RSX_ok k137 (by omega), show (m52 86 3).toInt = (m66 86 3).toInt by omega]⟩, by omega, IFZ.is (by rw [PID_cm kn33 kn40, CMD_ok k93, ← k97]; exact CDS.wk (CDS.op k93z (CDS.pre ks132 k142z (Int.le_refl _)) k151 (isO_c (by rw [k97]; exact kC)) (Int.le_refl _) (by omega)) (by omega) (by omega))⟩⟩
          · have c61 := iv_eq (X := v56.toInt) (Y := 0) c61 rfl (by decide)
            refine pv_iconst (M := mX7_readPiece) (v := 0) dX7_readPiece_140 141 rfl (by decide) ?_
            have z75 : (0 : Int32).toInt = 0 := by decide
            exact pv_iret (M := mX7_readPiece) dX7_readPiece_141 rfl rfl ⟨_, _, _, rfl, rfl, I54, K55, by decide, by decide, ⟨by omega, by omega, by omega, Or.inr ⟨by decide, by rw [PI_cm kn33 kn40, CM_ok k93 kC]; exact RSX_fl k137 (by omega)⟩, by omega, IFZ.no (by first | decide | omega)⟩⟩
        · have c33 := iv_ne (X := v29.toInt) (Y := 60) c33 rfl (by decide)
          refine pv_iload_n (M := mX7_readPiece) 2 dX7_readPiece_104 105 rfl rfl rfl ?_
          refine pv_bipush (M := mX7_readPiece) (v := 62) dX7_readPiece_105 107 rfl (by decide) ?_
          refine pv_icmp_eq (M := mX7_readPiece) (tgt := 122) dX7_readPiece_107 110 rfl (by decide) (fun c76 => ?_) (fun c76 => ?_)
          · have c76 := iv_eq (X := v29.toInt) (Y := 62) c76 rfl (by decide)
            have kC : isC (tC m (m15 86 3).toInt) = true := by rw [← k97]; exact isC_y (by omega)
            refine pv_aload_n (M := mX7_readPiece) 0 dX7_readPiece_122 123 rfl rfl rfl ?_
            refine pv_dup (M := mX7_readPiece) dX7_readPiece_123 124 rfl rfl ?_
            refine iv_get (M := mX7_readPiece) (l1 := 0) (l2 := 160) dX7_readPiece_124 FX7 3 wd283 (by decide) (tl86 hT) rfl I17 rfl 127 rfl (fun v78 ev78 pv78 qv78 => ?_)
            have wv78 : v78.toInt = (m15 86 3).toInt := congrArg Int32.toInt ev78
            refine pv_iconst (M := mX7_readPiece) (v := 1) dX7_readPiece_127 128 rfl (by decide) ?_
            refine iv_iadd (M := mX7_readPiece) (X := v78.toInt) (Y := 1) dX7_readPiece_128 129 rfl rfl (by decide) (by omega) (by omega) (fun v79 ev79 => ?_)
            refine iv_put (M := mX7_readPiece) (l1 := 0) (l2 := 160) dX7_readPiece_129 FX7 3 wd283 (by decide) rfl (tl86 hT) rfl rfl rfl I17 rfl (by omega) (by omega) 132 rfl (fun m80 e83 I81 => ?_)
            have K82 := K18.set e83 (by first | rfl | decide)
            have w84 : (m80 86 3).toInt = v79.toInt := by rw [e83, up2_eq]
            have w85 : (m80 86 2).toInt = (m15 86 2).toInt := by rw [e83, up2_ne (by omega)]
            have w86 : (m80 86 4).toInt = (m15 86 4).toInt := by rw [e83, up2_ne (by omega)]
            have w87 : (m80 lb 7).toInt = (m15 lb 7).toInt := by rw [e83, up2_ne (by omega)]
            have w88 : (m80 lb 2).toInt = (m15 lb 2).toInt := by rw [e83, up2_ne (by omega)]
            have kt132 : tC m80 = tC m := tC_fz zR2 K82
            have kp132 : (m80 86 3).toInt = (m15 86 3).toInt + 1 := by omega
            have ks132 : SAML lb m15 m80 := SAML.set zR2 e83
            have kl132 : (m80 lb 2).toInt = (m15 lb 2).toInt := congrArg Int32.toInt ks132.1
            refine pv_aload_n (M := mX7_readPiece) 0 dX7_readPiece_132 133 rfl rfl rfl ?_
            refine pv_iload_n (M := mX7_readPiece) 1 dX7_readPiece_133 134 rfl rfl rfl ?_
            have z93 : (4 : Int32).toInt = 4 := by decide
            refine pv_callv (M := mX7_readPiece) (as := [.int 4]) (st := []) (kc2 := 0) (ks2 := 0) dX7_readPiece_134 wd539 YX7_readSum ⟨wd541, wd4⟩ (mk_get (tl86 hT)) rfl rfl (s_X7_readSum_v4z g hT I81 R (by first | omega | assumption | exact (iv_rng _).2 | exact (iv_rng _).1 | decide) (TBC_eq hp1 kt132) (by first | omega | assumption | exact (iv_rng _).2 | exact (iv_rng _).1 | decide)) rfl rfl (Nat.le_of_ble_eq_true rfl) (by decide) rfl rfl 137 rfl (fun rv h1 q94 => ?_)
            obtain ⟨m95, n96, v99, rfl, rfl, I97, K98, pv99, qv99, rv99⟩ := q94
            replace rv99 : (m80 86 3).toInt ≤ (m95 86 3).toInt ∧ (m95 86 3).toInt ≤ (m95 86 2).toInt ∧ (m95 86 2).toInt = (m80 86 2).toInt ∧ (RSX (SU (tC m80) 2 (m80 86 3).toInt) v99.toInt (m95 86 3).toInt (m95 86 4).toInt) ∧ (m95 lb 7).toInt = (m80 lb 7).toInt ∧ IFZ v99.toInt (CDS lb m80 m95 7 (SUD (tC m80) 2 (m80 86 3).toInt) ((m95 86 3).toInt - (m80 86 3).toInt)) := by have q_ := rv99; (try rw [z93] at q_); exact q_
            have K98c := K98
            have K98 := K82.trans (K98.sub (fun _ _ q => q))
            show PV _ _ _ _ _ _ _ 137 [.ref 86, .int 4, .int v29] [.int v99] _
            have k137 := rv99.2.2.2.1
            rw [kt132, kp132] at k137
            have k137z := rv99.2.2.2.2.2
            rw [kt132, kp132] at k137z
            refine pv_if_ne (M := mX7_readPiece) (tgt := 142) dX7_readPiece_137 140 rfl (by decide) (fun c104 => ?_) (fun c104 => ?_)
            · have c104 := iv_ne (X := v99.toInt) (Y := 0) c104 rfl (by decide)
              have k142z := IFZ.get k137z (by omega)
              have k142b := CDS_b k142z
              refine pv_aload_n (M := mX7_readPiece) 0 dX7_readPiece_142 143 rfl rfl rfl ?_
              refine mv_get (M := mX7_readPiece) (v := .ref lb) dX7_readPiece_143 FX7 1 wd281 (by decide) (tl86 hT) rfl R.2.2.2.1 146 rfl ?_
              refine pv_iload_n (M := mX7_readPiece) 2 dX7_readPiece_146 147 rfl rfl rfl ?_
              refine pv_iconst (M := mX7_readPiece) (v := 0) dX7_readPiece_147 148 rfl (by decide) ?_
              have z107 : (0 : Int32).toInt = 0 := by decide
              refine pv_callv (M := mX7_readPiece) (as := [.int v29, .int 0]) (st := []) (kc2 := 0) (ks2 := 0) dX7_readPiece_148 wd567 YX6_emit ⟨wd568, wd569⟩ (mk_get R.2.2.2.2.2.2.1) rfl rfl (s_X6_emit_vz g hT I97 lb R.2.2.2.2.2 v29 0 (by decide) (by decide)) rfl rfl (Nat.le_of_ble_eq_true rfl) (by decide) rfl rfl 151 rfl (fun rv h1 q108 => ?_)
              obtain ⟨m109, n110, rfl, rfl, I111, K112, rm109⟩ := q108
              replace rm109 : (m109 lb 7).toInt = (m95 lb 7).toInt ∧ ((m95 lb 2).toInt < 160 → EMT lb m95 m109 v29.toInt (0 : Int32)) := by have q_ := rm109; (try rw [z107] at q_); exact q_
              have K112c := K112
              have w113 : (m109 86 3).toInt = (m95 86 3).toInt := congrArg Int32.toInt (K112 86 3 (wY_out (by omega) (by omega) (by omega)))
              have w114 : (m109 86 2).toInt = (m95 86 2).toInt := congrArg Int32.toInt (K112 86 2 (wY_out (by omega) (by omega) (by omega)))
              have w115 : (m109 86 4).toInt = (m95 86 4).toInt := congrArg Int32.toInt (K112 86 4 (wY_out (by omega) (by omega) (by omega)))
              have K112 := K98.trans (K112.sub (by first | exact wZ_wY | exact wZ_86))
              show PV _ _ _ _ _ _ _ 151 [.ref 86, .int 4, .int v29] [] _
              have k151 := rm109.2 (by omega)
              refine pv_iconst (M := mX7_readPiece) (v := 1) dX7_readPiece_151 152 rfl (by decide) ?_
              have z117 : (1 : Int32).toInt = 1 := by decide
              exact pv_iret (M := mX7_readPiece) dX7_readPiece_152 rfl rfl ⟨_, _, _, rfl, rfl, I111, K112, by decide, by decide, ⟨by omega, by omega, by omega, Or.inl ⟨by decide, by rw [PI_cm kn33 kn40, CM_ok k93 kC, RSX_ok k137 (by omega), show (m95 86 3).toInt = (m109 86 3).toInt by omega]⟩, by omega, IFZ.is (by rw [PID_cm kn33 kn40, CMD_ok k93, ← k97]; exact CDS.wk (CDS.op k93z (CDS.pre ks132 k142z (Int.le_refl _)) k151 (isO_c (by rw [k97]; exact kC)) (Int.le_refl _) (by omega)) (by omega) (by omega))⟩⟩
            · have c104 := iv_eq (X := v99.toInt) (Y := 0) c104 rfl (by decide)
              refine pv_iconst (M := mX7_readPiece) (v := 0) dX7_readPiece_140 141 rfl (by decide) ?_
              have z118 : (0 : Int32).toInt = 0 := by decide
              exact pv_iret (M := mX7_readPiece) dX7_readPiece_141 rfl rfl ⟨_, _, _, rfl, rfl, I97, K98, by decide, by decide, ⟨by omega, by omega, by omega, Or.inr ⟨by decide, by rw [PI_cm kn33 kn40, CM_ok k93 kC]; exact RSX_fl k137 (by omega)⟩, by omega, IFZ.no (by first | decide | omega)⟩⟩
          · have c76 := iv_ne (X := v29.toInt) (Y := 62) c76 rfl (by decide)
            refine pv_iload_n (M := mX7_readPiece) 2 dX7_readPiece_110 111 rfl rfl rfl ?_
            refine pv_bipush (M := mX7_readPiece) (v := 61) dX7_readPiece_111 113 rfl (by decide) ?_
            refine pv_icmp_eq (M := mX7_readPiece) (tgt := 122) dX7_readPiece_113 116 rfl (by decide) (fun c119 => ?_) (fun c119 => ?_)
            · have c119 := iv_eq (X := v29.toInt) (Y := 61) c119 rfl (by decide)
              have kC : isC (tC m (m15 86 3).toInt) = true := by rw [← k97]; exact isC_y (by omega)
              refine pv_aload_n (M := mX7_readPiece) 0 dX7_readPiece_122 123 rfl rfl rfl ?_
              refine pv_dup (M := mX7_readPiece) dX7_readPiece_123 124 rfl rfl ?_
              refine iv_get (M := mX7_readPiece) (l1 := 0) (l2 := 160) dX7_readPiece_124 FX7 3 wd283 (by decide) (tl86 hT) rfl I17 rfl 127 rfl (fun v121 ev121 pv121 qv121 => ?_)
              have wv121 : v121.toInt = (m15 86 3).toInt := congrArg Int32.toInt ev121
              refine pv_iconst (M := mX7_readPiece) (v := 1) dX7_readPiece_127 128 rfl (by decide) ?_
              refine iv_iadd (M := mX7_readPiece) (X := v121.toInt) (Y := 1) dX7_readPiece_128 129 rfl rfl (by decide) (by omega) (by omega) (fun v122 ev122 => ?_)
              refine iv_put (M := mX7_readPiece) (l1 := 0) (l2 := 160) dX7_readPiece_129 FX7 3 wd283 (by decide) rfl (tl86 hT) rfl rfl rfl I17 rfl (by omega) (by omega) 132 rfl (fun m123 e126 I124 => ?_)
              have K125 := K18.set e126 (by first | rfl | decide)
              have w127 : (m123 86 3).toInt = v122.toInt := by rw [e126, up2_eq]
              have w128 : (m123 86 2).toInt = (m15 86 2).toInt := by rw [e126, up2_ne (by omega)]
              have w129 : (m123 86 4).toInt = (m15 86 4).toInt := by rw [e126, up2_ne (by omega)]
              have w130 : (m123 lb 7).toInt = (m15 lb 7).toInt := by rw [e126, up2_ne (by omega)]
              have w131 : (m123 lb 2).toInt = (m15 lb 2).toInt := by rw [e126, up2_ne (by omega)]
              have kt132 : tC m123 = tC m := tC_fz zR2 K125
              have kp132 : (m123 86 3).toInt = (m15 86 3).toInt + 1 := by omega
              have ks132 : SAML lb m15 m123 := SAML.set zR2 e126
              have kl132 : (m123 lb 2).toInt = (m15 lb 2).toInt := congrArg Int32.toInt ks132.1
              refine pv_aload_n (M := mX7_readPiece) 0 dX7_readPiece_132 133 rfl rfl rfl ?_
              refine pv_iload_n (M := mX7_readPiece) 1 dX7_readPiece_133 134 rfl rfl rfl ?_
              have z136 : (4 : Int32).toInt = 4 := by decide
              refine pv_callv (M := mX7_readPiece) (as := [.int 4]) (st := []) (kc2 := 0) (ks2 := 0) dX7_readPiece_134 wd539 YX7_readSum ⟨wd541, wd4⟩ (mk_get (tl86 hT)) rfl rfl (s_X7_readSum_v4z g hT I124 R (by first | omega | assumption | exact (iv_rng _).2 | exact (iv_rng _).1 | decide) (TBC_eq hp1 kt132) (by first | omega | assumption | exact (iv_rng _).2 | exact (iv_rng _).1 | decide)) rfl rfl (Nat.le_of_ble_eq_true rfl) (by decide) rfl rfl 137 rfl (fun rv h1 q137 => ?_)
              obtain ⟨m138, n139, v142, rfl, rfl, I140, K141, pv142, qv142, rv142⟩ := q137
              replace rv142 : (m123 86 3).toInt ≤ (m138 86 3).toInt ∧ (m138 86 3).toInt ≤ (m138 86 2).toInt ∧ (m138 86 2).toInt = (m123 86 2).toInt ∧ (RSX (SU (tC m123) 2 (m123 86 3).toInt) v142.toInt (m138 86 3).toInt (m138 86 4).toInt) ∧ (m138 lb 7).toInt = (m123 lb 7).toInt ∧ IFZ v142.toInt (CDS lb m123 m138 7 (SUD (tC m123) 2 (m123 86 3).toInt) ((m138 86 3).toInt - (m123 86 3).toInt)) := by have q_ := rv142; (try rw [z136] at q_); exact q_
              have K141c := K141
              have K141 := K125.trans (K141.sub (fun _ _ q => q))
              show PV _ _ _ _ _ _ _ 137 [.ref 86, .int 4, .int v29] [.int v142] _
              have k137 := rv142.2.2.2.1
              rw [kt132, kp132] at k137
              have k137z := rv142.2.2.2.2.2
              rw [kt132, kp132] at k137z
              refine pv_if_ne (M := mX7_readPiece) (tgt := 142) dX7_readPiece_137 140 rfl (by decide) (fun c147 => ?_) (fun c147 => ?_)
              · have c147 := iv_ne (X := v142.toInt) (Y := 0) c147 rfl (by decide)
                have k142z := IFZ.get k137z (by omega)
                have k142b := CDS_b k142z
                refine pv_aload_n (M := mX7_readPiece) 0 dX7_readPiece_142 143 rfl rfl rfl ?_
                refine mv_get (M := mX7_readPiece) (v := .ref lb) dX7_readPiece_143 FX7 1 wd281 (by decide) (tl86 hT) rfl R.2.2.2.1 146 rfl ?_
                refine pv_iload_n (M := mX7_readPiece) 2 dX7_readPiece_146 147 rfl rfl rfl ?_
                refine pv_iconst (M := mX7_readPiece) (v := 0) dX7_readPiece_147 148 rfl (by decide) ?_
                have z150 : (0 : Int32).toInt = 0 := by decide
                refine pv_callv (M := mX7_readPiece) (as := [.int v29, .int 0]) (st := []) (kc2 := 0) (ks2 := 0) dX7_readPiece_148 wd567 YX6_emit ⟨wd568, wd569⟩ (mk_get R.2.2.2.2.2.2.1) rfl rfl (s_X6_emit_vz g hT I140 lb R.2.2.2.2.2 v29 0 (by decide) (by decide)) rfl rfl (Nat.le_of_ble_eq_true rfl) (by decide) rfl rfl 151 rfl (fun rv h1 q151 => ?_)
                obtain ⟨m152, n153, rfl, rfl, I154, K155, rm152⟩ := q151
                replace rm152 : (m152 lb 7).toInt = (m138 lb 7).toInt ∧ ((m138 lb 2).toInt < 160 → EMT lb m138 m152 v29.toInt (0 : Int32)) := by have q_ := rm152; (try rw [z150] at q_); exact q_
                have K155c := K155
                have w156 : (m152 86 3).toInt = (m138 86 3).toInt := congrArg Int32.toInt (K155 86 3 (wY_out (by omega) (by omega) (by omega)))
                have w157 : (m152 86 2).toInt = (m138 86 2).toInt := congrArg Int32.toInt (K155 86 2 (wY_out (by omega) (by omega) (by omega)))
                have w158 : (m152 86 4).toInt = (m138 86 4).toInt := congrArg Int32.toInt (K155 86 4 (wY_out (by omega) (by omega) (by omega)))
                have K155 := K141.trans (K155.sub (by first | exact wZ_wY | exact wZ_86))
                show PV _ _ _ _ _ _ _ 151 [.ref 86, .int 4, .int v29] [] _
                have k151 := rm152.2 (by omega)
                refine pv_iconst (M := mX7_readPiece) (v := 1) dX7_readPiece_151 152 rfl (by decide) ?_
                have z160 : (1 : Int32).toInt = 1 := by decide
                exact pv_iret (M := mX7_readPiece) dX7_readPiece_152 rfl rfl ⟨_, _, _, rfl, rfl, I154, K155, by decide, by decide, ⟨by omega, by omega, by omega, Or.inl ⟨by decide, by rw [PI_cm kn33 kn40, CM_ok k93 kC, RSX_ok k137 (by omega), show (m138 86 3).toInt = (m152 86 3).toInt by omega]⟩, by omega, IFZ.is (by rw [PID_cm kn33 kn40, CMD_ok k93, ← k97]; exact CDS.wk (CDS.op k93z (CDS.pre ks132 k142z (Int.le_refl _)) k151 (isO_c (by rw [k97]; exact kC)) (Int.le_refl _) (by omega)) (by omega) (by omega))⟩⟩
              · have c147 := iv_eq (X := v142.toInt) (Y := 0) c147 rfl (by decide)
                refine pv_iconst (M := mX7_readPiece) (v := 0) dX7_readPiece_140 141 rfl (by decide) ?_
                have z161 : (0 : Int32).toInt = 0 := by decide
                exact pv_iret (M := mX7_readPiece) dX7_readPiece_141 rfl rfl ⟨_, _, _, rfl, rfl, I140, K141, by decide, by decide, ⟨by omega, by omega, by omega, Or.inr ⟨by decide, by rw [PI_cm kn33 kn40, CM_ok k93 kC]; exact RSX_fl k137 (by omega)⟩, by omega, IFZ.no (by first | decide | omega)⟩⟩
            · have c119 := iv_ne (X := v29.toInt) (Y := 61) c119 rfl (by decide)
              refine pv_aload_n (M := mX7_readPiece) 0 dX7_readPiece_116 117 rfl rfl rfl ?_
              refine pv_iconst (M := mX7_readPiece) (v := 1) dX7_readPiece_117 118 rfl (by decide) ?_
              have z162 : (1 : Int32).toInt = 1 := by decide
              refine pv_callv (M := mX7_readPiece) (as := [.int 1]) (st := []) (kc2 := 0) (ks2 := 0) dX7_readPiece_118 wd531 YX7_fail ⟨wd533, wd3⟩ (mk_get (tl86 hT)) rfl rfl (s_X7_fail_vz g hT I17 R 1 (by decide) (by decide) (by first | omega | assumption | exact (iv_rng _).2 | exact (iv_rng _).1 | decide)) rfl rfl (Nat.le_of_ble_eq_true rfl) (by decide) rfl rfl 121 rfl (fun rv h1 q163 => ?_)
              obtain ⟨m164, n165, v168, rfl, rfl, I166, K167, pv168, qv168, rv168⟩ := q163
              replace rv168 : (m15 86 3).toInt ≤ (m164 86 3).toInt ∧ (m164 86 3).toInt ≤ (m164 86 2).toInt ∧ (m164 86 2).toInt = (m15 86 2).toInt ∧ (v168.toInt = 0 ∧ (m164 86 3).toInt = (m15 86 3).toInt ∧ (m164 86 4).toInt = -1000 * (1 : Int) - (m15 86 3).toInt) ∧ (m164 lb 7).toInt = (m15 lb 7).toInt := by have q_ := rv168; (try rw [z162] at q_); exact q_
              have K167c := K167
              have w169 : (m164 86 2).toInt = (m15 86 2).toInt := congrArg Int32.toInt (K167 86 2 rfl)
              have K167 := K18.trans (K167.sub (by first | exact wZ_wY | exact wZ_86))
              show PV _ _ _ _ _ _ _ 121 [.ref 86, .int 4, .int v29] [.int v168] _
              exact pv_iret (M := mX7_readPiece) dX7_readPiece_121 rfl (iv_nz (by omega) (by omega)) ⟨_, _, _, rfl, rfl, I166, K167, by omega, by omega, ⟨by omega, by omega, by omega, Or.inr ⟨by omega, by rw [PI_cm kn33 kn40]; exact CM_no k93 (isC_no (by omega) (by omega) (by omega)) (by omega)⟩, by omega, IFZ.no (by first | decide | omega)⟩⟩
      · have c22 := iv_eq (X := v19.toInt) (Y := 0) c22 rfl (by decide)
        refine pv_iconst (M := mX7_readPiece) (v := 0) dX7_readPiece_91 92 rfl (by decide) ?_
        have z170 : (0 : Int32).toInt = 0 := by decide
        exact pv_iret (M := mX7_readPiece) dX7_readPiece_92 rfl rfl ⟨_, _, _, rfl, rfl, I17, K18, by decide, by decide, ⟨by omega, by omega, by omega, Or.inr ⟨by decide, by rw [PI_cm kn33 kn40]; exact CM_fl (RSX_fl k88 (by omega))⟩, by omega, IFZ.no (by first | decide | omega)⟩⟩
    · have c11 := iv_eq (X := v8.toInt) (Y := 40) c11 rfl (by decide)
      have k40 : tC m (m 86 3).toInt = 40 := by omega
      refine pv_aload_n (M := mX7_readPiece) 0 dX7_readPiece_50 51 rfl rfl rfl ?_
      refine pv_iload_n (M := mX7_readPiece) 1 dX7_readPiece_51 52 rfl rfl rfl ?_
      have z172 : (4 : Int32).toInt = 4 := by decide
      refine pv_callv (M := mX7_readPiece) (as := [.int 4]) (st := []) (kc2 := 0) (ks2 := 0) dX7_readPiece_52 wd551 YX7_open ⟨wd553, wd7⟩ (mk_get (tl86 hT)) rfl rfl (s_X7_open_vz g hT I R 4 (by decide) (by decide) (by first | omega | assumption | exact (iv_rng _).2 | exact (iv_rng _).1 | decide)) rfl rfl (Nat.le_of_ble_eq_true rfl) (by decide) rfl rfl 55 rfl (fun rv h1 q173 => ?_)
      obtain ⟨m174, n175, v178, rfl, rfl, I176, K177, pv178, qv178, rv178⟩ := q173
      replace rv178 : (v178 = 0 ∨ (4 : Int) ≤ 5) ∧ (m 86 3).toInt ≤ (m174 86 3).toInt ∧ (m174 86 3).toInt ≤ (m174 86 2).toInt ∧ (m174 86 2).toInt = (m 86 2).toInt ∧ ((v178.toInt = 1 ∧ (4 : Int) ≤ 5 ∧ (m174 86 3).toInt = (m 86 3).toInt + 1) ∨ (v178.toInt = 0 ∧ 6 ≤ (4 : Int) ∧ (m174 86 4).toInt = -5000 - (m 86 3).toInt ∧ (m174 86 3).toInt = (m 86 3).toInt)) ∧ (m174 lb 7).toInt = (m lb 7).toInt := by have q_ := rv178; (try rw [z172] at q_); exact q_
      have K177c := K177
      have w179 : (m174 86 2).toInt = (m 86 2).toInt := congrArg Int32.toInt (K177 86 2 rfl)
      have K177 := Kp.trans (K177.sub (by first | exact wZ_wY | exact wZ_86))
      show PV _ _ _ _ _ _ _ 55 [.ref 86, .int 4, pv_U] [.int v178] _
      refine pv_if_eq (M := mX7_readPiece) (tgt := 81) dX7_readPiece_55 58 rfl (by decide) (fun c180 => ?_) (fun c180 => ?_)
      · have c180 := iv_eq (X := v178.toInt) (Y := 0) c180 rfl (by decide)
        refine pv_iconst (M := mX7_readPiece) (v := 0) dX7_readPiece_81 82 rfl (by decide) ?_
        have z181 : (0 : Int32).toInt = 0 := by decide
        exact pv_iret (M := mX7_readPiece) dX7_readPiece_82 rfl rfl ⟨_, _, _, rfl, rfl, I176, K177, by decide, by decide, ⟨by omega, by omega, by omega, (by first | exact Or.inr ⟨by decide, PX_deep (Or.inr k40) (by omega)⟩ | exact Or.inr ⟨by decide, PX_cn k40 k68 (fun z => by omega) (by omega)⟩ | exact Or.inl ⟨by decide, PX_co k40 k68 (by omega) (by omega)⟩ | exact Or.inr ⟨by decide, PX_con k40 (RSX_fl k65 (by omega))⟩ | (exfalso; omega)), by omega, (by first | exact IFZ.is (by rw [PID_opn k40]; exact CDS.wk (CDS.post (CDS.pre ks58 (IFZ.get k65z (by omega)) (Int.le_refl _)) ks74) (by omega) (by omega)) | exact IFZ.no (by first | decide | omega))⟩⟩
      · have pc180 := rv178.1.resolve_left c180
        have c180 := iv_ne (X := v178.toInt) (Y := 0) c180 rfl (by decide)
        have kt58 : tC m174 = tC m := tC_fz zR2 K177
        have kp58 : (m174 86 3).toInt = (m 86 3).toInt + 1 := by omega
        have ks58 : SAML lb m m174 := SAML.fz zR2 K177c
        have kl58 : (m174 lb 2).toInt = (m lb 2).toInt := congrArg Int32.toInt ks58.1
        refine pv_aload_n (M := mX7_readPiece) 0 dX7_readPiece_58 59 rfl rfl rfl ?_
        refine pv_iload_n (M := mX7_readPiece) 1 dX7_readPiece_59 60 rfl rfl rfl ?_
        refine pv_iconst (M := mX7_readPiece) (v := 1) dX7_readPiece_60 61 rfl (by decide) ?_
        refine pv_iadd (M := mX7_readPiece) (v := 5) dX7_readPiece_61 62 rfl (by decide) ?_
        have z187 : (5 : Int32).toInt = 5 := by decide
        refine pv_callv (M := mX7_readPiece) (as := [.int 5]) (st := []) (kc2 := 0) (ks2 := 0) dX7_readPiece_62 wd662 YX7_readCondition ⟨wd664, wd12⟩ (mk_get (tl86 hT)) rfl rfl (s_X7_readCondition_v5z g hT I176 R (by first | omega | assumption | exact (iv_rng _).2 | exact (iv_rng _).1 | decide) (TBC_eq hp1 kt58) (by first | omega | assumption | exact (iv_rng _).2 | exact (iv_rng _).1 | decide)) rfl rfl (Nat.le_of_ble_eq_true rfl) (by decide) rfl rfl 65 rfl (fun rv h1 q188 => ?_)
        obtain ⟨m189, n190, v193, rfl, rfl, I191, K192, pv193, qv193, rv193⟩ := q188
        replace rv193 : (m174 86 3).toInt ≤ (m189 86 3).toInt ∧ (m189 86 3).toInt ≤ (m189 86 2).toInt ∧ (m189 86 2).toInt = (m174 86 2).toInt ∧ (RSX (CN (tC m174) 1 (m174 86 3).toInt) v193.toInt (m189 86 3).toInt (m189 86 4).toInt) ∧ (m189 lb 7).toInt = (m174 lb 7).toInt ∧ IFZ v193.toInt (CDS lb m174 m189 6 (CND_ (tC m174) 1 (m174 86 3).toInt) ((m189 86 3).toInt - (m174 86 3).toInt)) := by have q_ := rv193; (try rw [z187] at q_); exact q_
        have K192c := K192
        have K192 := K177.trans (K192.sub (fun _ _ q => q))
        show PV _ _ _ _ _ _ _ 65 [.ref 86, .int 4, pv_U] [.int v193] _
        have k65 := rv193.2.2.2.1
        rw [kt58, kp58] at k65
        have k65z := rv193.2.2.2.2.2
        rw [kt58, kp58] at k65z
        refine pv_if_eq (M := mX7_readPiece) (tgt := 81) dX7_readPiece_65 68 rfl (by decide) (fun c198 => ?_) (fun c198 => ?_)
        · have c198 := iv_eq (X := v193.toInt) (Y := 0) c198 rfl (by decide)
          refine pv_iconst (M := mX7_readPiece) (v := 0) dX7_readPiece_81 82 rfl (by decide) ?_
          have z199 : (0 : Int32).toInt = 0 := by decide
          exact pv_iret (M := mX7_readPiece) dX7_readPiece_82 rfl rfl ⟨_, _, _, rfl, rfl, I191, K192, by decide, by decide, ⟨by omega, by omega, by omega, (by first | exact Or.inr ⟨by decide, PX_deep (Or.inr k40) (by omega)⟩ | exact Or.inr ⟨by decide, PX_cn k40 k68 (fun z => by omega) (by omega)⟩ | exact Or.inl ⟨by decide, PX_co k40 k68 (by omega) (by omega)⟩ | exact Or.inr ⟨by decide, PX_con k40 (RSX_fl k65 (by omega))⟩ | (exfalso; omega)), by omega, (by first | exact IFZ.is (by rw [PID_opn k40]; exact CDS.wk (CDS.post (CDS.pre ks58 (IFZ.get k65z (by omega)) (Int.le_refl _)) ks74) (by omega) (by omega)) | exact IFZ.no (by first | decide | omega))⟩⟩
        · have c198 := iv_ne (X := v193.toInt) (Y := 0) c198 rfl (by decide)
          have k68 := RSX_ok k65 (by omega)
          have kt68 : tC m189 = tC m := tC_fz zR2 K192
          refine pv_aload_n (M := mX7_readPiece) 0 dX7_readPiece_68 69 rfl rfl rfl ?_
          refine pv_bipush (M := mX7_readPiece) (v := 41) dX7_readPiece_69 71 rfl (by decide) ?_
          have z202 : (41 : Int32).toInt = 41 := by decide
          refine pv_callv (M := mX7_readPiece) (as := [.int 41]) (st := []) (kc2 := 0) (ks2 := 0) dX7_readPiece_71 wd555 YX7_pass ⟨wd557, wd8⟩ (mk_get (tl86 hT)) rfl rfl (s_X7_pass_vz g hT I191 R 41 (by decide) (by decide) (by first | omega | assumption | exact (iv_rng _).2 | exact (iv_rng _).1 | decide)) rfl rfl (Nat.le_of_ble_eq_true rfl) (by decide) rfl rfl 74 rfl (fun rv h1 q203 => ?_)
          obtain ⟨m204, n205, v208, rfl, rfl, I206, K207, pv208, qv208, rv208⟩ := q203
          replace rv208 : (m189 86 3).toInt ≤ (m204 86 3).toInt ∧ (m204 86 3).toInt ≤ (m204 86 2).toInt ∧ (m204 86 2).toInt = (m189 86 2).toInt ∧ ((v208.toInt = 1 ∧ tC m189 (m189 86 3).toInt = (41 : Int) ∧ (m204 86 3).toInt = (m189 86 3).toInt + 1) ∨ (v208.toInt = 0 ∧ tC m189 (m189 86 3).toInt ≠ (41 : Int) ∧ (m204 86 4).toInt = -1000 - (m189 86 3).toInt ∧ (m204 86 3).toInt = (m189 86 3).toInt)) ∧ (m204 lb 7).toInt = (m189 lb 7).toInt := by have q_ := rv208; (try rw [z202] at q_); exact q_
          have K207c := K207
          have w209 : (m204 86 2).toInt = (m189 86 2).toInt := congrArg Int32.toInt (K207 86 2 rfl)
          have K207 := K192.trans (K207.sub (by first | exact wZ_wY | exact wZ_86))
          show PV _ _ _ _ _ _ _ 74 [.ref 86, .int 4, pv_U] [.int v208] _
          have k74 := rv208.2.2.2.1
          rw [kt68] at k74
          have ks74 : SAML lb m189 m204 := SAML.fz zR2 K207c
          refine pv_if_eq (M := mX7_readPiece) (tgt := 81) dX7_readPiece_74 77 rfl (by decide) (fun c213 => ?_) (fun c213 => ?_)
          · have c213 := iv_eq (X := v208.toInt) (Y := 0) c213 rfl (by decide)
            refine pv_iconst (M := mX7_readPiece) (v := 0) dX7_readPiece_81 82 rfl (by decide) ?_
            have z214 : (0 : Int32).toInt = 0 := by decide
            exact pv_iret (M := mX7_readPiece) dX7_readPiece_82 rfl rfl ⟨_, _, _, rfl, rfl, I206, K207, by decide, by decide, ⟨by omega, by omega, by omega, (by first | exact Or.inr ⟨by decide, PX_deep (Or.inr k40) (by omega)⟩ | exact Or.inr ⟨by decide, PX_cn k40 k68 (fun z => by omega) (by omega)⟩ | exact Or.inl ⟨by decide, PX_co k40 k68 (by omega) (by omega)⟩ | exact Or.inr ⟨by decide, PX_con k40 (RSX_fl k65 (by omega))⟩ | (exfalso; omega)), by omega, (by first | exact IFZ.is (by rw [PID_opn k40]; exact CDS.wk (CDS.post (CDS.pre ks58 (IFZ.get k65z (by omega)) (Int.le_refl _)) ks74) (by omega) (by omega)) | exact IFZ.no (by first | decide | omega))⟩⟩
          · have c213 := iv_ne (X := v208.toInt) (Y := 0) c213 rfl (by decide)
            refine pv_iconst (M := mX7_readPiece) (v := 1) dX7_readPiece_77 78 rfl (by decide) ?_
            refine pv_goto (M := mX7_readPiece) (tgt := 82) dX7_readPiece_78 (by decide) ?_
            have z215 : (1 : Int32).toInt = 1 := by decide
            exact pv_iret (M := mX7_readPiece) dX7_readPiece_82 rfl rfl ⟨_, _, _, rfl, rfl, I206, K207, by decide, by decide, ⟨by omega, by omega, by omega, (by first | exact Or.inr ⟨by decide, PX_deep (Or.inr k40) (by omega)⟩ | exact Or.inr ⟨by decide, PX_cn k40 k68 (fun z => by omega) (by omega)⟩ | exact Or.inl ⟨by decide, PX_co k40 k68 (by omega) (by omega)⟩ | exact Or.inr ⟨by decide, PX_con k40 (RSX_fl k65 (by omega))⟩ | (exfalso; omega)), by omega, (by first | exact IFZ.is (by rw [PID_opn k40]; exact CDS.wk (CDS.post (CDS.pre ks58 (IFZ.get k65z (by omega)) (Int.le_refl _)) ks74) (by omega) (by omega)) | exact IFZ.no (by first | decide | omega))⟩⟩
  · have c5 := iv_eq (X := v2.toInt) (Y := 33) c5 rfl (by decide)
    have k33 : tC m (m 86 3).toInt = 33 := by omega
    refine pv_aload_n (M := mX7_readPiece) 0 dX7_readPiece_9 10 rfl rfl rfl ?_
    refine pv_iload_n (M := mX7_readPiece) 1 dX7_readPiece_10 11 rfl rfl rfl ?_
    have z217 : (4 : Int32).toInt = 4 := by decide
    refine pv_callv (M := mX7_readPiece) (as := [.int 4]) (st := []) (kc2 := 0) (ks2 := 0) dX7_readPiece_11 wd551 YX7_open ⟨wd553, wd7⟩ (mk_get (tl86 hT)) rfl rfl (s_X7_open_vz g hT I R 4 (by decide) (by decide) (by first | omega | assumption | exact (iv_rng _).2 | exact (iv_rng _).1 | decide)) rfl rfl (Nat.le_of_ble_eq_true rfl) (by decide) rfl rfl 14 rfl (fun rv h1 q218 => ?_)
    obtain ⟨m219, n220, v223, rfl, rfl, I221, K222, pv223, qv223, rv223⟩ := q218
    replace rv223 : (v223 = 0 ∨ (4 : Int) ≤ 5) ∧ (m 86 3).toInt ≤ (m219 86 3).toInt ∧ (m219 86 3).toInt ≤ (m219 86 2).toInt ∧ (m219 86 2).toInt = (m 86 2).toInt ∧ ((v223.toInt = 1 ∧ (4 : Int) ≤ 5 ∧ (m219 86 3).toInt = (m 86 3).toInt + 1) ∨ (v223.toInt = 0 ∧ 6 ≤ (4 : Int) ∧ (m219 86 4).toInt = -5000 - (m 86 3).toInt ∧ (m219 86 3).toInt = (m 86 3).toInt)) ∧ (m219 lb 7).toInt = (m lb 7).toInt := by have q_ := rv223; (try rw [z217] at q_); exact q_
    have K222c := K222
    have w224 : (m219 86 2).toInt = (m 86 2).toInt := congrArg Int32.toInt (K222 86 2 rfl)
    have K222 := Kp.trans (K222.sub (by first | exact wZ_wY | exact wZ_86))
    show PV _ _ _ _ _ _ _ 14 [.ref 86, .int 4, pv_U] [.int v223] _
    refine pv_if_eq (M := mX7_readPiece) (tgt := 27) dX7_readPiece_14 17 rfl (by decide) (fun c225 => ?_) (fun c225 => ?_)
    · have c225 := iv_eq (X := v223.toInt) (Y := 0) c225 rfl (by decide)
      refine pv_iconst (M := mX7_readPiece) (v := 0) dX7_readPiece_27 28 rfl (by decide) ?_
      have z226 : (0 : Int32).toInt = 0 := by decide
      exact pv_iret (M := mX7_readPiece) dX7_readPiece_28 rfl rfl ⟨_, _, _, rfl, rfl, I221, K222, by decide, by decide, ⟨by omega, by omega, by omega, (by first | exact Or.inr ⟨by decide, PX_deep (Or.inl k33) (by omega)⟩ | exact Or.inr ⟨by decide, by rw [PI_not k33]; exact RSX_fl k24 (by omega)⟩ | (exfalso; omega)), by omega, IFZ.no (by first | decide | omega)⟩⟩
    · have pc225 := rv223.1.resolve_left c225
      have c225 := iv_ne (X := v223.toInt) (Y := 0) c225 rfl (by decide)
      have kt17 : tC m219 = tC m := tC_fz zR2 K222
      have kp17 : (m219 86 3).toInt = (m 86 3).toInt + 1 := by omega
      have ks17 : SAML lb m m219 := SAML.fz zR2 K222c
      have kl17 : (m219 lb 2).toInt = (m lb 2).toInt := congrArg Int32.toInt ks17.1
      refine pv_aload_n (M := mX7_readPiece) 0 dX7_readPiece_17 18 rfl rfl rfl ?_
      refine pv_iload_n (M := mX7_readPiece) 1 dX7_readPiece_18 19 rfl rfl rfl ?_
      refine pv_iconst (M := mX7_readPiece) (v := 1) dX7_readPiece_19 20 rfl (by decide) ?_
      refine pv_iadd (M := mX7_readPiece) (v := 5) dX7_readPiece_20 21 rfl (by decide) ?_
      have z232 : (5 : Int32).toInt = 5 := by decide
      refine pv_callv (M := mX7_readPiece) (as := [.int 5]) (st := []) (kc2 := 0) (ks2 := 0) dX7_readPiece_21 wd674 YX7_readPiece ⟨wd676, wd14⟩ (mk_get (tl86 hT)) rfl rfl (s_X7_readPiece_v5z g hT I221 R (by first | omega | assumption | exact (iv_rng _).2 | exact (iv_rng _).1 | decide) (TBC_eq hp1 kt17) (by first | omega | assumption | exact (iv_rng _).2 | exact (iv_rng _).1 | decide)) rfl rfl (Nat.le_of_ble_eq_true rfl) (by decide) rfl rfl 24 rfl (fun rv h1 q233 => ?_)
      obtain ⟨m234, n235, v238, rfl, rfl, I236, K237, pv238, qv238, rv238⟩ := q233
      replace rv238 : (m219 86 3).toInt ≤ (m234 86 3).toInt ∧ (m234 86 3).toInt ≤ (m234 86 2).toInt ∧ (m234 86 2).toInt = (m219 86 2).toInt ∧ (RSX (PI (tC m219) 1 (m219 86 3).toInt) v238.toInt (m234 86 3).toInt (m234 86 4).toInt) ∧ (m234 lb 7).toInt = (m219 lb 7).toInt ∧ IFZ v238.toInt (CDS lb m219 m234 6 (PID (tC m219) 1 (m219 86 3).toInt) ((m234 86 3).toInt - (m219 86 3).toInt)) := by have q_ := rv238; (try rw [z232] at q_); exact q_
      have K237c := K237
      have K237 := K222.trans (K237.sub (fun _ _ q => q))
      show PV _ _ _ _ _ _ _ 24 [.ref 86, .int 4, pv_U] [.int v238] _
      have k24 := rv238.2.2.2.1
      rw [kt17, kp17] at k24
      have k24z := rv238.2.2.2.2.2
      rw [kt17, kp17] at k24z
      refine pv_if_ne (M := mX7_readPiece) (tgt := 29) dX7_readPiece_24 27 rfl (by decide) (fun c243 => ?_) (fun c243 => ?_)
      · have c243 := iv_ne (X := v238.toInt) (Y := 0) c243 rfl (by decide)
        have k29z := IFZ.get k24z (by omega)
        have k29b := CDS_b k29z
        refine pv_aload_n (M := mX7_readPiece) 0 dX7_readPiece_29 30 rfl rfl rfl ?_
        refine mv_get (M := mX7_readPiece) (v := .ref lb) dX7_readPiece_30 FX7 1 wd281 (by decide) (tl86 hT) rfl R.2.2.2.1 33 rfl ?_
        refine pv_bipush (M := mX7_readPiece) (v := 33) dX7_readPiece_33 35 rfl (by decide) ?_
        refine pv_iconst (M := mX7_readPiece) (v := 0) dX7_readPiece_35 36 rfl (by decide) ?_
        have z246 : (33 : Int32).toInt = 33 := by decide
        have z247 : (0 : Int32).toInt = 0 := by decide
        refine pv_callv (M := mX7_readPiece) (as := [.int 33, .int 0]) (st := []) (kc2 := 0) (ks2 := 0) dX7_readPiece_36 wd567 YX6_emit ⟨wd568, wd569⟩ (mk_get R.2.2.2.2.2.2.1) rfl rfl (s_X6_emit_vz g hT I236 lb R.2.2.2.2.2 33 0 (by decide) (by decide)) rfl rfl (Nat.le_of_ble_eq_true rfl) (by decide) rfl rfl 39 rfl (fun rv h1 q248 => ?_)
        obtain ⟨m249, n250, rfl, rfl, I251, K252, rm249⟩ := q248
        replace rm249 : (m249 lb 7).toInt = (m234 lb 7).toInt ∧ ((m234 lb 2).toInt < 160 → EMT lb m234 m249 (33 : Int) (0 : Int32)) := by have q_ := rm249; (try rw [z246] at q_); (try rw [z247] at q_); exact q_
        have K252c := K252
        have w253 : (m249 86 3).toInt = (m234 86 3).toInt := congrArg Int32.toInt (K252 86 3 (wY_out (by omega) (by omega) (by omega)))
        have w254 : (m249 86 2).toInt = (m234 86 2).toInt := congrArg Int32.toInt (K252 86 2 (wY_out (by omega) (by omega) (by omega)))
        have w255 : (m249 86 4).toInt = (m234 86 4).toInt := congrArg Int32.toInt (K252 86 4 (wY_out (by omega) (by omega) (by omega)))
        have K252 := K237.trans (K252.sub (by first | exact wZ_wY | exact wZ_86))
        show PV _ _ _ _ _ _ _ 39 [.ref 86, .int 4, pv_U] [] _
        have k39 := rm249.2 (by omega)
        refine pv_iconst (M := mX7_readPiece) (v := 1) dX7_readPiece_39 40 rfl (by decide) ?_
        have z257 : (1 : Int32).toInt = 1 := by decide
        exact pv_iret (M := mX7_readPiece) dX7_readPiece_40 rfl rfl ⟨_, _, _, rfl, rfl, I251, K252, by decide, by decide, ⟨by omega, by omega, by omega, Or.inl ⟨by decide, by rw [PI_not k33, RSX_ok k24 (by omega), show (m234 86 3).toInt = (m249 86 3).toInt by omega]⟩, by omega, IFZ.is (by rw [PID_not k33]; exact CDS.wk (CDS.not (CDS.pre ks17 k29z (Int.le_refl _)) k39 (Int.le_refl _) (by omega)) (by omega) (by omega))⟩⟩
      · have c243 := iv_eq (X := v238.toInt) (Y := 0) c243 rfl (by decide)
        refine pv_iconst (M := mX7_readPiece) (v := 0) dX7_readPiece_27 28 rfl (by decide) ?_
        have z258 : (0 : Int32).toInt = 0 := by decide
        exact pv_iret (M := mX7_readPiece) dX7_readPiece_28 rfl rfl ⟨_, _, _, rfl, rfl, I236, K237, by decide, by decide, ⟨by omega, by omega, by omega, (by first | exact Or.inr ⟨by decide, PX_deep (Or.inl k33) (by omega)⟩ | exact Or.inr ⟨by decide, by rw [PI_not k33]; exact RSX_fl k24 (by omega)⟩ | (exfalso; omega)), by omega, IFZ.no (by first | decide | omega)⟩⟩

set_option maxHeartbeats 2000000 in
set_option maxRecDepth 20000 in
theorem s_X7_readPart_v4z (g : pv_G) {T : List mv_T} {m : Nat → Nat → Int32} {n : Nat → Nat → Int64} {r : Nat → Value} {la lb : Nat} (hT : TX T) (I : IV BB m) (R : RX T r la lb) (hp0 : (m 86 3).toInt ≤ (m 86 2).toInt) (hp1 : TBC m) (hp2 : (m lb 2).toInt ≤ (m 86 3).toInt) : PM g mX7_readPart yX7_readPart (sqI T BB (wZ lb) r m 0 1 (fun m' v => (m 86 3).toInt ≤ (m' 86 3).toInt ∧ (m' 86 3).toInt ≤ (m' 86 2).toInt ∧ (m' 86 2).toInt = (m 86 2).toInt ∧ ((v.toInt = 0 ∨ (m 86 3).toInt + 1 ≤ (m' 86 3).toInt) ∧ TRX (CN (tC m) 2 (m 86 3).toInt) (LB (tC m) 2) (fun a => tC m a ≠ 38) v.toInt (m' 86 3).toInt (m' 86 4).toInt) ∧ (m' lb 7).toInt = (m lb 7).toInt ∧ IFZ v.toInt (PTZ (tC m) 2 lb m m' (m 86 3).toInt (m' 86 3).toInt))) 15 0 0 [.ref 86, .int 4] (mk T m n r) := by
  have Kp : fr (wZ lb) m m := fr.rf
  have R0 := R
  have zR := R.2.2.2.2.1.1
  have zR2 := R.2.2.2.2.2.1
  have z104 : 0 ≤ (m 86 3).toInt ∧ (m 86 3).toInt ≤ 160 := I 86 3
  have z105 : 0 ≤ (m 86 2).toInt ∧ (m 86 2).toInt ≤ 160 := I 86 2
  refine PM.of 2 (lo := [.ref 86, .int 4, pv_U, pv_U]) rfl (by decide) rfl rfl (Nat.le_of_ble_eq_true rfl) ?_
  have kTX := TXT_C I
  refine pv_aload_n (M := mX7_readPart) 0 dX7_readPart_0 1 rfl rfl rfl ?_
  refine mv_get (M := mX7_readPart) (v := .ref lb) dX7_readPart_1 FX7 1 wd281 (by decide) (tl86 hT) rfl R.2.2.2.1 4 rfl ?_
  refine pv_callv (M := mX7_readPart) (as := []) (st := []) (kc2 := 0) (ks2 := 0) dX7_readPart_4 wd666 YX6_steps ⟨wd667, wd668⟩ (mk_get R.2.2.2.2.2.2.1) rfl rfl (s_X6_steps_vz g hT I lb R.2.2.2.2.2) rfl rfl (Nat.le_of_ble_eq_true rfl) (by decide) rfl rfl 7 rfl (fun rv h1 q2 => ?_)
  obtain ⟨v3, rfl, rfl, pv3, qv3, rv3⟩ := q2
  replace rv3 : v3 = m lb 2 := rv3
  show PV _ _ _ _ _ _ _ 7 [.ref 86, .int 4, pv_U, pv_U] [.int v3] _
  have k7 : v3.toInt = (m lb 2).toInt := congrArg Int32.toInt rv3
  refine pv_istore_n (M := mX7_readPart) 2 (lo2 := [.ref 86, .int 4, .int v3, pv_U]) dX7_readPart_7 8 rfl rfl (by decide) rfl rfl ?_
  refine pv_iconst (M := mX7_readPart) (v := 0) dX7_readPart_8 9 rfl (by decide) ?_
  refine pv_istore_n (M := mX7_readPart) 3 (lo2 := [.ref 86, .int 4, .int v3, .int 0]) dX7_readPart_9 10 rfl rfl (by decide) rfl rfl ?_
  have lp11 : ∀ (fuel10 : Nat) (y5 : Int32) (m6 : Nat → Nat → Int32) (n7 : Nat → Nat → Int64), (0 ≤ y5.toInt) → (y5.toInt ≤ 160) → ((m6 86 3).toInt ≤ (m6 86 2).toInt) → ((m6 86 2).toInt = (m 86 2).toInt) → ((m6 lb 7).toInt = (m lb 7).toInt) → ((m 86 3).toInt + 2 * y5.toInt ≤ (m6 86 3).toInt) → (CN (tC m) 2 (m 86 3).toInt = CN (tC m) 2 (m6 86 3).toInt) → (PQZ (tC m) 2 lb m m6 (m 86 3).toInt (m6 86 3).toInt) → IV BB m6 → fr (wZ lb) m m6 → ((160 - y5.toInt) : Int).toNat < fuel10 → PV none g mX7_readPart (sqI T BB (wZ lb) r m 0 1 (fun m' v => (m 86 3).toInt ≤ (m' 86 3).toInt ∧ (m' 86 3).toInt ≤ (m' 86 2).toInt ∧ (m' 86 2).toInt = (m 86 2).toInt ∧ ((v.toInt = 0 ∨ (m 86 3).toInt + 1 ≤ (m' 86 3).toInt) ∧ TRX (CN (tC m) 2 (m 86 3).toInt) (LB (tC m) 2) (fun a => tC m a ≠ 38) v.toInt (m' 86 3).toInt (m' 86 4).toInt) ∧ (m' lb 7).toInt = (m lb 7).toInt ∧ IFZ v.toInt (PTZ (tC m) 2 lb m m' (m 86 3).toInt (m' 86 3).toInt))) 15 0 0 10 [.ref 86, .int 4, .int v3, .int y5] [] (mk T m6 n7 r) := by
    intro fuel10
    induction fuel10 with
    | zero => intro y5 m6 n7 b13 b14 b15 b16 b17 b18 b19 b20 I8 K9 z21; omega
    | succ fuel10 ih12 =>
      intro y5 m6 n7 b13 b14 b15 b16 b17 b18 b19 b20 I8 K9 z21
      have z22 : 0 ≤ (m6 86 3).toInt ∧ (m6 86 3).toInt ≤ 160 := I8 86 3
      have z23 : 0 ≤ (m6 86 2).toInt ∧ (m6 86 2).toInt ≤ 160 := I8 86 2
      have kgc := (show CN (tC m) 2 (m 86 3).toInt = CN (tC m) 2 (m6 86 3).toInt by assumption)
      have kt10 : tC m6 = tC m := tC_fz zR2 K9
      have kgz := (show PQZ (tC m) 2 lb m m6 (m 86 3).toInt (m6 86 3).toInt by assumption)
      have kgl := PQZ_b kgz
      refine pv_iload_n (M := mX7_readPart) 3 dX7_readPart_10 11 rfl rfl rfl ?_
      refine pv_sipush (M := mX7_readPart) (v := 160) dX7_readPart_11 14 rfl (by decide) ?_
      refine pv_icmp_ge (M := mX7_readPart) (tgt := 65) dX7_readPart_14 17 rfl (by decide) (fun c28 => ?_) (fun c28 => ?_)
      · have c28 := iv_le (X := 160) (Y := y5.toInt) c28 (by decide) rfl
        refine pv_aload_n (M := mX7_readPart) 0 dX7_readPart_65 66 rfl rfl rfl ?_
        refine mv_get (M := mX7_readPart) (v := .ref lb) dX7_readPart_66 FX7 1 wd281 (by decide) (tl86 hT) rfl R.2.2.2.1 69 rfl ?_
        refine pv_bipush (M := mX7_readPart) (v := 38) dX7_readPart_69 71 rfl (by decide) ?_
        refine pv_iload_n (M := mX7_readPart) 2 dX7_readPart_71 72 rfl rfl rfl ?_
        have z29 : (38 : Int32).toInt = 38 := by decide
        refine pv_callv (M := mX7_readPart) (as := [.int 38, .int v3]) (st := []) (kc2 := 0) (ks2 := 0) dX7_readPart_72 wd678 YX6_aimLeaps ⟨wd679, wd680⟩ (mk_get R.2.2.2.2.2.2.1) rfl rfl (s_X6_aimLeaps_vz g hT I8 lb R.2.2.2.2.2 38 v3 (by omega) (by omega)) rfl rfl (Nat.le_of_ble_eq_true rfl) (by decide) rfl rfl 75 rfl (fun rv h1 q30 => ?_)
        obtain ⟨m31, n32, rfl, rfl, I33, K34, rm31⟩ := q30
        replace rm31 : (m31 lb 7).toInt = (m6 lb 7).toInt ∧ AIMD lb m6 m31 (38 : Int) v3.toInt := by have q_ := rm31; (try rw [z29] at q_); exact q_
        have K34c := K34
        have w35 : (m31 86 3).toInt = (m6 86 3).toInt := congrArg Int32.toInt (K34 86 3 (wY_out (by omega) (by omega) (by omega)))
        have w36 : (m31 86 2).toInt = (m6 86 2).toInt := congrArg Int32.toInt (K34 86 2 (wY_out (by omega) (by omega) (by omega)))
        have w37 : (m31 86 4).toInt = (m6 86 4).toInt := congrArg Int32.toInt (K34 86 4 (wY_out (by omega) (by omega) (by omega)))
        have K34 := K9.trans (K34.sub (by first | exact wZ_wY | exact wZ_86))
        show PV _ _ _ _ _ _ _ 75 [.ref 86, .int 4, .int v3, .int y5] [] _
        have k75 := rm31.2
        refine pv_iconst (M := mX7_readPart) (v := 1) dX7_readPart_75 76 rfl (by decide) ?_
        have z39 : (1 : Int32).toInt = 1 := by decide
        exact pv_iret (M := mX7_readPart) dX7_readPart_76 rfl rfl ⟨_, _, _, rfl, rfl, I33, K34, by decide, by decide, ⟨by omega, by omega, by omega, (by first | exact ⟨Or.inr (by omega), Or.inl ⟨by decide, by rw [kgc, k27]; congr 1; omega, by show tC m (m31 86 3).toInt ≠ 38; rw [show (m31 86 3).toInt = (m6 86 3).toInt by omega, ← k31]; omega⟩⟩ | (exfalso; omega)), by omega, (by first | exact IFZ.is (by rw [show (m31 86 3).toInt = (m6 86 3).toInt by omega]; exact PRZ_e kzz k75 (by omega)) | exact IFZ.no (by omega))⟩⟩
      · have c28 := iv_nle (X := 160) (Y := y5.toInt) c28 (by decide) rfl
        refine pv_aload_n (M := mX7_readPart) 0 dX7_readPart_17 18 rfl rfl rfl ?_
        refine pv_iload_n (M := mX7_readPart) 1 dX7_readPart_18 19 rfl rfl rfl ?_
        have z40 : (4 : Int32).toInt = 4 := by decide
        refine pv_callv (M := mX7_readPart) (as := [.int 4]) (st := []) (kc2 := 0) (ks2 := 0) dX7_readPart_19 wd674 YX7_readPiece ⟨wd676, wd14⟩ (mk_get (tl86 hT)) rfl rfl (s_X7_readPiece_v4z g hT I8 R (by first | omega | assumption | exact (iv_rng _).2 | exact (iv_rng _).1 | decide) (TBC_eq hp1 kt10) (by first | omega | assumption | exact (iv_rng _).2 | exact (iv_rng _).1 | decide)) rfl rfl (Nat.le_of_ble_eq_true rfl) (by decide) rfl rfl 22 rfl (fun rv h1 q41 => ?_)
        obtain ⟨m42, n43, v46, rfl, rfl, I44, K45, pv46, qv46, rv46⟩ := q41
        replace rv46 : (m6 86 3).toInt ≤ (m42 86 3).toInt ∧ (m42 86 3).toInt ≤ (m42 86 2).toInt ∧ (m42 86 2).toInt = (m6 86 2).toInt ∧ (RSX (PI (tC m6) 2 (m6 86 3).toInt) v46.toInt (m42 86 3).toInt (m42 86 4).toInt) ∧ (m42 lb 7).toInt = (m6 lb 7).toInt ∧ IFZ v46.toInt (CDS lb m6 m42 8 (PID (tC m6) 2 (m6 86 3).toInt) ((m42 86 3).toInt - (m6 86 3).toInt)) := by have q_ := rv46; (try rw [z40] at q_); exact q_
        have K45c := K45
        have K45 := K9.trans (K45.sub (fun _ _ q => q))
        show PV _ _ _ _ _ _ _ 22 [.ref 86, .int 4, .int v3, .int y5] [.int v46] _
        have k22 := rv46.2.2.2.1
        rw [kt10] at k22
        have k22z := rv46.2.2.2.2.2
        rw [kt10] at k22z
        refine pv_if_ne (M := mX7_readPart) (tgt := 27) dX7_readPart_22 25 rfl (by decide) (fun c51 => ?_) (fun c51 => ?_)
        · have c51 := iv_ne (X := v46.toInt) (Y := 0) c51 rfl (by decide)
          have k27o := RSX_ok k22 (by omega)
          have k27 := CN_ok k27o
          have k27p := PI_le 2 (m6 86 3).toInt (by rw [k27o])
          rw [k27o] at k27p
          have kt27 : tC m42 = tC m := tC_fz zR2 K45
          have kzz : PRZ (tC m) 2 lb m m42 (m 86 3).toInt (m42 86 3).toInt := PQZ_p kgz k27o (IFZ.get k22z (by omega))
          have kzb := PRZ_b kzz
          refine pv_aload_n (M := mX7_readPart) 0 dX7_readPart_27 28 rfl rfl rfl ?_
          refine pv_callv (M := mX7_readPart) (as := []) (st := []) (kc2 := 0) (ks2 := 0) dX7_readPart_28 wd527 YX7_peek ⟨wd529, wd2⟩ (mk_get (tl86 hT)) rfl rfl (s_X7_peek_vx g hT I44 R) rfl rfl (Nat.le_of_ble_eq_true rfl) (by decide) rfl rfl 31 rfl (fun rv h1 q59 => ?_)
          obtain ⟨v60, rfl, rfl, pv60, qv60, rv60⟩ := q59
          replace rv60 : v60.toInt = tC m42 (m42 86 3).toInt ∧ (v60.toInt = -1 ∨ (m42 86 3).toInt < (m42 86 2).toInt) := rv60
          show PV _ _ _ _ _ _ _ 31 [.ref 86, .int 4, .int v3, .int y5] [.int v60] _
          have k31 := rv60.1
          have k31b := rv60.2
          rw [kt27] at k31
          refine pv_bipush (M := mX7_readPart) (v := 38) dX7_readPart_31 33 rfl (by decide) ?_
          refine pv_icmp_eq (M := mX7_readPart) (tgt := 39) dX7_readPart_33 36 rfl (by decide) (fun c64 => ?_) (fun c64 => ?_)
          · have c64 := iv_eq (X := v60.toInt) (Y := 38) c64 rfl (by decide)
            have kB : isB (tC m (m42 86 3).toInt) = true := isB_y (by omega)
            refine pv_aload_n (M := mX7_readPart) 0 dX7_readPart_39 40 rfl rfl rfl ?_
            refine mv_get (M := mX7_readPart) (v := .ref lb) dX7_readPart_40 FX7 1 wd281 (by decide) (tl86 hT) rfl R.2.2.2.1 43 rfl ?_
            refine pv_bipush (M := mX7_readPart) (v := 38) dX7_readPart_43 45 rfl (by decide) ?_
            refine pv_iconst (M := mX7_readPart) (v := (-1)) dX7_readPart_45 46 rfl (by decide) ?_
            have z66 : (38 : Int32).toInt = 38 := by decide
            have z67 : ((-1) : Int32).toInt = (-1) := by decide
            refine pv_callv (M := mX7_readPart) (as := [.int 38, .int (-1)]) (st := []) (kc2 := 0) (ks2 := 0) dX7_readPart_46 wd567 YX6_emit ⟨wd568, wd569⟩ (mk_get R.2.2.2.2.2.2.1) rfl rfl (s_X6_emit_vz g hT I44 lb R.2.2.2.2.2 38 (-1) (by decide) (by decide)) rfl rfl (Nat.le_of_ble_eq_true rfl) (by decide) rfl rfl 49 rfl (fun rv h1 q68 => ?_)
            obtain ⟨m69, n70, rfl, rfl, I71, K72, rm69⟩ := q68
            replace rm69 : (m69 lb 7).toInt = (m42 lb 7).toInt ∧ ((m42 lb 2).toInt < 160 → EMT lb m42 m69 (38 : Int) ((-1) : Int32)) := by have q_ := rm69; (try rw [z66] at q_); (try rw [z67] at q_); exact q_
            have K72c := K72
            have w73 : (m69 86 3).toInt = (m42 86 3).toInt := congrArg Int32.toInt (K72 86 3 (wY_out (by omega) (by omega) (by omega)))
            have w74 : (m69 86 2).toInt = (m42 86 2).toInt := congrArg Int32.toInt (K72 86 2 (wY_out (by omega) (by omega) (by omega)))
            have w75 : (m69 86 4).toInt = (m42 86 4).toInt := congrArg Int32.toInt (K72 86 4 (wY_out (by omega) (by omega) (by omega)))
            have K72 := K45.trans (K72.sub (by first | exact wZ_wY | exact wZ_86))
            show PV _ _ _ _ _ _ _ 49 [.ref 86, .int 4, .int v3, .int y5] [] _
            have k49 := rm69.2 (by omega)
            refine pv_aload_n (M := mX7_readPart) 0 dX7_readPart_49 50 rfl rfl rfl ?_
            refine pv_dup (M := mX7_readPart) dX7_readPart_50 51 rfl rfl ?_
            refine iv_get (M := mX7_readPart) (l1 := 0) (l2 := 160) dX7_readPart_51 FX7 3 wd283 (by decide) (tl86 hT) rfl I71 rfl 54 rfl (fun v77 ev77 pv77 qv77 => ?_)
            have wv77 : v77.toInt = (m69 86 3).toInt := congrArg Int32.toInt ev77
            refine pv_iconst (M := mX7_readPart) (v := 1) dX7_readPart_54 55 rfl (by decide) ?_
            refine iv_iadd (M := mX7_readPart) (X := v77.toInt) (Y := 1) dX7_readPart_55 56 rfl rfl (by decide) (by omega) (by omega) (fun v78 ev78 => ?_)
            refine iv_put (M := mX7_readPart) (l1 := 0) (l2 := 160) dX7_readPart_56 FX7 3 wd283 (by decide) rfl (tl86 hT) rfl rfl rfl I71 rfl (by omega) (by omega) 59 rfl (fun m79 e82 I80 => ?_)
            have K81 := K72.set e82 (by first | rfl | decide)
            have w83 : (m79 86 3).toInt = v78.toInt := by rw [e82, up2_eq]
            have w84 : (m79 86 2).toInt = (m69 86 2).toInt := by rw [e82, up2_ne (by omega)]
            have w85 : (m79 86 4).toInt = (m69 86 4).toInt := by rw [e82, up2_ne (by omega)]
            have w86 : (m79 lb 7).toInt = (m69 lb 7).toInt := by rw [e82, up2_ne (by omega)]
            have w87 : (m79 lb 2).toInt = (m69 lb 2).toInt := by rw [e82, up2_ne (by omega)]
            refine iv_inc (M := mX7_readPart) (C := 1) dX7_readPart_59 62 rfl rfl (by decide) rfl rfl (by decide) (by omega) (by omega) (fun v88 ev88 => ?_)
            show PV _ _ _ _ _ _ _ 62 [.ref 86, .int 4, .int v3, .int v88] [] _
            refine pv_goto (M := mX7_readPart) (tgt := 10) dX7_readPart_62 (by decide) ?_
            have kbc : CN (tC m) 2 (m 86 3).toInt = CN (tC m) 2 (m79 86 3).toInt := by rw [kgc, k27, LB_cn kTX (by omega) kB]; congr 1; omega
            have kbz : PQZ (tC m) 2 lb m m79 (m 86 3).toInt (m79 86 3).toInt := PRZ_l kzz kTX (by omega) (show tC m (m42 86 3).toInt = 38 by omega) k49 (by decide) (SAML.set zR2 e82) (by omega)
            exact ih12 v88 m79 n70 (by first | omega | assumption | exact (iv_rng _).2 | exact (iv_rng _).1 | decide) (by first | omega | assumption | exact (iv_rng _).2 | exact (iv_rng _).1 | decide) (by first | omega | assumption | (show (m79 86 3).toInt ≤ (m79 86 2).toInt; omega) | decide) (by first | omega | assumption | (show (m79 86 2).toInt = (m 86 2).toInt; omega) | decide) (by first | omega | assumption | (show (m79 lb 7).toInt = (m lb 7).toInt; omega) | decide) (by first | omega | assumption | (show (m 86 3).toInt + 2 * v88.toInt ≤ (m79 86 3).toInt; omega) | decide) kbc kbz I80 K81 (by omega)
          · have c64 := iv_ne (X := v60.toInt) (Y := 38) c64 rfl (by decide)
            refine pv_goto (M := mX7_readPart) (tgt := 65) dX7_readPart_36 (by decide) ?_
            refine pv_aload_n (M := mX7_readPart) 0 dX7_readPart_65 66 rfl rfl rfl ?_
            refine mv_get (M := mX7_readPart) (v := .ref lb) dX7_readPart_66 FX7 1 wd281 (by decide) (tl86 hT) rfl R.2.2.2.1 69 rfl ?_
            refine pv_bipush (M := mX7_readPart) (v := 38) dX7_readPart_69 71 rfl (by decide) ?_
            refine pv_iload_n (M := mX7_readPart) 2 dX7_readPart_71 72 rfl rfl rfl ?_
            have z91 : (38 : Int32).toInt = 38 := by decide
            refine pv_callv (M := mX7_readPart) (as := [.int 38, .int v3]) (st := []) (kc2 := 0) (ks2 := 0) dX7_readPart_72 wd678 YX6_aimLeaps ⟨wd679, wd680⟩ (mk_get R.2.2.2.2.2.2.1) rfl rfl (s_X6_aimLeaps_vz g hT I44 lb R.2.2.2.2.2 38 v3 (by omega) (by omega)) rfl rfl (Nat.le_of_ble_eq_true rfl) (by decide) rfl rfl 75 rfl (fun rv h1 q92 => ?_)
            obtain ⟨m93, n94, rfl, rfl, I95, K96, rm93⟩ := q92
            replace rm93 : (m93 lb 7).toInt = (m42 lb 7).toInt ∧ AIMD lb m42 m93 (38 : Int) v3.toInt := by have q_ := rm93; (try rw [z91] at q_); exact q_
            have K96c := K96
            have w97 : (m93 86 3).toInt = (m42 86 3).toInt := congrArg Int32.toInt (K96 86 3 (wY_out (by omega) (by omega) (by omega)))
            have w98 : (m93 86 2).toInt = (m42 86 2).toInt := congrArg Int32.toInt (K96 86 2 (wY_out (by omega) (by omega) (by omega)))
            have w99 : (m93 86 4).toInt = (m42 86 4).toInt := congrArg Int32.toInt (K96 86 4 (wY_out (by omega) (by omega) (by omega)))
            have K96 := K45.trans (K96.sub (by first | exact wZ_wY | exact wZ_86))
            show PV _ _ _ _ _ _ _ 75 [.ref 86, .int 4, .int v3, .int y5] [] _
            have k75 := rm93.2
            refine pv_iconst (M := mX7_readPart) (v := 1) dX7_readPart_75 76 rfl (by decide) ?_
            have z101 : (1 : Int32).toInt = 1 := by decide
            exact pv_iret (M := mX7_readPart) dX7_readPart_76 rfl rfl ⟨_, _, _, rfl, rfl, I95, K96, by decide, by decide, ⟨by omega, by omega, by omega, (by first | exact ⟨Or.inr (by omega), Or.inl ⟨by decide, by rw [kgc, k27]; congr 1; omega, by show tC m (m93 86 3).toInt ≠ 38; rw [show (m93 86 3).toInt = (m42 86 3).toInt by omega, ← k31]; omega⟩⟩ | (exfalso; omega)), by omega, (by first | exact IFZ.is (by rw [show (m93 86 3).toInt = (m42 86 3).toInt by omega]; exact PRZ_e kzz k75 (by omega)) | exact IFZ.no (by omega))⟩⟩
        · have c51 := iv_eq (X := v46.toInt) (Y := 0) c51 rfl (by decide)
          refine pv_iconst (M := mX7_readPart) (v := 0) dX7_readPart_25 26 rfl (by decide) ?_
          have z102 : (0 : Int32).toInt = 0 := by decide
          exact pv_iret (M := mX7_readPart) dX7_readPart_26 rfl rfl ⟨_, _, _, rfl, rfl, I44, K45, by decide, by decide, ⟨by omega, by omega, by omega, ⟨Or.inl (by decide), Or.inr ⟨by decide, by rw [kgc]; exact CN_fl (RSX_fl k22 (by omega))⟩⟩, by omega, IFZ.no (by first | decide | omega)⟩⟩
  have z103 : (0 : Int32).toInt = 0 := by decide
  exact lp11 (((160 - 0) : Int).toNat + 1) 0 m n (by first | omega | assumption | exact (iv_rng _).2 | exact (iv_rng _).1 | decide) (by first | omega | assumption | exact (iv_rng _).2 | exact (iv_rng _).1 | decide) (by first | omega | assumption | (show (m 86 3).toInt ≤ (m 86 2).toInt; omega) | decide) (by first | omega | assumption | (show (m 86 2).toInt = (m 86 2).toInt; omega) | decide) (by first | omega | assumption | (show (m lb 7).toInt = (m lb 7).toInt; omega) | decide) (by first | omega | assumption | (show (m 86 3).toInt + 2 * 0 ≤ (m 86 3).toInt; omega) | decide) rfl (PQZ_0 (by omega)) I Kp (by omega)

set_option maxHeartbeats 2000000 in
set_option maxRecDepth 20000 in
theorem s_X7_readCondition_v4z (g : pv_G) {T : List mv_T} {m : Nat → Nat → Int32} {n : Nat → Nat → Int64} {r : Nat → Value} {la lb : Nat} (hT : TX T) (I : IV BB m) (R : RX T r la lb) (hp0 : (m 86 3).toInt ≤ (m 86 2).toInt) (hp1 : TBC m) (hp2 : (m lb 2).toInt ≤ (m 86 3).toInt) : PM g mX7_readCondition yX7_readCondition (sqI T BB (wZ lb) r m 0 1 (fun m' v => (m 86 3).toInt ≤ (m' 86 3).toInt ∧ (m' 86 3).toInt ≤ (m' 86 2).toInt ∧ (m' 86 2).toInt = (m 86 2).toInt ∧ (RSX (CN (tC m) 2 (m 86 3).toInt) v.toInt (m' 86 3).toInt (m' 86 4).toInt) ∧ (m' lb 7).toInt = (m lb 7).toInt ∧ IFZ v.toInt (CDS lb m m' 8 (CND_ (tC m) 2 (m 86 3).toInt) ((m' 86 3).toInt - (m 86 3).toInt)))) 16 0 0 [.ref 86, .int 4] (mk T m n r) := by
  have Kp : fr (wZ lb) m m := fr.rf
  have R0 := R
  have zR := R.2.2.2.2.1.1
  have zR2 := R.2.2.2.2.2.1
  have z103 : 0 ≤ (m 86 3).toInt ∧ (m 86 3).toInt ≤ 160 := I 86 3
  have z104 : 0 ≤ (m 86 2).toInt ∧ (m 86 2).toInt ≤ 160 := I 86 2
  refine PM.of 2 (lo := [.ref 86, .int 4, pv_U, pv_U]) rfl (by decide) rfl rfl (Nat.le_of_ble_eq_true rfl) ?_
  have kTX := TXT_C I
  refine pv_aload_n (M := mX7_readCondition) 0 dX7_readCondition_0 1 rfl rfl rfl ?_
  refine mv_get (M := mX7_readCondition) (v := .ref lb) dX7_readCondition_1 FX7 1 wd281 (by decide) (tl86 hT) rfl R.2.2.2.1 4 rfl ?_
  refine pv_callv (M := mX7_readCondition) (as := []) (st := []) (kc2 := 0) (ks2 := 0) dX7_readCondition_4 wd666 YX6_steps ⟨wd667, wd668⟩ (mk_get R.2.2.2.2.2.2.1) rfl rfl (s_X6_steps_vz g hT I lb R.2.2.2.2.2) rfl rfl (Nat.le_of_ble_eq_true rfl) (by decide) rfl rfl 7 rfl (fun rv h1 q2 => ?_)
  obtain ⟨v3, rfl, rfl, pv3, qv3, rv3⟩ := q2
  replace rv3 : v3 = m lb 2 := rv3
  show PV _ _ _ _ _ _ _ 7 [.ref 86, .int 4, pv_U, pv_U] [.int v3] _
  have k7 : v3.toInt = (m lb 2).toInt := congrArg Int32.toInt rv3
  refine pv_istore_n (M := mX7_readCondition) 2 (lo2 := [.ref 86, .int 4, .int v3, pv_U]) dX7_readCondition_7 8 rfl rfl (by decide) rfl rfl ?_
  refine pv_iconst (M := mX7_readCondition) (v := 0) dX7_readCondition_8 9 rfl (by decide) ?_
  refine pv_istore_n (M := mX7_readCondition) 3 (lo2 := [.ref 86, .int 4, .int v3, .int 0]) dX7_readCondition_9 10 rfl rfl (by decide) rfl rfl ?_
  have lp11 : ∀ (fuel10 : Nat) (y5 : Int32) (m6 : Nat → Nat → Int32) (n7 : Nat → Nat → Int64), (0 ≤ y5.toInt) → (y5.toInt ≤ 160) → ((m6 86 3).toInt ≤ (m6 86 2).toInt) → ((m6 86 2).toInt = (m 86 2).toInt) → ((m6 lb 7).toInt = (m lb 7).toInt) → ((m 86 3).toInt + 2 * y5.toInt ≤ (m6 86 3).toInt) → (CN (tC m) 2 (m 86 3).toInt = CN (tC m) 2 (m6 86 3).toInt) → (CQZ (tC m) 2 lb m m6 (m 86 3).toInt (m6 86 3).toInt) → IV BB m6 → fr (wZ lb) m m6 → ((160 - y5.toInt) : Int).toNat < fuel10 → PV none g mX7_readCondition (sqI T BB (wZ lb) r m 0 1 (fun m' v => (m 86 3).toInt ≤ (m' 86 3).toInt ∧ (m' 86 3).toInt ≤ (m' 86 2).toInt ∧ (m' 86 2).toInt = (m 86 2).toInt ∧ (RSX (CN (tC m) 2 (m 86 3).toInt) v.toInt (m' 86 3).toInt (m' 86 4).toInt) ∧ (m' lb 7).toInt = (m lb 7).toInt ∧ IFZ v.toInt (CDS lb m m' 8 (CND_ (tC m) 2 (m 86 3).toInt) ((m' 86 3).toInt - (m 86 3).toInt)))) 16 0 0 10 [.ref 86, .int 4, .int v3, .int y5] [] (mk T m6 n7 r) := by
    intro fuel10
    induction fuel10 with
    | zero => intro y5 m6 n7 b13 b14 b15 b16 b17 b18 b19 b20 I8 K9 z21; omega
    | succ fuel10 ih12 =>
      intro y5 m6 n7 b13 b14 b15 b16 b17 b18 b19 b20 I8 K9 z21
      have z22 : 0 ≤ (m6 86 3).toInt ∧ (m6 86 3).toInt ≤ 160 := I8 86 3
      have z23 : 0 ≤ (m6 86 2).toInt ∧ (m6 86 2).toInt ≤ 160 := I8 86 2
      have kgc := (show CN (tC m) 2 (m 86 3).toInt = CN (tC m) 2 (m6 86 3).toInt by assumption)
      have kt10 : tC m6 = tC m := tC_fz zR2 K9
      have kgz := (show CQZ (tC m) 2 lb m m6 (m 86 3).toInt (m6 86 3).toInt by assumption)
      have kgl := CQZ_b kgz
      refine pv_iload_n (M := mX7_readCondition) 3 dX7_readCondition_10 11 rfl rfl rfl ?_
      refine pv_sipush (M := mX7_readCondition) (v := 160) dX7_readCondition_11 14 rfl (by decide) ?_
      refine pv_icmp_ge (M := mX7_readCondition) (tgt := 65) dX7_readCondition_14 17 rfl (by decide) (fun c28 => ?_) (fun c28 => ?_)
      · have c28 := iv_le (X := 160) (Y := y5.toInt) c28 (by decide) rfl
        refine pv_aload_n (M := mX7_readCondition) 0 dX7_readCondition_65 66 rfl rfl rfl ?_
        refine mv_get (M := mX7_readCondition) (v := .ref lb) dX7_readCondition_66 FX7 1 wd281 (by decide) (tl86 hT) rfl R.2.2.2.1 69 rfl ?_
        refine pv_bipush (M := mX7_readCondition) (v := 124) dX7_readCondition_69 71 rfl (by decide) ?_
        refine pv_iload_n (M := mX7_readCondition) 2 dX7_readCondition_71 72 rfl rfl rfl ?_
        have z29 : (124 : Int32).toInt = 124 := by decide
        refine pv_callv (M := mX7_readCondition) (as := [.int 124, .int v3]) (st := []) (kc2 := 0) (ks2 := 0) dX7_readCondition_72 wd678 YX6_aimLeaps ⟨wd679, wd680⟩ (mk_get R.2.2.2.2.2.2.1) rfl rfl (s_X6_aimLeaps_vz g hT I8 lb R.2.2.2.2.2 124 v3 (by omega) (by omega)) rfl rfl (Nat.le_of_ble_eq_true rfl) (by decide) rfl rfl 75 rfl (fun rv h1 q30 => ?_)
        obtain ⟨m31, n32, rfl, rfl, I33, K34, rm31⟩ := q30
        replace rm31 : (m31 lb 7).toInt = (m6 lb 7).toInt ∧ AIMD lb m6 m31 (124 : Int) v3.toInt := by have q_ := rm31; (try rw [z29] at q_); exact q_
        have K34c := K34
        have w35 : (m31 86 3).toInt = (m6 86 3).toInt := congrArg Int32.toInt (K34 86 3 (wY_out (by omega) (by omega) (by omega)))
        have w36 : (m31 86 2).toInt = (m6 86 2).toInt := congrArg Int32.toInt (K34 86 2 (wY_out (by omega) (by omega) (by omega)))
        have w37 : (m31 86 4).toInt = (m6 86 4).toInt := congrArg Int32.toInt (K34 86 4 (wY_out (by omega) (by omega) (by omega)))
        have K34 := K9.trans (K34.sub (by first | exact wZ_wY | exact wZ_86))
        show PV _ _ _ _ _ _ _ 75 [.ref 86, .int 4, .int v3, .int y5] [] _
        have k75 := rm31.2
        refine pv_iconst (M := mX7_readCondition) (v := 1) dX7_readCondition_75 76 rfl (by decide) ?_
        have z39 : (1 : Int32).toInt = 1 := by decide
        exact pv_iret (M := mX7_readCondition) dX7_readCondition_76 rfl rfl ⟨_, _, _, rfl, rfl, I33, K34, by decide, by decide, ⟨by omega, by omega, by omega, (by first | exact Or.inl ⟨by decide, by rw [kgc, k27, LB_no (isB_no k27n (by rw [← k31]; omega))]; congr 1; omega⟩ | (exfalso; omega)), by omega, (by first | exact IFZ.is (by rw [show (m31 86 3).toInt = (m6 86 3).toInt by omega]; exact CRZ_e kzz (isB_no k27n (by rw [← k31]; omega)) k75 (by omega)) | exact IFZ.no (by omega))⟩⟩
      · have c28 := iv_nle (X := 160) (Y := y5.toInt) c28 (by decide) rfl
        refine pv_aload_n (M := mX7_readCondition) 0 dX7_readCondition_17 18 rfl rfl rfl ?_
        refine pv_iload_n (M := mX7_readCondition) 1 dX7_readCondition_18 19 rfl rfl rfl ?_
        have z40 : (4 : Int32).toInt = 4 := by decide
        refine pv_callv (M := mX7_readCondition) (as := [.int 4]) (st := []) (kc2 := 0) (ks2 := 0) dX7_readCondition_19 wd670 YX7_readPart ⟨wd672, wd13⟩ (mk_get (tl86 hT)) rfl rfl (s_X7_readPart_v4z g hT I8 R (by first | omega | assumption | exact (iv_rng _).2 | exact (iv_rng _).1 | decide) (TBC_eq hp1 kt10) (by first | omega | assumption | exact (iv_rng _).2 | exact (iv_rng _).1 | decide)) rfl rfl (Nat.le_of_ble_eq_true rfl) (by decide) rfl rfl 22 rfl (fun rv h1 q41 => ?_)
        obtain ⟨m42, n43, v46, rfl, rfl, I44, K45, pv46, qv46, rv46⟩ := q41
        replace rv46 : (m6 86 3).toInt ≤ (m42 86 3).toInt ∧ (m42 86 3).toInt ≤ (m42 86 2).toInt ∧ (m42 86 2).toInt = (m6 86 2).toInt ∧ ((v46.toInt = 0 ∨ (m6 86 3).toInt + 1 ≤ (m42 86 3).toInt) ∧ TRX (CN (tC m6) 2 (m6 86 3).toInt) (LB (tC m6) 2) (fun a => tC m6 a ≠ 38) v46.toInt (m42 86 3).toInt (m42 86 4).toInt) ∧ (m42 lb 7).toInt = (m6 lb 7).toInt ∧ IFZ v46.toInt (PTZ (tC m6) 2 lb m6 m42 (m6 86 3).toInt (m42 86 3).toInt) := by have q_ := rv46; (try rw [z40] at q_); exact q_
        have K45c := K45
        have K45 := K9.trans (K45.sub (fun _ _ q => q))
        show PV _ _ _ _ _ _ _ 22 [.ref 86, .int 4, .int v3, .int y5] [.int v46] _
        have k22 := rv46.2.2.2.1.2
        have k22p := rv46.2.2.2.1.1
        rw [kt10] at k22
        have k22z := rv46.2.2.2.2.2
        rw [kt10] at k22z
        refine pv_if_ne (M := mX7_readCondition) (tgt := 27) dX7_readCondition_22 25 rfl (by decide) (fun c52 => ?_) (fun c52 => ?_)
        · have c52 := iv_ne (X := v46.toInt) (Y := 0) c52 rfl (by decide)
          have k27 := (TRX_ok k22 (by omega)).1
          have k27n := (TRX_ok k22 (by omega)).2
          have kt27 : tC m42 = tC m := tC_fz zR2 K45
          have kzz : CRZ (tC m) 2 lb m m42 (m 86 3).toInt (m42 86 3).toInt := CQZ_p kgz (IFZ.get k22z (by omega))
          have kzb := CRZ_b kzz
          refine pv_aload_n (M := mX7_readCondition) 0 dX7_readCondition_27 28 rfl rfl rfl ?_
          refine pv_callv (M := mX7_readCondition) (as := []) (st := []) (kc2 := 0) (ks2 := 0) dX7_readCondition_28 wd527 YX7_peek ⟨wd529, wd2⟩ (mk_get (tl86 hT)) rfl rfl (s_X7_peek_vx g hT I44 R) rfl rfl (Nat.le_of_ble_eq_true rfl) (by decide) rfl rfl 31 rfl (fun rv h1 q58 => ?_)
          obtain ⟨v59, rfl, rfl, pv59, qv59, rv59⟩ := q58
          replace rv59 : v59.toInt = tC m42 (m42 86 3).toInt ∧ (v59.toInt = -1 ∨ (m42 86 3).toInt < (m42 86 2).toInt) := rv59
          show PV _ _ _ _ _ _ _ 31 [.ref 86, .int 4, .int v3, .int y5] [.int v59] _
          have k31 := rv59.1
          have k31b := rv59.2
          rw [kt27] at k31
          refine pv_bipush (M := mX7_readCondition) (v := 124) dX7_readCondition_31 33 rfl (by decide) ?_
          refine pv_icmp_eq (M := mX7_readCondition) (tgt := 39) dX7_readCondition_33 36 rfl (by decide) (fun c63 => ?_) (fun c63 => ?_)
          · have c63 := iv_eq (X := v59.toInt) (Y := 124) c63 rfl (by decide)
            have kB : isB (tC m (m42 86 3).toInt) = true := isB_y (by omega)
            refine pv_aload_n (M := mX7_readCondition) 0 dX7_readCondition_39 40 rfl rfl rfl ?_
            refine mv_get (M := mX7_readCondition) (v := .ref lb) dX7_readCondition_40 FX7 1 wd281 (by decide) (tl86 hT) rfl R.2.2.2.1 43 rfl ?_
            refine pv_bipush (M := mX7_readCondition) (v := 124) dX7_readCondition_43 45 rfl (by decide) ?_
            refine pv_iconst (M := mX7_readCondition) (v := (-1)) dX7_readCondition_45 46 rfl (by decide) ?_
            have z65 : (124 : Int32).toInt = 124 := by decide
            have z66 : ((-1) : Int32).toInt = (-1) := by decide
            refine pv_callv (M := mX7_readCondition) (as := [.int 124, .int (-1)]) (st := []) (kc2 := 0) (ks2 := 0) dX7_readCondition_46 wd567 YX6_emit ⟨wd568, wd569⟩ (mk_get R.2.2.2.2.2.2.1) rfl rfl (s_X6_emit_vz g hT I44 lb R.2.2.2.2.2 124 (-1) (by decide) (by decide)) rfl rfl (Nat.le_of_ble_eq_true rfl) (by decide) rfl rfl 49 rfl (fun rv h1 q67 => ?_)
            obtain ⟨m68, n69, rfl, rfl, I70, K71, rm68⟩ := q67
            replace rm68 : (m68 lb 7).toInt = (m42 lb 7).toInt ∧ ((m42 lb 2).toInt < 160 → EMT lb m42 m68 (124 : Int) ((-1) : Int32)) := by have q_ := rm68; (try rw [z65] at q_); (try rw [z66] at q_); exact q_
            have K71c := K71
            have w72 : (m68 86 3).toInt = (m42 86 3).toInt := congrArg Int32.toInt (K71 86 3 (wY_out (by omega) (by omega) (by omega)))
            have w73 : (m68 86 2).toInt = (m42 86 2).toInt := congrArg Int32.toInt (K71 86 2 (wY_out (by omega) (by omega) (by omega)))
            have w74 : (m68 86 4).toInt = (m42 86 4).toInt := congrArg Int32.toInt (K71 86 4 (wY_out (by omega) (by omega) (by omega)))
            have K71 := K45.trans (K71.sub (by first | exact wZ_wY | exact wZ_86))
            show PV _ _ _ _ _ _ _ 49 [.ref 86, .int 4, .int v3, .int y5] [] _
            have k49 := rm68.2 (by omega)
            refine pv_aload_n (M := mX7_readCondition) 0 dX7_readCondition_49 50 rfl rfl rfl ?_
            refine pv_dup (M := mX7_readCondition) dX7_readCondition_50 51 rfl rfl ?_
            refine iv_get (M := mX7_readCondition) (l1 := 0) (l2 := 160) dX7_readCondition_51 FX7 3 wd283 (by decide) (tl86 hT) rfl I70 rfl 54 rfl (fun v76 ev76 pv76 qv76 => ?_)
            have wv76 : v76.toInt = (m68 86 3).toInt := congrArg Int32.toInt ev76
            refine pv_iconst (M := mX7_readCondition) (v := 1) dX7_readCondition_54 55 rfl (by decide) ?_
            refine iv_iadd (M := mX7_readCondition) (X := v76.toInt) (Y := 1) dX7_readCondition_55 56 rfl rfl (by decide) (by omega) (by omega) (fun v77 ev77 => ?_)
            refine iv_put (M := mX7_readCondition) (l1 := 0) (l2 := 160) dX7_readCondition_56 FX7 3 wd283 (by decide) rfl (tl86 hT) rfl rfl rfl I70 rfl (by omega) (by omega) 59 rfl (fun m78 e81 I79 => ?_)
            have K80 := K71.set e81 (by first | rfl | decide)
            have w82 : (m78 86 3).toInt = v77.toInt := by rw [e81, up2_eq]
            have w83 : (m78 86 2).toInt = (m68 86 2).toInt := by rw [e81, up2_ne (by omega)]
            have w84 : (m78 86 4).toInt = (m68 86 4).toInt := by rw [e81, up2_ne (by omega)]
            have w85 : (m78 lb 7).toInt = (m68 lb 7).toInt := by rw [e81, up2_ne (by omega)]
            have w86 : (m78 lb 2).toInt = (m68 lb 2).toInt := by rw [e81, up2_ne (by omega)]
            refine iv_inc (M := mX7_readCondition) (C := 1) dX7_readCondition_59 62 rfl rfl (by decide) rfl rfl (by decide) (by omega) (by omega) (fun v87 ev87 => ?_)
            show PV _ _ _ _ _ _ _ 62 [.ref 86, .int 4, .int v3, .int v87] [] _
            refine pv_goto (M := mX7_readCondition) (tgt := 10) dX7_readCondition_62 (by decide) ?_
            have kbc : CN (tC m) 2 (m 86 3).toInt = CN (tC m) 2 (m78 86 3).toInt := by rw [kgc, k27, LB_cn kTX (by omega) kB]; congr 1; omega
            have kbz : CQZ (tC m) 2 lb m m78 (m 86 3).toInt (m78 86 3).toInt := CRZ_l kzz kTX (by omega) (show tC m (m42 86 3).toInt = 124 by omega) k49 (by decide) (SAML.set zR2 e81) (by omega)
            exact ih12 v87 m78 n69 (by first | omega | assumption | exact (iv_rng _).2 | exact (iv_rng _).1 | decide) (by first | omega | assumption | exact (iv_rng _).2 | exact (iv_rng _).1 | decide) (by first | omega | assumption | (show (m78 86 3).toInt ≤ (m78 86 2).toInt; omega) | decide) (by first | omega | assumption | (show (m78 86 2).toInt = (m 86 2).toInt; omega) | decide) (by first | omega | assumption | (show (m78 lb 7).toInt = (m lb 7).toInt; omega) | decide) (by first | omega | assumption | (show (m 86 3).toInt + 2 * v87.toInt ≤ (m78 86 3).toInt; omega) | decide) kbc kbz I79 K80 (by omega)
          · have c63 := iv_ne (X := v59.toInt) (Y := 124) c63 rfl (by decide)
            refine pv_goto (M := mX7_readCondition) (tgt := 65) dX7_readCondition_36 (by decide) ?_
            refine pv_aload_n (M := mX7_readCondition) 0 dX7_readCondition_65 66 rfl rfl rfl ?_
            refine mv_get (M := mX7_readCondition) (v := .ref lb) dX7_readCondition_66 FX7 1 wd281 (by decide) (tl86 hT) rfl R.2.2.2.1 69 rfl ?_
            refine pv_bipush (M := mX7_readCondition) (v := 124) dX7_readCondition_69 71 rfl (by decide) ?_
            refine pv_iload_n (M := mX7_readCondition) 2 dX7_readCondition_71 72 rfl rfl rfl ?_
            have z90 : (124 : Int32).toInt = 124 := by decide
            refine pv_callv (M := mX7_readCondition) (as := [.int 124, .int v3]) (st := []) (kc2 := 0) (ks2 := 0) dX7_readCondition_72 wd678 YX6_aimLeaps ⟨wd679, wd680⟩ (mk_get R.2.2.2.2.2.2.1) rfl rfl (s_X6_aimLeaps_vz g hT I44 lb R.2.2.2.2.2 124 v3 (by omega) (by omega)) rfl rfl (Nat.le_of_ble_eq_true rfl) (by decide) rfl rfl 75 rfl (fun rv h1 q91 => ?_)
            obtain ⟨m92, n93, rfl, rfl, I94, K95, rm92⟩ := q91
            replace rm92 : (m92 lb 7).toInt = (m42 lb 7).toInt ∧ AIMD lb m42 m92 (124 : Int) v3.toInt := by have q_ := rm92; (try rw [z90] at q_); exact q_
            have K95c := K95
            have w96 : (m92 86 3).toInt = (m42 86 3).toInt := congrArg Int32.toInt (K95 86 3 (wY_out (by omega) (by omega) (by omega)))
            have w97 : (m92 86 2).toInt = (m42 86 2).toInt := congrArg Int32.toInt (K95 86 2 (wY_out (by omega) (by omega) (by omega)))
            have w98 : (m92 86 4).toInt = (m42 86 4).toInt := congrArg Int32.toInt (K95 86 4 (wY_out (by omega) (by omega) (by omega)))
            have K95 := K45.trans (K95.sub (by first | exact wZ_wY | exact wZ_86))
            show PV _ _ _ _ _ _ _ 75 [.ref 86, .int 4, .int v3, .int y5] [] _
            have k75 := rm92.2
            refine pv_iconst (M := mX7_readCondition) (v := 1) dX7_readCondition_75 76 rfl (by decide) ?_
            have z100 : (1 : Int32).toInt = 1 := by decide
            exact pv_iret (M := mX7_readCondition) dX7_readCondition_76 rfl rfl ⟨_, _, _, rfl, rfl, I94, K95, by decide, by decide, ⟨by omega, by omega, by omega, (by first | exact Or.inl ⟨by decide, by rw [kgc, k27, LB_no (isB_no k27n (by rw [← k31]; omega))]; congr 1; omega⟩ | (exfalso; omega)), by omega, (by first | exact IFZ.is (by rw [show (m92 86 3).toInt = (m42 86 3).toInt by omega]; exact CRZ_e kzz (isB_no k27n (by rw [← k31]; omega)) k75 (by omega)) | exact IFZ.no (by omega))⟩⟩
        · have c52 := iv_eq (X := v46.toInt) (Y := 0) c52 rfl (by decide)
          refine pv_iconst (M := mX7_readCondition) (v := 0) dX7_readCondition_25 26 rfl (by decide) ?_
          have z101 : (0 : Int32).toInt = 0 := by decide
          exact pv_iret (M := mX7_readCondition) dX7_readCondition_26 rfl rfl ⟨_, _, _, rfl, rfl, I44, K45, by decide, by decide, ⟨by omega, by omega, by omega, Or.inr ⟨by decide, by rw [kgc]; exact TRX_fl k22 (by omega)⟩, by omega, IFZ.no (by first | decide | omega)⟩⟩
  have z102 : (0 : Int32).toInt = 0 := by decide
  exact lp11 (((160 - 0) : Int).toNat + 1) 0 m n (by first | omega | assumption | exact (iv_rng _).2 | exact (iv_rng _).1 | decide) (by first | omega | assumption | exact (iv_rng _).2 | exact (iv_rng _).1 | decide) (by first | omega | assumption | (show (m 86 3).toInt ≤ (m 86 2).toInt; omega) | decide) (by first | omega | assumption | (show (m 86 2).toInt = (m 86 2).toInt; omega) | decide) (by first | omega | assumption | (show (m lb 7).toInt = (m lb 7).toInt; omega) | decide) (by first | omega | assumption | (show (m 86 3).toInt + 2 * 0 ≤ (m 86 3).toInt; omega) | decide) rfl (CQZ_0 (by omega)) I Kp (by omega)

set_option maxHeartbeats 2000000 in
set_option maxRecDepth 20000 in
theorem s_X7_readPiece_v3z (g : pv_G) {T : List mv_T} {m : Nat → Nat → Int32} {n : Nat → Nat → Int64} {r : Nat → Value} {la lb : Nat} (hT : TX T) (I : IV BB m) (R : RX T r la lb) (hp0 : (m 86 3).toInt ≤ (m 86 2).toInt) (hp1 : TBC m) (hp2 : (m lb 2).toInt ≤ (m 86 3).toInt) : PM g mX7_readPiece yX7_readPiece (sqI T BB (wZ lb) r m 0 1 (fun m' v => (m 86 3).toInt ≤ (m' 86 3).toInt ∧ (m' 86 3).toInt ≤ (m' 86 2).toInt ∧ (m' 86 2).toInt = (m 86 2).toInt ∧ (RSX (PI (tC m) 3 (m 86 3).toInt) v.toInt (m' 86 3).toInt (m' 86 4).toInt) ∧ (m' lb 7).toInt = (m lb 7).toInt ∧ IFZ v.toInt (CDS lb m m' 10 (PID (tC m) 3 (m 86 3).toInt) ((m' 86 3).toInt - (m 86 3).toInt)))) 17 0 0 [.ref 86, .int 3] (mk T m n r) := by
  have Kp : fr (wZ lb) m m := fr.rf
  have R0 := R
  have zR := R.2.2.2.2.1.1
  have zR2 := R.2.2.2.2.2.1
  have z259 : 0 ≤ (m 86 3).toInt ∧ (m 86 3).toInt ≤ 160 := I 86 3
  have z260 : 0 ≤ (m 86 2).toInt ∧ (m 86 2).toInt ≤ 160 := I 86 2
  refine PM.of 1 (lo := [.ref 86, .int 3, pv_U]) rfl (by decide) rfl rfl (Nat.le_of_ble_eq_true rfl) ?_
  refine pv_aload_n (M := mX7_readPiece) 0 dX7_readPiece_0 1 rfl rfl rfl ?_
  refine pv_callv (M := mX7_readPiece) (as := []) (st := []) (kc2 := 0) (ks2 := 0) dX7_readPiece_1 wd527 YX7_peek ⟨wd529, wd2⟩ (mk_get (tl86 hT)) rfl rfl (s_X7_peek_vx g hT I R) rfl rfl (Nat.le_of_ble_eq_true rfl) (by decide) rfl rfl 4 rfl (fun rv h1 q1 => ?_)
  obtain ⟨v2, rfl, rfl, pv2, qv2, rv2⟩ := q1
  replace rv2 : v2.toInt = tC m (m 86 3).toInt ∧ (v2.toInt = -1 ∨ (m 86 3).toInt < (m 86 2).toInt) := rv2
  show PV _ _ _ _ _ _ _ 4 [.ref 86, .int 3, pv_U] [.int v2] _
  have k4 := rv2.1
  have k4b := rv2.2
  refine pv_bipush (M := mX7_readPiece) (v := 33) dX7_readPiece_4 6 rfl (by decide) ?_
  refine pv_icmp_ne (M := mX7_readPiece) (tgt := 41) dX7_readPiece_6 9 rfl (by decide) (fun c5 => ?_) (fun c5 => ?_)
  · have c5 := iv_ne (X := v2.toInt) (Y := 33) c5 rfl (by decide)
    have kn33 : tC m (m 86 3).toInt ≠ 33 := by omega
    refine pv_aload_n (M := mX7_readPiece) 0 dX7_readPiece_41 42 rfl rfl rfl ?_
    refine pv_callv (M := mX7_readPiece) (as := []) (st := []) (kc2 := 0) (ks2 := 0) dX7_readPiece_42 wd527 YX7_peek ⟨wd529, wd2⟩ (mk_get (tl86 hT)) rfl rfl (s_X7_peek_vx g hT I R) rfl rfl (Nat.le_of_ble_eq_true rfl) (by decide) rfl rfl 45 rfl (fun rv h1 q7 => ?_)
    obtain ⟨v8, rfl, rfl, pv8, qv8, rv8⟩ := q7
    replace rv8 : v8.toInt = tC m (m 86 3).toInt ∧ (v8.toInt = -1 ∨ (m 86 3).toInt < (m 86 2).toInt) := rv8
    show PV _ _ _ _ _ _ _ 45 [.ref 86, .int 3, pv_U] [.int v8] _
    have k45 := rv8.1
    have k45b := rv8.2
    refine pv_bipush (M := mX7_readPiece) (v := 40) dX7_readPiece_45 47 rfl (by decide) ?_
    refine pv_icmp_ne (M := mX7_readPiece) (tgt := 83) dX7_readPiece_47 50 rfl (by decide) (fun c11 => ?_) (fun c11 => ?_)
    · have c11 := iv_ne (X := v8.toInt) (Y := 40) c11 rfl (by decide)
      have kn40 : tC m (m 86 3).toInt ≠ 40 := by omega
      refine pv_aload_n (M := mX7_readPiece) 0 dX7_readPiece_83 84 rfl rfl rfl ?_
      refine pv_iload_n (M := mX7_readPiece) 1 dX7_readPiece_84 85 rfl rfl rfl ?_
      have z13 : (3 : Int32).toInt = 3 := by decide
      refine pv_callv (M := mX7_readPiece) (as := [.int 3]) (st := []) (kc2 := 0) (ks2 := 0) dX7_readPiece_85 wd539 YX7_readSum ⟨wd541, wd4⟩ (mk_get (tl86 hT)) rfl rfl (s_X7_readSum_v3z g hT I R (by first | omega | assumption | exact (iv_rng _).2 | exact (iv_rng _).1 | decide) hp1 (by first | omega | assumption | exact (iv_rng _).2 | exact (iv_rng _).1 | decide)) rfl rfl (Nat.le_of_ble_eq_true rfl) (by decide) rfl rfl 88 rfl (fun rv h1 q14 => ?_)
      obtain ⟨m15, n16, v19, rfl, rfl, I17, K18, pv19, qv19, rv19⟩ := q14
      replace rv19 : (m 86 3).toInt ≤ (m15 86 3).toInt ∧ (m15 86 3).toInt ≤ (m15 86 2).toInt ∧ (m15 86 2).toInt = (m 86 2).toInt ∧ (RSX (SU (tC m) 3 (m 86 3).toInt) v19.toInt (m15 86 3).toInt (m15 86 4).toInt) ∧ (m15 lb 7).toInt = (m lb 7).toInt ∧ IFZ v19.toInt (CDS lb m m15 9 (SUD (tC m) 3 (m 86 3).toInt) ((m15 86 3).toInt - (m 86 3).toInt)) := by have q_ := rv19; (try rw [z13] at q_); exact q_
      have K18c := K18
      have K18 := Kp.trans (K18.sub (fun _ _ q => q))
      show PV _ _ _ _ _ _ _ 88 [.ref 86, .int 3, pv_U] [.int v19] _
      have k88 := rv19.2.2.2.1
      have k88z := rv19.2.2.2.2.2
      refine pv_if_ne (M := mX7_readPiece) (tgt := 93) dX7_readPiece_88 91 rfl (by decide) (fun c22 => ?_) (fun c22 => ?_)
      · have c22 := iv_ne (X := v19.toInt) (Y := 0) c22 rfl (by decide)
        have k93 := RSX_ok k88 (by omega)
        have kt93 : tC m15 = tC m := tC_fz zR2 K18
        have kA93 : (m15 86 3).toInt = (m15 86 3).toInt := rfl
        have k93z := IFZ.get k88z (by omega)
        have k93b := CDS_b k93z
        refine pv_aload_n (M := mX7_readPiece) 0 dX7_readPiece_93 94 rfl rfl rfl ?_
        refine pv_callv (M := mX7_readPiece) (as := []) (st := []) (kc2 := 0) (ks2 := 0) dX7_readPiece_94 wd527 YX7_peek ⟨wd529, wd2⟩ (mk_get (tl86 hT)) rfl rfl (s_X7_peek_vx g hT I17 R) rfl rfl (Nat.le_of_ble_eq_true rfl) (by decide) rfl rfl 97 rfl (fun rv h1 q28 => ?_)
        obtain ⟨v29, rfl, rfl, pv29, qv29, rv29⟩ := q28
        replace rv29 : v29.toInt = tC m15 (m15 86 3).toInt ∧ (v29.toInt = -1 ∨ (m15 86 3).toInt < (m15 86 2).toInt) := rv29
        show PV _ _ _ _ _ _ _ 97 [.ref 86, .int 3, pv_U] [.int v29] _
        have k97 := rv29.1
        have k97b := rv29.2
        rw [kt93] at k97
        refine pv_istore_n (M := mX7_readPiece) 2 (lo2 := [.ref 86, .int 3, .int v29]) dX7_readPiece_97 98 rfl rfl (by decide) rfl rfl ?_
        refine pv_iload_n (M := mX7_readPiece) 2 dX7_readPiece_98 99 rfl rfl rfl ?_
        refine pv_bipush (M := mX7_readPiece) (v := 60) dX7_readPiece_99 101 rfl (by decide) ?_
        refine pv_icmp_eq (M := mX7_readPiece) (tgt := 122) dX7_readPiece_101 104 rfl (by decide) (fun c33 => ?_) (fun c33 => ?_)
        · have c33 := iv_eq (X := v29.toInt) (Y := 60) c33 rfl (by decide)
          have kC : isC (tC m (m15 86 3).toInt) = true := by rw [← k97]; exact isC_y (by omega)
          refine pv_aload_n (M := mX7_readPiece) 0 dX7_readPiece_122 123 rfl rfl rfl ?_
          refine pv_dup (M := mX7_readPiece) dX7_readPiece_123 124 rfl rfl ?_
          refine iv_get (M := mX7_readPiece) (l1 := 0) (l2 := 160) dX7_readPiece_124 FX7 3 wd283 (by decide) (tl86 hT) rfl I17 rfl 127 rfl (fun v35 ev35 pv35 qv35 => ?_)
          have wv35 : v35.toInt = (m15 86 3).toInt := congrArg Int32.toInt ev35
          refine pv_iconst (M := mX7_readPiece) (v := 1) dX7_readPiece_127 128 rfl (by decide) ?_
          refine iv_iadd (M := mX7_readPiece) (X := v35.toInt) (Y := 1) dX7_readPiece_128 129 rfl rfl (by decide) (by omega) (by omega) (fun v36 ev36 => ?_)
          refine iv_put (M := mX7_readPiece) (l1 := 0) (l2 := 160) dX7_readPiece_129 FX7 3 wd283 (by decide) rfl (tl86 hT) rfl rfl rfl I17 rfl (by omega) (by omega) 132 rfl (fun m37 e40 I38 => ?_)
          have K39 := K18.set e40 (by first | rfl | decide)
          have w41 : (m37 86 3).toInt = v36.toInt := by rw [e40, up2_eq]
          have w42 : (m37 86 2).toInt = (m15 86 2).toInt := by rw [e40, up2_ne (by omega)]
          have w43 : (m37 86 4).toInt = (m15 86 4).toInt := by rw [e40, up2_ne (by omega)]
          have w44 : (m37 lb 7).toInt = (m15 lb 7).toInt := by rw [e40, up2_ne (by omega)]
          have w45 : (m37 lb 2).toInt = (m15 lb 2).toInt := by rw [e40, up2_ne (by omega)]
          have kt132 : tC m37 = tC m := tC_fz zR2 K39
          have kp132 : (m37 86 3).toInt = (m15 86 3).toInt + 1 := by omega
          have ks132 : SAML lb m15 m37 := SAML.set zR2 e40
          have kl132 : (m37 lb 2).toInt = (m15 lb 2).toInt := congrArg Int32.toInt ks132.1
          refine pv_aload_n (M := mX7_readPiece) 0 dX7_readPiece_132 133 rfl rfl rfl ?_
          refine pv_iload_n (M := mX7_readPiece) 1 dX7_readPiece_133 134 rfl rfl rfl ?_
          have z50 : (3 : Int32).toInt = 3 := by decide
          refine pv_callv (M := mX7_readPiece) (as := [.int 3]) (st := []) (kc2 := 0) (ks2 := 0) dX7_readPiece_134 wd539 YX7_readSum ⟨wd541, wd4⟩ (mk_get (tl86 hT)) rfl rfl (s_X7_readSum_v3z g hT I38 R (by first | omega | assumption | exact (iv_rng _).2 | exact (iv_rng _).1 | decide) (TBC_eq hp1 kt132) (by first | omega | assumption | exact (iv_rng _).2 | exact (iv_rng _).1 | decide)) rfl rfl (Nat.le_of_ble_eq_true rfl) (by decide) rfl rfl 137 rfl (fun rv h1 q51 => ?_)
          obtain ⟨m52, n53, v56, rfl, rfl, I54, K55, pv56, qv56, rv56⟩ := q51
          replace rv56 : (m37 86 3).toInt ≤ (m52 86 3).toInt ∧ (m52 86 3).toInt ≤ (m52 86 2).toInt ∧ (m52 86 2).toInt = (m37 86 2).toInt ∧ (RSX (SU (tC m37) 3 (m37 86 3).toInt) v56.toInt (m52 86 3).toInt (m52 86 4).toInt) ∧ (m52 lb 7).toInt = (m37 lb 7).toInt ∧ IFZ v56.toInt (CDS lb m37 m52 9 (SUD (tC m37) 3 (m37 86 3).toInt) ((m52 86 3).toInt - (m37 86 3).toInt)) := by have q_ := rv56; (try rw [z50] at q_); exact q_
          have K55c := K55
          have K55 := K39.trans (K55.sub (fun _ _ q => q))
          show PV _ _ _ _ _ _ _ 137 [.ref 86, .int 3, .int v29] [.int v56] _
          have k137 := rv56.2.2.2.1
          rw [kt132, kp132] at k137
          have k137z := rv56.2.2.2.2.2
          rw [kt132, kp132] at k137z
          refine pv_if_ne (M := mX7_readPiece) (tgt := 142) dX7_readPiece_137 140 rfl (by decide) (fun c61 => ?_) (fun c61 => ?_)
          · have c61 := iv_ne (X := v56.toInt) (Y := 0) c61 rfl (by decide)
            have k142z := IFZ.get k137z (by omega)
            have k142b := CDS_b k142z
            refine pv_aload_n (M := mX7_readPiece) 0 dX7_readPiece_142 143 rfl rfl rfl ?_
            refine mv_get (M := mX7_readPiece) (v := .ref lb) dX7_readPiece_143 FX7 1 wd281 (by decide) (tl86 hT) rfl R.2.2.2.1 146 rfl ?_
            refine pv_iload_n (M := mX7_readPiece) 2 dX7_readPiece_146 147 rfl rfl rfl ?_
            refine pv_iconst (M := mX7_readPiece) (v := 0) dX7_readPiece_147 148 rfl (by decide) ?_
            have z64 : (0 : Int32).toInt = 0 := by decide
            refine pv_callv (M := mX7_readPiece) (as := [.int v29, .int 0]) (st := []) (kc2 := 0) (ks2 := 0) dX7_readPiece_148 wd567 YX6_emit ⟨wd568, wd569⟩ (mk_get R.2.2.2.2.2.2.1) rfl rfl (s_X6_emit_vz g hT I54 lb R.2.2.2.2.2 v29 0 (by decide) (by decide)) rfl rfl (Nat.le_of_ble_eq_true rfl) (by decide) rfl rfl 151 rfl (fun rv h1 q65 => ?_)
            obtain ⟨m66, n67, rfl, rfl, I68, K69, rm66⟩ := q65
            replace rm66 : (m66 lb 7).toInt = (m52 lb 7).toInt ∧ ((m52 lb 2).toInt < 160 → EMT lb m52 m66 v29.toInt (0 : Int32)) := by have q_ := rm66; (try rw [z64] at q_); exact q_
            have K69c := K69
            have w70 : (m66 86 3).toInt = (m52 86 3).toInt := congrArg Int32.toInt (K69 86 3 (wY_out (by omega) (by omega) (by omega)))
            have w71 : (m66 86 2).toInt = (m52 86 2).toInt := congrArg Int32.toInt (K69 86 2 (wY_out (by omega) (by omega) (by omega)))
            have w72 : (m66 86 4).toInt = (m52 86 4).toInt := congrArg Int32.toInt (K69 86 4 (wY_out (by omega) (by omega) (by omega)))
            have K69 := K55.trans (K69.sub (by first | exact wZ_wY | exact wZ_86))
            show PV _ _ _ _ _ _ _ 151 [.ref 86, .int 3, .int v29] [] _
            have k151 := rm66.2 (by omega)
            refine pv_iconst (M := mX7_readPiece) (v := 1) dX7_readPiece_151 152 rfl (by decide) ?_
            have z74 : (1 : Int32).toInt = 1 := by decide
            exact pv_iret (M := mX7_readPiece) dX7_readPiece_152 rfl rfl ⟨_, _, _, rfl, rfl, I68, K69, by decide, by decide, ⟨by omega, by omega, by omega, Or.inl ⟨by decide, by rw [PI_cm kn33 kn40, CM_ok k93 kC, RSX_ok k137 (by omega), show (m52 86 3).toInt = (m66 86 3).toInt by omega]⟩, by omega, IFZ.is (by rw [PID_cm kn33 kn40, CMD_ok k93, ← k97]; exact CDS.wk (CDS.op k93z (CDS.pre ks132 k142z (Int.le_refl _)) k151 (isO_c (by rw [k97]; exact kC)) (Int.le_refl _) (by omega)) (by omega) (by omega))⟩⟩
          · have c61 := iv_eq (X := v56.toInt) (Y := 0) c61 rfl (by decide)
            refine pv_iconst (M := mX7_readPiece) (v := 0) dX7_readPiece_140 141 rfl (by decide) ?_
            have z75 : (0 : Int32).toInt = 0 := by decide
            exact pv_iret (M := mX7_readPiece) dX7_readPiece_141 rfl rfl ⟨_, _, _, rfl, rfl, I54, K55, by decide, by decide, ⟨by omega, by omega, by omega, Or.inr ⟨by decide, by rw [PI_cm kn33 kn40, CM_ok k93 kC]; exact RSX_fl k137 (by omega)⟩, by omega, IFZ.no (by first | decide | omega)⟩⟩
        · have c33 := iv_ne (X := v29.toInt) (Y := 60) c33 rfl (by decide)
          refine pv_iload_n (M := mX7_readPiece) 2 dX7_readPiece_104 105 rfl rfl rfl ?_
          refine pv_bipush (M := mX7_readPiece) (v := 62) dX7_readPiece_105 107 rfl (by decide) ?_
          refine pv_icmp_eq (M := mX7_readPiece) (tgt := 122) dX7_readPiece_107 110 rfl (by decide) (fun c76 => ?_) (fun c76 => ?_)
          · have c76 := iv_eq (X := v29.toInt) (Y := 62) c76 rfl (by decide)
            have kC : isC (tC m (m15 86 3).toInt) = true := by rw [← k97]; exact isC_y (by omega)
            refine pv_aload_n (M := mX7_readPiece) 0 dX7_readPiece_122 123 rfl rfl rfl ?_
            refine pv_dup (M := mX7_readPiece) dX7_readPiece_123 124 rfl rfl ?_
            refine iv_get (M := mX7_readPiece) (l1 := 0) (l2 := 160) dX7_readPiece_124 FX7 3 wd283 (by decide) (tl86 hT) rfl I17 rfl 127 rfl (fun v78 ev78 pv78 qv78 => ?_)
            have wv78 : v78.toInt = (m15 86 3).toInt := congrArg Int32.toInt ev78
            refine pv_iconst (M := mX7_readPiece) (v := 1) dX7_readPiece_127 128 rfl (by decide) ?_
            refine iv_iadd (M := mX7_readPiece) (X := v78.toInt) (Y := 1) dX7_readPiece_128 129 rfl rfl (by decide) (by omega) (by omega) (fun v79 ev79 => ?_)
            refine iv_put (M := mX7_readPiece) (l1 := 0) (l2 := 160) dX7_readPiece_129 FX7 3 wd283 (by decide) rfl (tl86 hT) rfl rfl rfl I17 rfl (by omega) (by omega) 132 rfl (fun m80 e83 I81 => ?_)
            have K82 := K18.set e83 (by first | rfl | decide)
            have w84 : (m80 86 3).toInt = v79.toInt := by rw [e83, up2_eq]
            have w85 : (m80 86 2).toInt = (m15 86 2).toInt := by rw [e83, up2_ne (by omega)]
            have w86 : (m80 86 4).toInt = (m15 86 4).toInt := by rw [e83, up2_ne (by omega)]
            have w87 : (m80 lb 7).toInt = (m15 lb 7).toInt := by rw [e83, up2_ne (by omega)]
            have w88 : (m80 lb 2).toInt = (m15 lb 2).toInt := by rw [e83, up2_ne (by omega)]
            have kt132 : tC m80 = tC m := tC_fz zR2 K82
            have kp132 : (m80 86 3).toInt = (m15 86 3).toInt + 1 := by omega
            have ks132 : SAML lb m15 m80 := SAML.set zR2 e83
            have kl132 : (m80 lb 2).toInt = (m15 lb 2).toInt := congrArg Int32.toInt ks132.1
            refine pv_aload_n (M := mX7_readPiece) 0 dX7_readPiece_132 133 rfl rfl rfl ?_
            refine pv_iload_n (M := mX7_readPiece) 1 dX7_readPiece_133 134 rfl rfl rfl ?_
            have z93 : (3 : Int32).toInt = 3 := by decide
            refine pv_callv (M := mX7_readPiece) (as := [.int 3]) (st := []) (kc2 := 0) (ks2 := 0) dX7_readPiece_134 wd539 YX7_readSum ⟨wd541, wd4⟩ (mk_get (tl86 hT)) rfl rfl (s_X7_readSum_v3z g hT I81 R (by first | omega | assumption | exact (iv_rng _).2 | exact (iv_rng _).1 | decide) (TBC_eq hp1 kt132) (by first | omega | assumption | exact (iv_rng _).2 | exact (iv_rng _).1 | decide)) rfl rfl (Nat.le_of_ble_eq_true rfl) (by decide) rfl rfl 137 rfl (fun rv h1 q94 => ?_)
            obtain ⟨m95, n96, v99, rfl, rfl, I97, K98, pv99, qv99, rv99⟩ := q94
            replace rv99 : (m80 86 3).toInt ≤ (m95 86 3).toInt ∧ (m95 86 3).toInt ≤ (m95 86 2).toInt ∧ (m95 86 2).toInt = (m80 86 2).toInt ∧ (RSX (SU (tC m80) 3 (m80 86 3).toInt) v99.toInt (m95 86 3).toInt (m95 86 4).toInt) ∧ (m95 lb 7).toInt = (m80 lb 7).toInt ∧ IFZ v99.toInt (CDS lb m80 m95 9 (SUD (tC m80) 3 (m80 86 3).toInt) ((m95 86 3).toInt - (m80 86 3).toInt)) := by have q_ := rv99; (try rw [z93] at q_); exact q_
            have K98c := K98
            have K98 := K82.trans (K98.sub (fun _ _ q => q))
            show PV _ _ _ _ _ _ _ 137 [.ref 86, .int 3, .int v29] [.int v99] _
            have k137 := rv99.2.2.2.1
            rw [kt132, kp132] at k137
            have k137z := rv99.2.2.2.2.2
            rw [kt132, kp132] at k137z
            refine pv_if_ne (M := mX7_readPiece) (tgt := 142) dX7_readPiece_137 140 rfl (by decide) (fun c104 => ?_) (fun c104 => ?_)
            · have c104 := iv_ne (X := v99.toInt) (Y := 0) c104 rfl (by decide)
              have k142z := IFZ.get k137z (by omega)
              have k142b := CDS_b k142z
              refine pv_aload_n (M := mX7_readPiece) 0 dX7_readPiece_142 143 rfl rfl rfl ?_
              refine mv_get (M := mX7_readPiece) (v := .ref lb) dX7_readPiece_143 FX7 1 wd281 (by decide) (tl86 hT) rfl R.2.2.2.1 146 rfl ?_
              refine pv_iload_n (M := mX7_readPiece) 2 dX7_readPiece_146 147 rfl rfl rfl ?_
              refine pv_iconst (M := mX7_readPiece) (v := 0) dX7_readPiece_147 148 rfl (by decide) ?_
              have z107 : (0 : Int32).toInt = 0 := by decide
              refine pv_callv (M := mX7_readPiece) (as := [.int v29, .int 0]) (st := []) (kc2 := 0) (ks2 := 0) dX7_readPiece_148 wd567 YX6_emit ⟨wd568, wd569⟩ (mk_get R.2.2.2.2.2.2.1) rfl rfl (s_X6_emit_vz g hT I97 lb R.2.2.2.2.2 v29 0 (by decide) (by decide)) rfl rfl (Nat.le_of_ble_eq_true rfl) (by decide) rfl rfl 151 rfl (fun rv h1 q108 => ?_)
              obtain ⟨m109, n110, rfl, rfl, I111, K112, rm109⟩ := q108
              replace rm109 : (m109 lb 7).toInt = (m95 lb 7).toInt ∧ ((m95 lb 2).toInt < 160 → EMT lb m95 m109 v29.toInt (0 : Int32)) := by have q_ := rm109; (try rw [z107] at q_); exact q_
              have K112c := K112
              have w113 : (m109 86 3).toInt = (m95 86 3).toInt := congrArg Int32.toInt (K112 86 3 (wY_out (by omega) (by omega) (by omega)))
              have w114 : (m109 86 2).toInt = (m95 86 2).toInt := congrArg Int32.toInt (K112 86 2 (wY_out (by omega) (by omega) (by omega)))
              have w115 : (m109 86 4).toInt = (m95 86 4).toInt := congrArg Int32.toInt (K112 86 4 (wY_out (by omega) (by omega) (by omega)))
              have K112 := K98.trans (K112.sub (by first | exact wZ_wY | exact wZ_86))
              show PV _ _ _ _ _ _ _ 151 [.ref 86, .int 3, .int v29] [] _
              have k151 := rm109.2 (by omega)
              refine pv_iconst (M := mX7_readPiece) (v := 1) dX7_readPiece_151 152 rfl (by decide) ?_
              have z117 : (1 : Int32).toInt = 1 := by decide
              exact pv_iret (M := mX7_readPiece) dX7_readPiece_152 rfl rfl ⟨_, _, _, rfl, rfl, I111, K112, by decide, by decide, ⟨by omega, by omega, by omega, Or.inl ⟨by decide, by rw [PI_cm kn33 kn40, CM_ok k93 kC, RSX_ok k137 (by omega), show (m95 86 3).toInt = (m109 86 3).toInt by omega]⟩, by omega, IFZ.is (by rw [PID_cm kn33 kn40, CMD_ok k93, ← k97]; exact CDS.wk (CDS.op k93z (CDS.pre ks132 k142z (Int.le_refl _)) k151 (isO_c (by rw [k97]; exact kC)) (Int.le_refl _) (by omega)) (by omega) (by omega))⟩⟩
            · have c104 := iv_eq (X := v99.toInt) (Y := 0) c104 rfl (by decide)
              refine pv_iconst (M := mX7_readPiece) (v := 0) dX7_readPiece_140 141 rfl (by decide) ?_
              have z118 : (0 : Int32).toInt = 0 := by decide
              exact pv_iret (M := mX7_readPiece) dX7_readPiece_141 rfl rfl ⟨_, _, _, rfl, rfl, I97, K98, by decide, by decide, ⟨by omega, by omega, by omega, Or.inr ⟨by decide, by rw [PI_cm kn33 kn40, CM_ok k93 kC]; exact RSX_fl k137 (by omega)⟩, by omega, IFZ.no (by first | decide | omega)⟩⟩
          · have c76 := iv_ne (X := v29.toInt) (Y := 62) c76 rfl (by decide)
            refine pv_iload_n (M := mX7_readPiece) 2 dX7_readPiece_110 111 rfl rfl rfl ?_
            refine pv_bipush (M := mX7_readPiece) (v := 61) dX7_readPiece_111 113 rfl (by decide) ?_
            refine pv_icmp_eq (M := mX7_readPiece) (tgt := 122) dX7_readPiece_113 116 rfl (by decide) (fun c119 => ?_) (fun c119 => ?_)
            · have c119 := iv_eq (X := v29.toInt) (Y := 61) c119 rfl (by decide)
              have kC : isC (tC m (m15 86 3).toInt) = true := by rw [← k97]; exact isC_y (by omega)
              refine pv_aload_n (M := mX7_readPiece) 0 dX7_readPiece_122 123 rfl rfl rfl ?_
              refine pv_dup (M := mX7_readPiece) dX7_readPiece_123 124 rfl rfl ?_
              refine iv_get (M := mX7_readPiece) (l1 := 0) (l2 := 160) dX7_readPiece_124 FX7 3 wd283 (by decide) (tl86 hT) rfl I17 rfl 127 rfl (fun v121 ev121 pv121 qv121 => ?_)
              have wv121 : v121.toInt = (m15 86 3).toInt := congrArg Int32.toInt ev121
              refine pv_iconst (M := mX7_readPiece) (v := 1) dX7_readPiece_127 128 rfl (by decide) ?_
              refine iv_iadd (M := mX7_readPiece) (X := v121.toInt) (Y := 1) dX7_readPiece_128 129 rfl rfl (by decide) (by omega) (by omega) (fun v122 ev122 => ?_)
              refine iv_put (M := mX7_readPiece) (l1 := 0) (l2 := 160) dX7_readPiece_129 FX7 3 wd283 (by decide) rfl (tl86 hT) rfl rfl rfl I17 rfl (by omega) (by omega) 132 rfl (fun m123 e126 I124 => ?_)
              have K125 := K18.set e126 (by first | rfl | decide)
              have w127 : (m123 86 3).toInt = v122.toInt := by rw [e126, up2_eq]
              have w128 : (m123 86 2).toInt = (m15 86 2).toInt := by rw [e126, up2_ne (by omega)]
              have w129 : (m123 86 4).toInt = (m15 86 4).toInt := by rw [e126, up2_ne (by omega)]
              have w130 : (m123 lb 7).toInt = (m15 lb 7).toInt := by rw [e126, up2_ne (by omega)]
              have w131 : (m123 lb 2).toInt = (m15 lb 2).toInt := by rw [e126, up2_ne (by omega)]
              have kt132 : tC m123 = tC m := tC_fz zR2 K125
              have kp132 : (m123 86 3).toInt = (m15 86 3).toInt + 1 := by omega
              have ks132 : SAML lb m15 m123 := SAML.set zR2 e126
              have kl132 : (m123 lb 2).toInt = (m15 lb 2).toInt := congrArg Int32.toInt ks132.1
              refine pv_aload_n (M := mX7_readPiece) 0 dX7_readPiece_132 133 rfl rfl rfl ?_
              refine pv_iload_n (M := mX7_readPiece) 1 dX7_readPiece_133 134 rfl rfl rfl ?_
              have z136 : (3 : Int32).toInt = 3 := by decide
              refine pv_callv (M := mX7_readPiece) (as := [.int 3]) (st := []) (kc2 := 0) (ks2 := 0) dX7_readPiece_134 wd539 YX7_readSum ⟨wd541, wd4⟩ (mk_get (tl86 hT)) rfl rfl (s_X7_readSum_v3z g hT I124 R (by first | omega | assumption | exact (iv_rng _).2 | exact (iv_rng _).1 | decide) (TBC_eq hp1 kt132) (by first | omega | assumption | exact (iv_rng _).2 | exact (iv_rng _).1 | decide)) rfl rfl (Nat.le_of_ble_eq_true rfl) (by decide) rfl rfl 137 rfl (fun rv h1 q137 => ?_)
              obtain ⟨m138, n139, v142, rfl, rfl, I140, K141, pv142, qv142, rv142⟩ := q137
              replace rv142 : (m123 86 3).toInt ≤ (m138 86 3).toInt ∧ (m138 86 3).toInt ≤ (m138 86 2).toInt ∧ (m138 86 2).toInt = (m123 86 2).toInt ∧ (RSX (SU (tC m123) 3 (m123 86 3).toInt) v142.toInt (m138 86 3).toInt (m138 86 4).toInt) ∧ (m138 lb 7).toInt = (m123 lb 7).toInt ∧ IFZ v142.toInt (CDS lb m123 m138 9 (SUD (tC m123) 3 (m123 86 3).toInt) ((m138 86 3).toInt - (m123 86 3).toInt)) := by have q_ := rv142; (try rw [z136] at q_); exact q_
              have K141c := K141
              have K141 := K125.trans (K141.sub (fun _ _ q => q))
              show PV _ _ _ _ _ _ _ 137 [.ref 86, .int 3, .int v29] [.int v142] _
              have k137 := rv142.2.2.2.1
              rw [kt132, kp132] at k137
              have k137z := rv142.2.2.2.2.2
              rw [kt132, kp132] at k137z
              refine pv_if_ne (M := mX7_readPiece) (tgt := 142) dX7_readPiece_137 140 rfl (by decide) (fun c147 => ?_) (fun c147 => ?_)
              · have c147 := iv_ne (X := v142.toInt) (Y := 0) c147 rfl (by decide)
                have k142z := IFZ.get k137z (by omega)
                have k142b := CDS_b k142z
                refine pv_aload_n (M := mX7_readPiece) 0 dX7_readPiece_142 143 rfl rfl rfl ?_
                refine mv_get (M := mX7_readPiece) (v := .ref lb) dX7_readPiece_143 FX7 1 wd281 (by decide) (tl86 hT) rfl R.2.2.2.1 146 rfl ?_
                refine pv_iload_n (M := mX7_readPiece) 2 dX7_readPiece_146 147 rfl rfl rfl ?_
                refine pv_iconst (M := mX7_readPiece) (v := 0) dX7_readPiece_147 148 rfl (by decide) ?_
                have z150 : (0 : Int32).toInt = 0 := by decide
                refine pv_callv (M := mX7_readPiece) (as := [.int v29, .int 0]) (st := []) (kc2 := 0) (ks2 := 0) dX7_readPiece_148 wd567 YX6_emit ⟨wd568, wd569⟩ (mk_get R.2.2.2.2.2.2.1) rfl rfl (s_X6_emit_vz g hT I140 lb R.2.2.2.2.2 v29 0 (by decide) (by decide)) rfl rfl (Nat.le_of_ble_eq_true rfl) (by decide) rfl rfl 151 rfl (fun rv h1 q151 => ?_)
                obtain ⟨m152, n153, rfl, rfl, I154, K155, rm152⟩ := q151
                replace rm152 : (m152 lb 7).toInt = (m138 lb 7).toInt ∧ ((m138 lb 2).toInt < 160 → EMT lb m138 m152 v29.toInt (0 : Int32)) := by have q_ := rm152; (try rw [z150] at q_); exact q_
                have K155c := K155
                have w156 : (m152 86 3).toInt = (m138 86 3).toInt := congrArg Int32.toInt (K155 86 3 (wY_out (by omega) (by omega) (by omega)))
                have w157 : (m152 86 2).toInt = (m138 86 2).toInt := congrArg Int32.toInt (K155 86 2 (wY_out (by omega) (by omega) (by omega)))
                have w158 : (m152 86 4).toInt = (m138 86 4).toInt := congrArg Int32.toInt (K155 86 4 (wY_out (by omega) (by omega) (by omega)))
                have K155 := K141.trans (K155.sub (by first | exact wZ_wY | exact wZ_86))
                show PV _ _ _ _ _ _ _ 151 [.ref 86, .int 3, .int v29] [] _
                have k151 := rm152.2 (by omega)
                refine pv_iconst (M := mX7_readPiece) (v := 1) dX7_readPiece_151 152 rfl (by decide) ?_
                have z160 : (1 : Int32).toInt = 1 := by decide
                exact pv_iret (M := mX7_readPiece) dX7_readPiece_152 rfl rfl ⟨_, _, _, rfl, rfl, I154, K155, by decide, by decide, ⟨by omega, by omega, by omega, Or.inl ⟨by decide, by rw [PI_cm kn33 kn40, CM_ok k93 kC, RSX_ok k137 (by omega), show (m138 86 3).toInt = (m152 86 3).toInt by omega]⟩, by omega, IFZ.is (by rw [PID_cm kn33 kn40, CMD_ok k93, ← k97]; exact CDS.wk (CDS.op k93z (CDS.pre ks132 k142z (Int.le_refl _)) k151 (isO_c (by rw [k97]; exact kC)) (Int.le_refl _) (by omega)) (by omega) (by omega))⟩⟩
              · have c147 := iv_eq (X := v142.toInt) (Y := 0) c147 rfl (by decide)
                refine pv_iconst (M := mX7_readPiece) (v := 0) dX7_readPiece_140 141 rfl (by decide) ?_
                have z161 : (0 : Int32).toInt = 0 := by decide
                exact pv_iret (M := mX7_readPiece) dX7_readPiece_141 rfl rfl ⟨_, _, _, rfl, rfl, I140, K141, by decide, by decide, ⟨by omega, by omega, by omega, Or.inr ⟨by decide, by rw [PI_cm kn33 kn40, CM_ok k93 kC]; exact RSX_fl k137 (by omega)⟩, by omega, IFZ.no (by first | decide | omega)⟩⟩
            · have c119 := iv_ne (X := v29.toInt) (Y := 61) c119 rfl (by decide)
              refine pv_aload_n (M := mX7_readPiece) 0 dX7_readPiece_116 117 rfl rfl rfl ?_
              refine pv_iconst (M := mX7_readPiece) (v := 1) dX7_readPiece_117 118 rfl (by decide) ?_
              have z162 : (1 : Int32).toInt = 1 := by decide
              refine pv_callv (M := mX7_readPiece) (as := [.int 1]) (st := []) (kc2 := 0) (ks2 := 0) dX7_readPiece_118 wd531 YX7_fail ⟨wd533, wd3⟩ (mk_get (tl86 hT)) rfl rfl (s_X7_fail_vz g hT I17 R 1 (by decide) (by decide) (by first | omega | assumption | exact (iv_rng _).2 | exact (iv_rng _).1 | decide)) rfl rfl (Nat.le_of_ble_eq_true rfl) (by decide) rfl rfl 121 rfl (fun rv h1 q163 => ?_)
              obtain ⟨m164, n165, v168, rfl, rfl, I166, K167, pv168, qv168, rv168⟩ := q163
              replace rv168 : (m15 86 3).toInt ≤ (m164 86 3).toInt ∧ (m164 86 3).toInt ≤ (m164 86 2).toInt ∧ (m164 86 2).toInt = (m15 86 2).toInt ∧ (v168.toInt = 0 ∧ (m164 86 3).toInt = (m15 86 3).toInt ∧ (m164 86 4).toInt = -1000 * (1 : Int) - (m15 86 3).toInt) ∧ (m164 lb 7).toInt = (m15 lb 7).toInt := by have q_ := rv168; (try rw [z162] at q_); exact q_
              have K167c := K167
              have w169 : (m164 86 2).toInt = (m15 86 2).toInt := congrArg Int32.toInt (K167 86 2 rfl)
              have K167 := K18.trans (K167.sub (by first | exact wZ_wY | exact wZ_86))
              show PV _ _ _ _ _ _ _ 121 [.ref 86, .int 3, .int v29] [.int v168] _
              exact pv_iret (M := mX7_readPiece) dX7_readPiece_121 rfl (iv_nz (by omega) (by omega)) ⟨_, _, _, rfl, rfl, I166, K167, by omega, by omega, ⟨by omega, by omega, by omega, Or.inr ⟨by omega, by rw [PI_cm kn33 kn40]; exact CM_no k93 (isC_no (by omega) (by omega) (by omega)) (by omega)⟩, by omega, IFZ.no (by first | decide | omega)⟩⟩
      · have c22 := iv_eq (X := v19.toInt) (Y := 0) c22 rfl (by decide)
        refine pv_iconst (M := mX7_readPiece) (v := 0) dX7_readPiece_91 92 rfl (by decide) ?_
        have z170 : (0 : Int32).toInt = 0 := by decide
        exact pv_iret (M := mX7_readPiece) dX7_readPiece_92 rfl rfl ⟨_, _, _, rfl, rfl, I17, K18, by decide, by decide, ⟨by omega, by omega, by omega, Or.inr ⟨by decide, by rw [PI_cm kn33 kn40]; exact CM_fl (RSX_fl k88 (by omega))⟩, by omega, IFZ.no (by first | decide | omega)⟩⟩
    · have c11 := iv_eq (X := v8.toInt) (Y := 40) c11 rfl (by decide)
      have k40 : tC m (m 86 3).toInt = 40 := by omega
      refine pv_aload_n (M := mX7_readPiece) 0 dX7_readPiece_50 51 rfl rfl rfl ?_
      refine pv_iload_n (M := mX7_readPiece) 1 dX7_readPiece_51 52 rfl rfl rfl ?_
      have z172 : (3 : Int32).toInt = 3 := by decide
      refine pv_callv (M := mX7_readPiece) (as := [.int 3]) (st := []) (kc2 := 0) (ks2 := 0) dX7_readPiece_52 wd551 YX7_open ⟨wd553, wd7⟩ (mk_get (tl86 hT)) rfl rfl (s_X7_open_vz g hT I R 3 (by decide) (by decide) (by first | omega | assumption | exact (iv_rng _).2 | exact (iv_rng _).1 | decide)) rfl rfl (Nat.le_of_ble_eq_true rfl) (by decide) rfl rfl 55 rfl (fun rv h1 q173 => ?_)
      obtain ⟨m174, n175, v178, rfl, rfl, I176, K177, pv178, qv178, rv178⟩ := q173
      replace rv178 : (v178 = 0 ∨ (3 : Int) ≤ 5) ∧ (m 86 3).toInt ≤ (m174 86 3).toInt ∧ (m174 86 3).toInt ≤ (m174 86 2).toInt ∧ (m174 86 2).toInt = (m 86 2).toInt ∧ ((v178.toInt = 1 ∧ (3 : Int) ≤ 5 ∧ (m174 86 3).toInt = (m 86 3).toInt + 1) ∨ (v178.toInt = 0 ∧ 6 ≤ (3 : Int) ∧ (m174 86 4).toInt = -5000 - (m 86 3).toInt ∧ (m174 86 3).toInt = (m 86 3).toInt)) ∧ (m174 lb 7).toInt = (m lb 7).toInt := by have q_ := rv178; (try rw [z172] at q_); exact q_
      have K177c := K177
      have w179 : (m174 86 2).toInt = (m 86 2).toInt := congrArg Int32.toInt (K177 86 2 rfl)
      have K177 := Kp.trans (K177.sub (by first | exact wZ_wY | exact wZ_86))
      show PV _ _ _ _ _ _ _ 55 [.ref 86, .int 3, pv_U] [.int v178] _
      refine pv_if_eq (M := mX7_readPiece) (tgt := 81) dX7_readPiece_55 58 rfl (by decide) (fun c180 => ?_) (fun c180 => ?_)
      · have c180 := iv_eq (X := v178.toInt) (Y := 0) c180 rfl (by decide)
        refine pv_iconst (M := mX7_readPiece) (v := 0) dX7_readPiece_81 82 rfl (by decide) ?_
        have z181 : (0 : Int32).toInt = 0 := by decide
        exact pv_iret (M := mX7_readPiece) dX7_readPiece_82 rfl rfl ⟨_, _, _, rfl, rfl, I176, K177, by decide, by decide, ⟨by omega, by omega, by omega, (by first | exact Or.inr ⟨by decide, PX_deep (Or.inr k40) (by omega)⟩ | exact Or.inr ⟨by decide, PX_cn k40 k68 (fun z => by omega) (by omega)⟩ | exact Or.inl ⟨by decide, PX_co k40 k68 (by omega) (by omega)⟩ | exact Or.inr ⟨by decide, PX_con k40 (RSX_fl k65 (by omega))⟩ | (exfalso; omega)), by omega, (by first | exact IFZ.is (by rw [PID_opn k40]; exact CDS.wk (CDS.post (CDS.pre ks58 (IFZ.get k65z (by omega)) (Int.le_refl _)) ks74) (by omega) (by omega)) | exact IFZ.no (by first | decide | omega))⟩⟩
      · have pc180 := rv178.1.resolve_left c180
        have c180 := iv_ne (X := v178.toInt) (Y := 0) c180 rfl (by decide)
        have kt58 : tC m174 = tC m := tC_fz zR2 K177
        have kp58 : (m174 86 3).toInt = (m 86 3).toInt + 1 := by omega
        have ks58 : SAML lb m m174 := SAML.fz zR2 K177c
        have kl58 : (m174 lb 2).toInt = (m lb 2).toInt := congrArg Int32.toInt ks58.1
        refine pv_aload_n (M := mX7_readPiece) 0 dX7_readPiece_58 59 rfl rfl rfl ?_
        refine pv_iload_n (M := mX7_readPiece) 1 dX7_readPiece_59 60 rfl rfl rfl ?_
        refine pv_iconst (M := mX7_readPiece) (v := 1) dX7_readPiece_60 61 rfl (by decide) ?_
        refine pv_iadd (M := mX7_readPiece) (v := 4) dX7_readPiece_61 62 rfl (by decide) ?_
        have z187 : (4 : Int32).toInt = 4 := by decide
        refine pv_callv (M := mX7_readPiece) (as := [.int 4]) (st := []) (kc2 := 0) (ks2 := 0) dX7_readPiece_62 wd662 YX7_readCondition ⟨wd664, wd12⟩ (mk_get (tl86 hT)) rfl rfl (s_X7_readCondition_v4z g hT I176 R (by first | omega | assumption | exact (iv_rng _).2 | exact (iv_rng _).1 | decide) (TBC_eq hp1 kt58) (by first | omega | assumption | exact (iv_rng _).2 | exact (iv_rng _).1 | decide)) rfl rfl (Nat.le_of_ble_eq_true rfl) (by decide) rfl rfl 65 rfl (fun rv h1 q188 => ?_)
        obtain ⟨m189, n190, v193, rfl, rfl, I191, K192, pv193, qv193, rv193⟩ := q188
        replace rv193 : (m174 86 3).toInt ≤ (m189 86 3).toInt ∧ (m189 86 3).toInt ≤ (m189 86 2).toInt ∧ (m189 86 2).toInt = (m174 86 2).toInt ∧ (RSX (CN (tC m174) 2 (m174 86 3).toInt) v193.toInt (m189 86 3).toInt (m189 86 4).toInt) ∧ (m189 lb 7).toInt = (m174 lb 7).toInt ∧ IFZ v193.toInt (CDS lb m174 m189 8 (CND_ (tC m174) 2 (m174 86 3).toInt) ((m189 86 3).toInt - (m174 86 3).toInt)) := by have q_ := rv193; (try rw [z187] at q_); exact q_
        have K192c := K192
        have K192 := K177.trans (K192.sub (fun _ _ q => q))
        show PV _ _ _ _ _ _ _ 65 [.ref 86, .int 3, pv_U] [.int v193] _
        have k65 := rv193.2.2.2.1
        rw [kt58, kp58] at k65
        have k65z := rv193.2.2.2.2.2
        rw [kt58, kp58] at k65z
        refine pv_if_eq (M := mX7_readPiece) (tgt := 81) dX7_readPiece_65 68 rfl (by decide) (fun c198 => ?_) (fun c198 => ?_)
        · have c198 := iv_eq (X := v193.toInt) (Y := 0) c198 rfl (by decide)
          refine pv_iconst (M := mX7_readPiece) (v := 0) dX7_readPiece_81 82 rfl (by decide) ?_
          have z199 : (0 : Int32).toInt = 0 := by decide
          exact pv_iret (M := mX7_readPiece) dX7_readPiece_82 rfl rfl ⟨_, _, _, rfl, rfl, I191, K192, by decide, by decide, ⟨by omega, by omega, by omega, (by first | exact Or.inr ⟨by decide, PX_deep (Or.inr k40) (by omega)⟩ | exact Or.inr ⟨by decide, PX_cn k40 k68 (fun z => by omega) (by omega)⟩ | exact Or.inl ⟨by decide, PX_co k40 k68 (by omega) (by omega)⟩ | exact Or.inr ⟨by decide, PX_con k40 (RSX_fl k65 (by omega))⟩ | (exfalso; omega)), by omega, (by first | exact IFZ.is (by rw [PID_opn k40]; exact CDS.wk (CDS.post (CDS.pre ks58 (IFZ.get k65z (by omega)) (Int.le_refl _)) ks74) (by omega) (by omega)) | exact IFZ.no (by first | decide | omega))⟩⟩
        · have c198 := iv_ne (X := v193.toInt) (Y := 0) c198 rfl (by decide)
          have k68 := RSX_ok k65 (by omega)
          have kt68 : tC m189 = tC m := tC_fz zR2 K192
          refine pv_aload_n (M := mX7_readPiece) 0 dX7_readPiece_68 69 rfl rfl rfl ?_
          refine pv_bipush (M := mX7_readPiece) (v := 41) dX7_readPiece_69 71 rfl (by decide) ?_
          have z202 : (41 : Int32).toInt = 41 := by decide
          refine pv_callv (M := mX7_readPiece) (as := [.int 41]) (st := []) (kc2 := 0) (ks2 := 0) dX7_readPiece_71 wd555 YX7_pass ⟨wd557, wd8⟩ (mk_get (tl86 hT)) rfl rfl (s_X7_pass_vz g hT I191 R 41 (by decide) (by decide) (by first | omega | assumption | exact (iv_rng _).2 | exact (iv_rng _).1 | decide)) rfl rfl (Nat.le_of_ble_eq_true rfl) (by decide) rfl rfl 74 rfl (fun rv h1 q203 => ?_)
          obtain ⟨m204, n205, v208, rfl, rfl, I206, K207, pv208, qv208, rv208⟩ := q203
          replace rv208 : (m189 86 3).toInt ≤ (m204 86 3).toInt ∧ (m204 86 3).toInt ≤ (m204 86 2).toInt ∧ (m204 86 2).toInt = (m189 86 2).toInt ∧ ((v208.toInt = 1 ∧ tC m189 (m189 86 3).toInt = (41 : Int) ∧ (m204 86 3).toInt = (m189 86 3).toInt + 1) ∨ (v208.toInt = 0 ∧ tC m189 (m189 86 3).toInt ≠ (41 : Int) ∧ (m204 86 4).toInt = -1000 - (m189 86 3).toInt ∧ (m204 86 3).toInt = (m189 86 3).toInt)) ∧ (m204 lb 7).toInt = (m189 lb 7).toInt := by have q_ := rv208; (try rw [z202] at q_); exact q_
          have K207c := K207
          have w209 : (m204 86 2).toInt = (m189 86 2).toInt := congrArg Int32.toInt (K207 86 2 rfl)
          have K207 := K192.trans (K207.sub (by first | exact wZ_wY | exact wZ_86))
          show PV _ _ _ _ _ _ _ 74 [.ref 86, .int 3, pv_U] [.int v208] _
          have k74 := rv208.2.2.2.1
          rw [kt68] at k74
          have ks74 : SAML lb m189 m204 := SAML.fz zR2 K207c
          refine pv_if_eq (M := mX7_readPiece) (tgt := 81) dX7_readPiece_74 77 rfl (by decide) (fun c213 => ?_) (fun c213 => ?_)
          · have c213 := iv_eq (X := v208.toInt) (Y := 0) c213 rfl (by decide)
            refine pv_iconst (M := mX7_readPiece) (v := 0) dX7_readPiece_81 82 rfl (by decide) ?_
            have z214 : (0 : Int32).toInt = 0 := by decide
            exact pv_iret (M := mX7_readPiece) dX7_readPiece_82 rfl rfl ⟨_, _, _, rfl, rfl, I206, K207, by decide, by decide, ⟨by omega, by omega, by omega, (by first | exact Or.inr ⟨by decide, PX_deep (Or.inr k40) (by omega)⟩ | exact Or.inr ⟨by decide, PX_cn k40 k68 (fun z => by omega) (by omega)⟩ | exact Or.inl ⟨by decide, PX_co k40 k68 (by omega) (by omega)⟩ | exact Or.inr ⟨by decide, PX_con k40 (RSX_fl k65 (by omega))⟩ | (exfalso; omega)), by omega, (by first | exact IFZ.is (by rw [PID_opn k40]; exact CDS.wk (CDS.post (CDS.pre ks58 (IFZ.get k65z (by omega)) (Int.le_refl _)) ks74) (by omega) (by omega)) | exact IFZ.no (by first | decide | omega))⟩⟩
          · have c213 := iv_ne (X := v208.toInt) (Y := 0) c213 rfl (by decide)
            refine pv_iconst (M := mX7_readPiece) (v := 1) dX7_readPiece_77 78 rfl (by decide) ?_
            refine pv_goto (M := mX7_readPiece) (tgt := 82) dX7_readPiece_78 (by decide) ?_
            have z215 : (1 : Int32).toInt = 1 := by decide
            exact pv_iret (M := mX7_readPiece) dX7_readPiece_82 rfl rfl ⟨_, _, _, rfl, rfl, I206, K207, by decide, by decide, ⟨by omega, by omega, by omega, (by first | exact Or.inr ⟨by decide, PX_deep (Or.inr k40) (by omega)⟩ | exact Or.inr ⟨by decide, PX_cn k40 k68 (fun z => by omega) (by omega)⟩ | exact Or.inl ⟨by decide, PX_co k40 k68 (by omega) (by omega)⟩ | exact Or.inr ⟨by decide, PX_con k40 (RSX_fl k65 (by omega))⟩ | (exfalso; omega)), by omega, (by first | exact IFZ.is (by rw [PID_opn k40]; exact CDS.wk (CDS.post (CDS.pre ks58 (IFZ.get k65z (by omega)) (Int.le_refl _)) ks74) (by omega) (by omega)) | exact IFZ.no (by first | decide | omega))⟩⟩
  · have c5 := iv_eq (X := v2.toInt) (Y := 33) c5 rfl (by decide)
    have k33 : tC m (m 86 3).toInt = 33 := by omega
    refine pv_aload_n (M := mX7_readPiece) 0 dX7_readPiece_9 10 rfl rfl rfl ?_
    refine pv_iload_n (M := mX7_readPiece) 1 dX7_readPiece_10 11 rfl rfl rfl ?_
    have z217 : (3 : Int32).toInt = 3 := by decide
    refine pv_callv (M := mX7_readPiece) (as := [.int 3]) (st := []) (kc2 := 0) (ks2 := 0) dX7_readPiece_11 wd551 YX7_open ⟨wd553, wd7⟩ (mk_get (tl86 hT)) rfl rfl (s_X7_open_vz g hT I R 3 (by decide) (by decide) (by first | omega | assumption | exact (iv_rng _).2 | exact (iv_rng _).1 | decide)) rfl rfl (Nat.le_of_ble_eq_true rfl) (by decide) rfl rfl 14 rfl (fun rv h1 q218 => ?_)
    obtain ⟨m219, n220, v223, rfl, rfl, I221, K222, pv223, qv223, rv223⟩ := q218
    replace rv223 : (v223 = 0 ∨ (3 : Int) ≤ 5) ∧ (m 86 3).toInt ≤ (m219 86 3).toInt ∧ (m219 86 3).toInt ≤ (m219 86 2).toInt ∧ (m219 86 2).toInt = (m 86 2).toInt ∧ ((v223.toInt = 1 ∧ (3 : Int) ≤ 5 ∧ (m219 86 3).toInt = (m 86 3).toInt + 1) ∨ (v223.toInt = 0 ∧ 6 ≤ (3 : Int) ∧ (m219 86 4).toInt = -5000 - (m 86 3).toInt ∧ (m219 86 3).toInt = (m 86 3).toInt)) ∧ (m219 lb 7).toInt = (m lb 7).toInt := by have q_ := rv223; (try rw [z217] at q_); exact q_
    have K222c := K222
    have w224 : (m219 86 2).toInt = (m 86 2).toInt := congrArg Int32.toInt (K222 86 2 rfl)
    have K222 := Kp.trans (K222.sub (by first | exact wZ_wY | exact wZ_86))
    show PV _ _ _ _ _ _ _ 14 [.ref 86, .int 3, pv_U] [.int v223] _
    refine pv_if_eq (M := mX7_readPiece) (tgt := 27) dX7_readPiece_14 17 rfl (by decide) (fun c225 => ?_) (fun c225 => ?_)
    · have c225 := iv_eq (X := v223.toInt) (Y := 0) c225 rfl (by decide)
      refine pv_iconst (M := mX7_readPiece) (v := 0) dX7_readPiece_27 28 rfl (by decide) ?_
      have z226 : (0 : Int32).toInt = 0 := by decide
      exact pv_iret (M := mX7_readPiece) dX7_readPiece_28 rfl rfl ⟨_, _, _, rfl, rfl, I221, K222, by decide, by decide, ⟨by omega, by omega, by omega, (by first | exact Or.inr ⟨by decide, PX_deep (Or.inl k33) (by omega)⟩ | exact Or.inr ⟨by decide, by rw [PI_not k33]; exact RSX_fl k24 (by omega)⟩ | (exfalso; omega)), by omega, IFZ.no (by first | decide | omega)⟩⟩
    · have pc225 := rv223.1.resolve_left c225
      have c225 := iv_ne (X := v223.toInt) (Y := 0) c225 rfl (by decide)
      have kt17 : tC m219 = tC m := tC_fz zR2 K222
      have kp17 : (m219 86 3).toInt = (m 86 3).toInt + 1 := by omega
      have ks17 : SAML lb m m219 := SAML.fz zR2 K222c
      have kl17 : (m219 lb 2).toInt = (m lb 2).toInt := congrArg Int32.toInt ks17.1
      refine pv_aload_n (M := mX7_readPiece) 0 dX7_readPiece_17 18 rfl rfl rfl ?_
      refine pv_iload_n (M := mX7_readPiece) 1 dX7_readPiece_18 19 rfl rfl rfl ?_
      refine pv_iconst (M := mX7_readPiece) (v := 1) dX7_readPiece_19 20 rfl (by decide) ?_
      refine pv_iadd (M := mX7_readPiece) (v := 4) dX7_readPiece_20 21 rfl (by decide) ?_
      have z232 : (4 : Int32).toInt = 4 := by decide
      refine pv_callv (M := mX7_readPiece) (as := [.int 4]) (st := []) (kc2 := 0) (ks2 := 0) dX7_readPiece_21 wd674 YX7_readPiece ⟨wd676, wd14⟩ (mk_get (tl86 hT)) rfl rfl (s_X7_readPiece_v4z g hT I221 R (by first | omega | assumption | exact (iv_rng _).2 | exact (iv_rng _).1 | decide) (TBC_eq hp1 kt17) (by first | omega | assumption | exact (iv_rng _).2 | exact (iv_rng _).1 | decide)) rfl rfl (Nat.le_of_ble_eq_true rfl) (by decide) rfl rfl 24 rfl (fun rv h1 q233 => ?_)
      obtain ⟨m234, n235, v238, rfl, rfl, I236, K237, pv238, qv238, rv238⟩ := q233
      replace rv238 : (m219 86 3).toInt ≤ (m234 86 3).toInt ∧ (m234 86 3).toInt ≤ (m234 86 2).toInt ∧ (m234 86 2).toInt = (m219 86 2).toInt ∧ (RSX (PI (tC m219) 2 (m219 86 3).toInt) v238.toInt (m234 86 3).toInt (m234 86 4).toInt) ∧ (m234 lb 7).toInt = (m219 lb 7).toInt ∧ IFZ v238.toInt (CDS lb m219 m234 8 (PID (tC m219) 2 (m219 86 3).toInt) ((m234 86 3).toInt - (m219 86 3).toInt)) := by have q_ := rv238; (try rw [z232] at q_); exact q_
      have K237c := K237
      have K237 := K222.trans (K237.sub (fun _ _ q => q))
      show PV _ _ _ _ _ _ _ 24 [.ref 86, .int 3, pv_U] [.int v238] _
      have k24 := rv238.2.2.2.1
      rw [kt17, kp17] at k24
      have k24z := rv238.2.2.2.2.2
      rw [kt17, kp17] at k24z
      refine pv_if_ne (M := mX7_readPiece) (tgt := 29) dX7_readPiece_24 27 rfl (by decide) (fun c243 => ?_) (fun c243 => ?_)
      · have c243 := iv_ne (X := v238.toInt) (Y := 0) c243 rfl (by decide)
        have k29z := IFZ.get k24z (by omega)
        have k29b := CDS_b k29z
        refine pv_aload_n (M := mX7_readPiece) 0 dX7_readPiece_29 30 rfl rfl rfl ?_
        refine mv_get (M := mX7_readPiece) (v := .ref lb) dX7_readPiece_30 FX7 1 wd281 (by decide) (tl86 hT) rfl R.2.2.2.1 33 rfl ?_
        refine pv_bipush (M := mX7_readPiece) (v := 33) dX7_readPiece_33 35 rfl (by decide) ?_
        refine pv_iconst (M := mX7_readPiece) (v := 0) dX7_readPiece_35 36 rfl (by decide) ?_
        have z246 : (33 : Int32).toInt = 33 := by decide
        have z247 : (0 : Int32).toInt = 0 := by decide
        refine pv_callv (M := mX7_readPiece) (as := [.int 33, .int 0]) (st := []) (kc2 := 0) (ks2 := 0) dX7_readPiece_36 wd567 YX6_emit ⟨wd568, wd569⟩ (mk_get R.2.2.2.2.2.2.1) rfl rfl (s_X6_emit_vz g hT I236 lb R.2.2.2.2.2 33 0 (by decide) (by decide)) rfl rfl (Nat.le_of_ble_eq_true rfl) (by decide) rfl rfl 39 rfl (fun rv h1 q248 => ?_)
        obtain ⟨m249, n250, rfl, rfl, I251, K252, rm249⟩ := q248
        replace rm249 : (m249 lb 7).toInt = (m234 lb 7).toInt ∧ ((m234 lb 2).toInt < 160 → EMT lb m234 m249 (33 : Int) (0 : Int32)) := by have q_ := rm249; (try rw [z246] at q_); (try rw [z247] at q_); exact q_
        have K252c := K252
        have w253 : (m249 86 3).toInt = (m234 86 3).toInt := congrArg Int32.toInt (K252 86 3 (wY_out (by omega) (by omega) (by omega)))
        have w254 : (m249 86 2).toInt = (m234 86 2).toInt := congrArg Int32.toInt (K252 86 2 (wY_out (by omega) (by omega) (by omega)))
        have w255 : (m249 86 4).toInt = (m234 86 4).toInt := congrArg Int32.toInt (K252 86 4 (wY_out (by omega) (by omega) (by omega)))
        have K252 := K237.trans (K252.sub (by first | exact wZ_wY | exact wZ_86))
        show PV _ _ _ _ _ _ _ 39 [.ref 86, .int 3, pv_U] [] _
        have k39 := rm249.2 (by omega)
        refine pv_iconst (M := mX7_readPiece) (v := 1) dX7_readPiece_39 40 rfl (by decide) ?_
        have z257 : (1 : Int32).toInt = 1 := by decide
        exact pv_iret (M := mX7_readPiece) dX7_readPiece_40 rfl rfl ⟨_, _, _, rfl, rfl, I251, K252, by decide, by decide, ⟨by omega, by omega, by omega, Or.inl ⟨by decide, by rw [PI_not k33, RSX_ok k24 (by omega), show (m234 86 3).toInt = (m249 86 3).toInt by omega]⟩, by omega, IFZ.is (by rw [PID_not k33]; exact CDS.wk (CDS.not (CDS.pre ks17 k29z (Int.le_refl _)) k39 (Int.le_refl _) (by omega)) (by omega) (by omega))⟩⟩
      · have c243 := iv_eq (X := v238.toInt) (Y := 0) c243 rfl (by decide)
        refine pv_iconst (M := mX7_readPiece) (v := 0) dX7_readPiece_27 28 rfl (by decide) ?_
        have z258 : (0 : Int32).toInt = 0 := by decide
        exact pv_iret (M := mX7_readPiece) dX7_readPiece_28 rfl rfl ⟨_, _, _, rfl, rfl, I236, K237, by decide, by decide, ⟨by omega, by omega, by omega, (by first | exact Or.inr ⟨by decide, PX_deep (Or.inl k33) (by omega)⟩ | exact Or.inr ⟨by decide, by rw [PI_not k33]; exact RSX_fl k24 (by omega)⟩ | (exfalso; omega)), by omega, IFZ.no (by first | decide | omega)⟩⟩

set_option maxHeartbeats 2000000 in
set_option maxRecDepth 20000 in
theorem s_X7_readPart_v3z (g : pv_G) {T : List mv_T} {m : Nat → Nat → Int32} {n : Nat → Nat → Int64} {r : Nat → Value} {la lb : Nat} (hT : TX T) (I : IV BB m) (R : RX T r la lb) (hp0 : (m 86 3).toInt ≤ (m 86 2).toInt) (hp1 : TBC m) (hp2 : (m lb 2).toInt ≤ (m 86 3).toInt) : PM g mX7_readPart yX7_readPart (sqI T BB (wZ lb) r m 0 1 (fun m' v => (m 86 3).toInt ≤ (m' 86 3).toInt ∧ (m' 86 3).toInt ≤ (m' 86 2).toInt ∧ (m' 86 2).toInt = (m 86 2).toInt ∧ ((v.toInt = 0 ∨ (m 86 3).toInt + 1 ≤ (m' 86 3).toInt) ∧ TRX (CN (tC m) 3 (m 86 3).toInt) (LB (tC m) 3) (fun a => tC m a ≠ 38) v.toInt (m' 86 3).toInt (m' 86 4).toInt) ∧ (m' lb 7).toInt = (m lb 7).toInt ∧ IFZ v.toInt (PTZ (tC m) 3 lb m m' (m 86 3).toInt (m' 86 3).toInt))) 18 0 0 [.ref 86, .int 3] (mk T m n r) := by
  have Kp : fr (wZ lb) m m := fr.rf
  have R0 := R
  have zR := R.2.2.2.2.1.1
  have zR2 := R.2.2.2.2.2.1
  have z104 : 0 ≤ (m 86 3).toInt ∧ (m 86 3).toInt ≤ 160 := I 86 3
  have z105 : 0 ≤ (m 86 2).toInt ∧ (m 86 2).toInt ≤ 160 := I 86 2
  refine PM.of 2 (lo := [.ref 86, .int 3, pv_U, pv_U]) rfl (by decide) rfl rfl (Nat.le_of_ble_eq_true rfl) ?_
  have kTX := TXT_C I
  refine pv_aload_n (M := mX7_readPart) 0 dX7_readPart_0 1 rfl rfl rfl ?_
  refine mv_get (M := mX7_readPart) (v := .ref lb) dX7_readPart_1 FX7 1 wd281 (by decide) (tl86 hT) rfl R.2.2.2.1 4 rfl ?_
  refine pv_callv (M := mX7_readPart) (as := []) (st := []) (kc2 := 0) (ks2 := 0) dX7_readPart_4 wd666 YX6_steps ⟨wd667, wd668⟩ (mk_get R.2.2.2.2.2.2.1) rfl rfl (s_X6_steps_vz g hT I lb R.2.2.2.2.2) rfl rfl (Nat.le_of_ble_eq_true rfl) (by decide) rfl rfl 7 rfl (fun rv h1 q2 => ?_)
  obtain ⟨v3, rfl, rfl, pv3, qv3, rv3⟩ := q2
  replace rv3 : v3 = m lb 2 := rv3
  show PV _ _ _ _ _ _ _ 7 [.ref 86, .int 3, pv_U, pv_U] [.int v3] _
  have k7 : v3.toInt = (m lb 2).toInt := congrArg Int32.toInt rv3
  refine pv_istore_n (M := mX7_readPart) 2 (lo2 := [.ref 86, .int 3, .int v3, pv_U]) dX7_readPart_7 8 rfl rfl (by decide) rfl rfl ?_
  refine pv_iconst (M := mX7_readPart) (v := 0) dX7_readPart_8 9 rfl (by decide) ?_
  refine pv_istore_n (M := mX7_readPart) 3 (lo2 := [.ref 86, .int 3, .int v3, .int 0]) dX7_readPart_9 10 rfl rfl (by decide) rfl rfl ?_
  have lp11 : ∀ (fuel10 : Nat) (y5 : Int32) (m6 : Nat → Nat → Int32) (n7 : Nat → Nat → Int64), (0 ≤ y5.toInt) → (y5.toInt ≤ 160) → ((m6 86 3).toInt ≤ (m6 86 2).toInt) → ((m6 86 2).toInt = (m 86 2).toInt) → ((m6 lb 7).toInt = (m lb 7).toInt) → ((m 86 3).toInt + 2 * y5.toInt ≤ (m6 86 3).toInt) → (CN (tC m) 3 (m 86 3).toInt = CN (tC m) 3 (m6 86 3).toInt) → (PQZ (tC m) 3 lb m m6 (m 86 3).toInt (m6 86 3).toInt) → IV BB m6 → fr (wZ lb) m m6 → ((160 - y5.toInt) : Int).toNat < fuel10 → PV none g mX7_readPart (sqI T BB (wZ lb) r m 0 1 (fun m' v => (m 86 3).toInt ≤ (m' 86 3).toInt ∧ (m' 86 3).toInt ≤ (m' 86 2).toInt ∧ (m' 86 2).toInt = (m 86 2).toInt ∧ ((v.toInt = 0 ∨ (m 86 3).toInt + 1 ≤ (m' 86 3).toInt) ∧ TRX (CN (tC m) 3 (m 86 3).toInt) (LB (tC m) 3) (fun a => tC m a ≠ 38) v.toInt (m' 86 3).toInt (m' 86 4).toInt) ∧ (m' lb 7).toInt = (m lb 7).toInt ∧ IFZ v.toInt (PTZ (tC m) 3 lb m m' (m 86 3).toInt (m' 86 3).toInt))) 18 0 0 10 [.ref 86, .int 3, .int v3, .int y5] [] (mk T m6 n7 r) := by
    intro fuel10
    induction fuel10 with
    | zero => intro y5 m6 n7 b13 b14 b15 b16 b17 b18 b19 b20 I8 K9 z21; omega
    | succ fuel10 ih12 =>
      intro y5 m6 n7 b13 b14 b15 b16 b17 b18 b19 b20 I8 K9 z21
      have z22 : 0 ≤ (m6 86 3).toInt ∧ (m6 86 3).toInt ≤ 160 := I8 86 3
      have z23 : 0 ≤ (m6 86 2).toInt ∧ (m6 86 2).toInt ≤ 160 := I8 86 2
      have kgc := (show CN (tC m) 3 (m 86 3).toInt = CN (tC m) 3 (m6 86 3).toInt by assumption)
      have kt10 : tC m6 = tC m := tC_fz zR2 K9
      have kgz := (show PQZ (tC m) 3 lb m m6 (m 86 3).toInt (m6 86 3).toInt by assumption)
      have kgl := PQZ_b kgz
      refine pv_iload_n (M := mX7_readPart) 3 dX7_readPart_10 11 rfl rfl rfl ?_
      refine pv_sipush (M := mX7_readPart) (v := 160) dX7_readPart_11 14 rfl (by decide) ?_
      refine pv_icmp_ge (M := mX7_readPart) (tgt := 65) dX7_readPart_14 17 rfl (by decide) (fun c28 => ?_) (fun c28 => ?_)
      · have c28 := iv_le (X := 160) (Y := y5.toInt) c28 (by decide) rfl
        refine pv_aload_n (M := mX7_readPart) 0 dX7_readPart_65 66 rfl rfl rfl ?_
        refine mv_get (M := mX7_readPart) (v := .ref lb) dX7_readPart_66 FX7 1 wd281 (by decide) (tl86 hT) rfl R.2.2.2.1 69 rfl ?_
        refine pv_bipush (M := mX7_readPart) (v := 38) dX7_readPart_69 71 rfl (by decide) ?_
        refine pv_iload_n (M := mX7_readPart) 2 dX7_readPart_71 72 rfl rfl rfl ?_
        have z29 : (38 : Int32).toInt = 38 := by decide
        refine pv_callv (M := mX7_readPart) (as := [.int 38, .int v3]) (st := []) (kc2 := 0) (ks2 := 0) dX7_readPart_72 wd678 YX6_aimLeaps ⟨wd679, wd680⟩ (mk_get R.2.2.2.2.2.2.1) rfl rfl (s_X6_aimLeaps_vz g hT I8 lb R.2.2.2.2.2 38 v3 (by omega) (by omega)) rfl rfl (Nat.le_of_ble_eq_true rfl) (by decide) rfl rfl 75 rfl (fun rv h1 q30 => ?_)
        obtain ⟨m31, n32, rfl, rfl, I33, K34, rm31⟩ := q30
        replace rm31 : (m31 lb 7).toInt = (m6 lb 7).toInt ∧ AIMD lb m6 m31 (38 : Int) v3.toInt := by have q_ := rm31; (try rw [z29] at q_); exact q_
        have K34c := K34
        have w35 : (m31 86 3).toInt = (m6 86 3).toInt := congrArg Int32.toInt (K34 86 3 (wY_out (by omega) (by omega) (by omega)))
        have w36 : (m31 86 2).toInt = (m6 86 2).toInt := congrArg Int32.toInt (K34 86 2 (wY_out (by omega) (by omega) (by omega)))
        have w37 : (m31 86 4).toInt = (m6 86 4).toInt := congrArg Int32.toInt (K34 86 4 (wY_out (by omega) (by omega) (by omega)))
        have K34 := K9.trans (K34.sub (by first | exact wZ_wY | exact wZ_86))
        show PV _ _ _ _ _ _ _ 75 [.ref 86, .int 3, .int v3, .int y5] [] _
        have k75 := rm31.2
        refine pv_iconst (M := mX7_readPart) (v := 1) dX7_readPart_75 76 rfl (by decide) ?_
        have z39 : (1 : Int32).toInt = 1 := by decide
        exact pv_iret (M := mX7_readPart) dX7_readPart_76 rfl rfl ⟨_, _, _, rfl, rfl, I33, K34, by decide, by decide, ⟨by omega, by omega, by omega, (by first | exact ⟨Or.inr (by omega), Or.inl ⟨by decide, by rw [kgc, k27]; congr 1; omega, by show tC m (m31 86 3).toInt ≠ 38; rw [show (m31 86 3).toInt = (m6 86 3).toInt by omega, ← k31]; omega⟩⟩ | (exfalso; omega)), by omega, (by first | exact IFZ.is (by rw [show (m31 86 3).toInt = (m6 86 3).toInt by omega]; exact PRZ_e kzz k75 (by omega)) | exact IFZ.no (by omega))⟩⟩
      · have c28 := iv_nle (X := 160) (Y := y5.toInt) c28 (by decide) rfl
        refine pv_aload_n (M := mX7_readPart) 0 dX7_readPart_17 18 rfl rfl rfl ?_
        refine pv_iload_n (M := mX7_readPart) 1 dX7_readPart_18 19 rfl rfl rfl ?_
        have z40 : (3 : Int32).toInt = 3 := by decide
        refine pv_callv (M := mX7_readPart) (as := [.int 3]) (st := []) (kc2 := 0) (ks2 := 0) dX7_readPart_19 wd674 YX7_readPiece ⟨wd676, wd14⟩ (mk_get (tl86 hT)) rfl rfl (s_X7_readPiece_v3z g hT I8 R (by first | omega | assumption | exact (iv_rng _).2 | exact (iv_rng _).1 | decide) (TBC_eq hp1 kt10) (by first | omega | assumption | exact (iv_rng _).2 | exact (iv_rng _).1 | decide)) rfl rfl (Nat.le_of_ble_eq_true rfl) (by decide) rfl rfl 22 rfl (fun rv h1 q41 => ?_)
        obtain ⟨m42, n43, v46, rfl, rfl, I44, K45, pv46, qv46, rv46⟩ := q41
        replace rv46 : (m6 86 3).toInt ≤ (m42 86 3).toInt ∧ (m42 86 3).toInt ≤ (m42 86 2).toInt ∧ (m42 86 2).toInt = (m6 86 2).toInt ∧ (RSX (PI (tC m6) 3 (m6 86 3).toInt) v46.toInt (m42 86 3).toInt (m42 86 4).toInt) ∧ (m42 lb 7).toInt = (m6 lb 7).toInt ∧ IFZ v46.toInt (CDS lb m6 m42 10 (PID (tC m6) 3 (m6 86 3).toInt) ((m42 86 3).toInt - (m6 86 3).toInt)) := by have q_ := rv46; (try rw [z40] at q_); exact q_
        have K45c := K45
        have K45 := K9.trans (K45.sub (fun _ _ q => q))
        show PV _ _ _ _ _ _ _ 22 [.ref 86, .int 3, .int v3, .int y5] [.int v46] _
        have k22 := rv46.2.2.2.1
        rw [kt10] at k22
        have k22z := rv46.2.2.2.2.2
        rw [kt10] at k22z
        refine pv_if_ne (M := mX7_readPart) (tgt := 27) dX7_readPart_22 25 rfl (by decide) (fun c51 => ?_) (fun c51 => ?_)
        · have c51 := iv_ne (X := v46.toInt) (Y := 0) c51 rfl (by decide)
          have k27o := RSX_ok k22 (by omega)
          have k27 := CN_ok k27o
          have k27p := PI_le 3 (m6 86 3).toInt (by rw [k27o])
          rw [k27o] at k27p
          have kt27 : tC m42 = tC m := tC_fz zR2 K45
          have kzz : PRZ (tC m) 3 lb m m42 (m 86 3).toInt (m42 86 3).toInt := PQZ_p kgz k27o (IFZ.get k22z (by omega))
          have kzb := PRZ_b kzz
          refine pv_aload_n (M := mX7_readPart) 0 dX7_readPart_27 28 rfl rfl rfl ?_
          refine pv_callv (M := mX7_readPart) (as := []) (st := []) (kc2 := 0) (ks2 := 0) dX7_readPart_28 wd527 YX7_peek ⟨wd529, wd2⟩ (mk_get (tl86 hT)) rfl rfl (s_X7_peek_vx g hT I44 R) rfl rfl (Nat.le_of_ble_eq_true rfl) (by decide) rfl rfl 31 rfl (fun rv h1 q59 => ?_)
          obtain ⟨v60, rfl, rfl, pv60, qv60, rv60⟩ := q59
          replace rv60 : v60.toInt = tC m42 (m42 86 3).toInt ∧ (v60.toInt = -1 ∨ (m42 86 3).toInt < (m42 86 2).toInt) := rv60
          show PV _ _ _ _ _ _ _ 31 [.ref 86, .int 3, .int v3, .int y5] [.int v60] _
          have k31 := rv60.1
          have k31b := rv60.2
          rw [kt27] at k31
          refine pv_bipush (M := mX7_readPart) (v := 38) dX7_readPart_31 33 rfl (by decide) ?_
          refine pv_icmp_eq (M := mX7_readPart) (tgt := 39) dX7_readPart_33 36 rfl (by decide) (fun c64 => ?_) (fun c64 => ?_)
          · have c64 := iv_eq (X := v60.toInt) (Y := 38) c64 rfl (by decide)
            have kB : isB (tC m (m42 86 3).toInt) = true := isB_y (by omega)
            refine pv_aload_n (M := mX7_readPart) 0 dX7_readPart_39 40 rfl rfl rfl ?_
            refine mv_get (M := mX7_readPart) (v := .ref lb) dX7_readPart_40 FX7 1 wd281 (by decide) (tl86 hT) rfl R.2.2.2.1 43 rfl ?_
            refine pv_bipush (M := mX7_readPart) (v := 38) dX7_readPart_43 45 rfl (by decide) ?_
            refine pv_iconst (M := mX7_readPart) (v := (-1)) dX7_readPart_45 46 rfl (by decide) ?_
            have z66 : (38 : Int32).toInt = 38 := by decide
            have z67 : ((-1) : Int32).toInt = (-1) := by decide
            refine pv_callv (M := mX7_readPart) (as := [.int 38, .int (-1)]) (st := []) (kc2 := 0) (ks2 := 0) dX7_readPart_46 wd567 YX6_emit ⟨wd568, wd569⟩ (mk_get R.2.2.2.2.2.2.1) rfl rfl (s_X6_emit_vz g hT I44 lb R.2.2.2.2.2 38 (-1) (by decide) (by decide)) rfl rfl (Nat.le_of_ble_eq_true rfl) (by decide) rfl rfl 49 rfl (fun rv h1 q68 => ?_)
            obtain ⟨m69, n70, rfl, rfl, I71, K72, rm69⟩ := q68
            replace rm69 : (m69 lb 7).toInt = (m42 lb 7).toInt ∧ ((m42 lb 2).toInt < 160 → EMT lb m42 m69 (38 : Int) ((-1) : Int32)) := by have q_ := rm69; (try rw [z66] at q_); (try rw [z67] at q_); exact q_
            have K72c := K72
            have w73 : (m69 86 3).toInt = (m42 86 3).toInt := congrArg Int32.toInt (K72 86 3 (wY_out (by omega) (by omega) (by omega)))
            have w74 : (m69 86 2).toInt = (m42 86 2).toInt := congrArg Int32.toInt (K72 86 2 (wY_out (by omega) (by omega) (by omega)))
            have w75 : (m69 86 4).toInt = (m42 86 4).toInt := congrArg Int32.toInt (K72 86 4 (wY_out (by omega) (by omega) (by omega)))
            have K72 := K45.trans (K72.sub (by first | exact wZ_wY | exact wZ_86))
            show PV _ _ _ _ _ _ _ 49 [.ref 86, .int 3, .int v3, .int y5] [] _
            have k49 := rm69.2 (by omega)
            refine pv_aload_n (M := mX7_readPart) 0 dX7_readPart_49 50 rfl rfl rfl ?_
            refine pv_dup (M := mX7_readPart) dX7_readPart_50 51 rfl rfl ?_
            refine iv_get (M := mX7_readPart) (l1 := 0) (l2 := 160) dX7_readPart_51 FX7 3 wd283 (by decide) (tl86 hT) rfl I71 rfl 54 rfl (fun v77 ev77 pv77 qv77 => ?_)
            have wv77 : v77.toInt = (m69 86 3).toInt := congrArg Int32.toInt ev77
            refine pv_iconst (M := mX7_readPart) (v := 1) dX7_readPart_54 55 rfl (by decide) ?_
            refine iv_iadd (M := mX7_readPart) (X := v77.toInt) (Y := 1) dX7_readPart_55 56 rfl rfl (by decide) (by omega) (by omega) (fun v78 ev78 => ?_)
            refine iv_put (M := mX7_readPart) (l1 := 0) (l2 := 160) dX7_readPart_56 FX7 3 wd283 (by decide) rfl (tl86 hT) rfl rfl rfl I71 rfl (by omega) (by omega) 59 rfl (fun m79 e82 I80 => ?_)
            have K81 := K72.set e82 (by first | rfl | decide)
            have w83 : (m79 86 3).toInt = v78.toInt := by rw [e82, up2_eq]
            have w84 : (m79 86 2).toInt = (m69 86 2).toInt := by rw [e82, up2_ne (by omega)]
            have w85 : (m79 86 4).toInt = (m69 86 4).toInt := by rw [e82, up2_ne (by omega)]
            have w86 : (m79 lb 7).toInt = (m69 lb 7).toInt := by rw [e82, up2_ne (by omega)]
            have w87 : (m79 lb 2).toInt = (m69 lb 2).toInt := by rw [e82, up2_ne (by omega)]
            refine iv_inc (M := mX7_readPart) (C := 1) dX7_readPart_59 62 rfl rfl (by decide) rfl rfl (by decide) (by omega) (by omega) (fun v88 ev88 => ?_)
            show PV _ _ _ _ _ _ _ 62 [.ref 86, .int 3, .int v3, .int v88] [] _
            refine pv_goto (M := mX7_readPart) (tgt := 10) dX7_readPart_62 (by decide) ?_
            have kbc : CN (tC m) 3 (m 86 3).toInt = CN (tC m) 3 (m79 86 3).toInt := by rw [kgc, k27, LB_cn kTX (by omega) kB]; congr 1; omega
            have kbz : PQZ (tC m) 3 lb m m79 (m 86 3).toInt (m79 86 3).toInt := PRZ_l kzz kTX (by omega) (show tC m (m42 86 3).toInt = 38 by omega) k49 (by decide) (SAML.set zR2 e82) (by omega)
            exact ih12 v88 m79 n70 (by first | omega | assumption | exact (iv_rng _).2 | exact (iv_rng _).1 | decide) (by first | omega | assumption | exact (iv_rng _).2 | exact (iv_rng _).1 | decide) (by first | omega | assumption | (show (m79 86 3).toInt ≤ (m79 86 2).toInt; omega) | decide) (by first | omega | assumption | (show (m79 86 2).toInt = (m 86 2).toInt; omega) | decide) (by first | omega | assumption | (show (m79 lb 7).toInt = (m lb 7).toInt; omega) | decide) (by first | omega | assumption | (show (m 86 3).toInt + 2 * v88.toInt ≤ (m79 86 3).toInt; omega) | decide) kbc kbz I80 K81 (by omega)
          · have c64 := iv_ne (X := v60.toInt) (Y := 38) c64 rfl (by decide)
            refine pv_goto (M := mX7_readPart) (tgt := 65) dX7_readPart_36 (by decide) ?_
            refine pv_aload_n (M := mX7_readPart) 0 dX7_readPart_65 66 rfl rfl rfl ?_
            refine mv_get (M := mX7_readPart) (v := .ref lb) dX7_readPart_66 FX7 1 wd281 (by decide) (tl86 hT) rfl R.2.2.2.1 69 rfl ?_
            refine pv_bipush (M := mX7_readPart) (v := 38) dX7_readPart_69 71 rfl (by decide) ?_
            refine pv_iload_n (M := mX7_readPart) 2 dX7_readPart_71 72 rfl rfl rfl ?_
            have z91 : (38 : Int32).toInt = 38 := by decide
            refine pv_callv (M := mX7_readPart) (as := [.int 38, .int v3]) (st := []) (kc2 := 0) (ks2 := 0) dX7_readPart_72 wd678 YX6_aimLeaps ⟨wd679, wd680⟩ (mk_get R.2.2.2.2.2.2.1) rfl rfl (s_X6_aimLeaps_vz g hT I44 lb R.2.2.2.2.2 38 v3 (by omega) (by omega)) rfl rfl (Nat.le_of_ble_eq_true rfl) (by decide) rfl rfl 75 rfl (fun rv h1 q92 => ?_)
            obtain ⟨m93, n94, rfl, rfl, I95, K96, rm93⟩ := q92
            replace rm93 : (m93 lb 7).toInt = (m42 lb 7).toInt ∧ AIMD lb m42 m93 (38 : Int) v3.toInt := by have q_ := rm93; (try rw [z91] at q_); exact q_
            have K96c := K96
            have w97 : (m93 86 3).toInt = (m42 86 3).toInt := congrArg Int32.toInt (K96 86 3 (wY_out (by omega) (by omega) (by omega)))
            have w98 : (m93 86 2).toInt = (m42 86 2).toInt := congrArg Int32.toInt (K96 86 2 (wY_out (by omega) (by omega) (by omega)))
            have w99 : (m93 86 4).toInt = (m42 86 4).toInt := congrArg Int32.toInt (K96 86 4 (wY_out (by omega) (by omega) (by omega)))
            have K96 := K45.trans (K96.sub (by first | exact wZ_wY | exact wZ_86))
            show PV _ _ _ _ _ _ _ 75 [.ref 86, .int 3, .int v3, .int y5] [] _
            have k75 := rm93.2
            refine pv_iconst (M := mX7_readPart) (v := 1) dX7_readPart_75 76 rfl (by decide) ?_
            have z101 : (1 : Int32).toInt = 1 := by decide
            exact pv_iret (M := mX7_readPart) dX7_readPart_76 rfl rfl ⟨_, _, _, rfl, rfl, I95, K96, by decide, by decide, ⟨by omega, by omega, by omega, (by first | exact ⟨Or.inr (by omega), Or.inl ⟨by decide, by rw [kgc, k27]; congr 1; omega, by show tC m (m93 86 3).toInt ≠ 38; rw [show (m93 86 3).toInt = (m42 86 3).toInt by omega, ← k31]; omega⟩⟩ | (exfalso; omega)), by omega, (by first | exact IFZ.is (by rw [show (m93 86 3).toInt = (m42 86 3).toInt by omega]; exact PRZ_e kzz k75 (by omega)) | exact IFZ.no (by omega))⟩⟩
        · have c51 := iv_eq (X := v46.toInt) (Y := 0) c51 rfl (by decide)
          refine pv_iconst (M := mX7_readPart) (v := 0) dX7_readPart_25 26 rfl (by decide) ?_
          have z102 : (0 : Int32).toInt = 0 := by decide
          exact pv_iret (M := mX7_readPart) dX7_readPart_26 rfl rfl ⟨_, _, _, rfl, rfl, I44, K45, by decide, by decide, ⟨by omega, by omega, by omega, ⟨Or.inl (by decide), Or.inr ⟨by decide, by rw [kgc]; exact CN_fl (RSX_fl k22 (by omega))⟩⟩, by omega, IFZ.no (by first | decide | omega)⟩⟩
  have z103 : (0 : Int32).toInt = 0 := by decide
  exact lp11 (((160 - 0) : Int).toNat + 1) 0 m n (by first | omega | assumption | exact (iv_rng _).2 | exact (iv_rng _).1 | decide) (by first | omega | assumption | exact (iv_rng _).2 | exact (iv_rng _).1 | decide) (by first | omega | assumption | (show (m 86 3).toInt ≤ (m 86 2).toInt; omega) | decide) (by first | omega | assumption | (show (m 86 2).toInt = (m 86 2).toInt; omega) | decide) (by first | omega | assumption | (show (m lb 7).toInt = (m lb 7).toInt; omega) | decide) (by first | omega | assumption | (show (m 86 3).toInt + 2 * 0 ≤ (m 86 3).toInt; omega) | decide) rfl (PQZ_0 (by omega)) I Kp (by omega)

set_option maxHeartbeats 2000000 in
set_option maxRecDepth 20000 in
theorem s_X7_readCondition_v3z (g : pv_G) {T : List mv_T} {m : Nat → Nat → Int32} {n : Nat → Nat → Int64} {r : Nat → Value} {la lb : Nat} (hT : TX T) (I : IV BB m) (R : RX T r la lb) (hp0 : (m 86 3).toInt ≤ (m 86 2).toInt) (hp1 : TBC m) (hp2 : (m lb 2).toInt ≤ (m 86 3).toInt) : PM g mX7_readCondition yX7_readCondition (sqI T BB (wZ lb) r m 0 1 (fun m' v => (m 86 3).toInt ≤ (m' 86 3).toInt ∧ (m' 86 3).toInt ≤ (m' 86 2).toInt ∧ (m' 86 2).toInt = (m 86 2).toInt ∧ (RSX (CN (tC m) 3 (m 86 3).toInt) v.toInt (m' 86 3).toInt (m' 86 4).toInt) ∧ (m' lb 7).toInt = (m lb 7).toInt ∧ IFZ v.toInt (CDS lb m m' 10 (CND_ (tC m) 3 (m 86 3).toInt) ((m' 86 3).toInt - (m 86 3).toInt)))) 19 0 0 [.ref 86, .int 3] (mk T m n r) := by
  have Kp : fr (wZ lb) m m := fr.rf
  have R0 := R
  have zR := R.2.2.2.2.1.1
  have zR2 := R.2.2.2.2.2.1
  have z103 : 0 ≤ (m 86 3).toInt ∧ (m 86 3).toInt ≤ 160 := I 86 3
  have z104 : 0 ≤ (m 86 2).toInt ∧ (m 86 2).toInt ≤ 160 := I 86 2
  refine PM.of 2 (lo := [.ref 86, .int 3, pv_U, pv_U]) rfl (by decide) rfl rfl (Nat.le_of_ble_eq_true rfl) ?_
  have kTX := TXT_C I
  refine pv_aload_n (M := mX7_readCondition) 0 dX7_readCondition_0 1 rfl rfl rfl ?_
  refine mv_get (M := mX7_readCondition) (v := .ref lb) dX7_readCondition_1 FX7 1 wd281 (by decide) (tl86 hT) rfl R.2.2.2.1 4 rfl ?_
  refine pv_callv (M := mX7_readCondition) (as := []) (st := []) (kc2 := 0) (ks2 := 0) dX7_readCondition_4 wd666 YX6_steps ⟨wd667, wd668⟩ (mk_get R.2.2.2.2.2.2.1) rfl rfl (s_X6_steps_vz g hT I lb R.2.2.2.2.2) rfl rfl (Nat.le_of_ble_eq_true rfl) (by decide) rfl rfl 7 rfl (fun rv h1 q2 => ?_)
  obtain ⟨v3, rfl, rfl, pv3, qv3, rv3⟩ := q2
  replace rv3 : v3 = m lb 2 := rv3
  show PV _ _ _ _ _ _ _ 7 [.ref 86, .int 3, pv_U, pv_U] [.int v3] _
  have k7 : v3.toInt = (m lb 2).toInt := congrArg Int32.toInt rv3
  refine pv_istore_n (M := mX7_readCondition) 2 (lo2 := [.ref 86, .int 3, .int v3, pv_U]) dX7_readCondition_7 8 rfl rfl (by decide) rfl rfl ?_
  refine pv_iconst (M := mX7_readCondition) (v := 0) dX7_readCondition_8 9 rfl (by decide) ?_
  refine pv_istore_n (M := mX7_readCondition) 3 (lo2 := [.ref 86, .int 3, .int v3, .int 0]) dX7_readCondition_9 10 rfl rfl (by decide) rfl rfl ?_
  have lp11 : ∀ (fuel10 : Nat) (y5 : Int32) (m6 : Nat → Nat → Int32) (n7 : Nat → Nat → Int64), (0 ≤ y5.toInt) → (y5.toInt ≤ 160) → ((m6 86 3).toInt ≤ (m6 86 2).toInt) → ((m6 86 2).toInt = (m 86 2).toInt) → ((m6 lb 7).toInt = (m lb 7).toInt) → ((m 86 3).toInt + 2 * y5.toInt ≤ (m6 86 3).toInt) → (CN (tC m) 3 (m 86 3).toInt = CN (tC m) 3 (m6 86 3).toInt) → (CQZ (tC m) 3 lb m m6 (m 86 3).toInt (m6 86 3).toInt) → IV BB m6 → fr (wZ lb) m m6 → ((160 - y5.toInt) : Int).toNat < fuel10 → PV none g mX7_readCondition (sqI T BB (wZ lb) r m 0 1 (fun m' v => (m 86 3).toInt ≤ (m' 86 3).toInt ∧ (m' 86 3).toInt ≤ (m' 86 2).toInt ∧ (m' 86 2).toInt = (m 86 2).toInt ∧ (RSX (CN (tC m) 3 (m 86 3).toInt) v.toInt (m' 86 3).toInt (m' 86 4).toInt) ∧ (m' lb 7).toInt = (m lb 7).toInt ∧ IFZ v.toInt (CDS lb m m' 10 (CND_ (tC m) 3 (m 86 3).toInt) ((m' 86 3).toInt - (m 86 3).toInt)))) 19 0 0 10 [.ref 86, .int 3, .int v3, .int y5] [] (mk T m6 n7 r) := by
    intro fuel10
    induction fuel10 with
    | zero => intro y5 m6 n7 b13 b14 b15 b16 b17 b18 b19 b20 I8 K9 z21; omega
    | succ fuel10 ih12 =>
      intro y5 m6 n7 b13 b14 b15 b16 b17 b18 b19 b20 I8 K9 z21
      have z22 : 0 ≤ (m6 86 3).toInt ∧ (m6 86 3).toInt ≤ 160 := I8 86 3
      have z23 : 0 ≤ (m6 86 2).toInt ∧ (m6 86 2).toInt ≤ 160 := I8 86 2
      have kgc := (show CN (tC m) 3 (m 86 3).toInt = CN (tC m) 3 (m6 86 3).toInt by assumption)
      have kt10 : tC m6 = tC m := tC_fz zR2 K9
      have kgz := (show CQZ (tC m) 3 lb m m6 (m 86 3).toInt (m6 86 3).toInt by assumption)
      have kgl := CQZ_b kgz
      refine pv_iload_n (M := mX7_readCondition) 3 dX7_readCondition_10 11 rfl rfl rfl ?_
      refine pv_sipush (M := mX7_readCondition) (v := 160) dX7_readCondition_11 14 rfl (by decide) ?_
      refine pv_icmp_ge (M := mX7_readCondition) (tgt := 65) dX7_readCondition_14 17 rfl (by decide) (fun c28 => ?_) (fun c28 => ?_)
      · have c28 := iv_le (X := 160) (Y := y5.toInt) c28 (by decide) rfl
        refine pv_aload_n (M := mX7_readCondition) 0 dX7_readCondition_65 66 rfl rfl rfl ?_
        refine mv_get (M := mX7_readCondition) (v := .ref lb) dX7_readCondition_66 FX7 1 wd281 (by decide) (tl86 hT) rfl R.2.2.2.1 69 rfl ?_
        refine pv_bipush (M := mX7_readCondition) (v := 124) dX7_readCondition_69 71 rfl (by decide) ?_
        refine pv_iload_n (M := mX7_readCondition) 2 dX7_readCondition_71 72 rfl rfl rfl ?_
        have z29 : (124 : Int32).toInt = 124 := by decide
        refine pv_callv (M := mX7_readCondition) (as := [.int 124, .int v3]) (st := []) (kc2 := 0) (ks2 := 0) dX7_readCondition_72 wd678 YX6_aimLeaps ⟨wd679, wd680⟩ (mk_get R.2.2.2.2.2.2.1) rfl rfl (s_X6_aimLeaps_vz g hT I8 lb R.2.2.2.2.2 124 v3 (by omega) (by omega)) rfl rfl (Nat.le_of_ble_eq_true rfl) (by decide) rfl rfl 75 rfl (fun rv h1 q30 => ?_)
        obtain ⟨m31, n32, rfl, rfl, I33, K34, rm31⟩ := q30
        replace rm31 : (m31 lb 7).toInt = (m6 lb 7).toInt ∧ AIMD lb m6 m31 (124 : Int) v3.toInt := by have q_ := rm31; (try rw [z29] at q_); exact q_
        have K34c := K34
        have w35 : (m31 86 3).toInt = (m6 86 3).toInt := congrArg Int32.toInt (K34 86 3 (wY_out (by omega) (by omega) (by omega)))
        have w36 : (m31 86 2).toInt = (m6 86 2).toInt := congrArg Int32.toInt (K34 86 2 (wY_out (by omega) (by omega) (by omega)))
        have w37 : (m31 86 4).toInt = (m6 86 4).toInt := congrArg Int32.toInt (K34 86 4 (wY_out (by omega) (by omega) (by omega)))
        have K34 := K9.trans (K34.sub (by first | exact wZ_wY | exact wZ_86))
        show PV _ _ _ _ _ _ _ 75 [.ref 86, .int 3, .int v3, .int y5] [] _
        have k75 := rm31.2
        refine pv_iconst (M := mX7_readCondition) (v := 1) dX7_readCondition_75 76 rfl (by decide) ?_
        have z39 : (1 : Int32).toInt = 1 := by decide
        exact pv_iret (M := mX7_readCondition) dX7_readCondition_76 rfl rfl ⟨_, _, _, rfl, rfl, I33, K34, by decide, by decide, ⟨by omega, by omega, by omega, (by first | exact Or.inl ⟨by decide, by rw [kgc, k27, LB_no (isB_no k27n (by rw [← k31]; omega))]; congr 1; omega⟩ | (exfalso; omega)), by omega, (by first | exact IFZ.is (by rw [show (m31 86 3).toInt = (m6 86 3).toInt by omega]; exact CRZ_e kzz (isB_no k27n (by rw [← k31]; omega)) k75 (by omega)) | exact IFZ.no (by omega))⟩⟩
      · have c28 := iv_nle (X := 160) (Y := y5.toInt) c28 (by decide) rfl
        refine pv_aload_n (M := mX7_readCondition) 0 dX7_readCondition_17 18 rfl rfl rfl ?_
        refine pv_iload_n (M := mX7_readCondition) 1 dX7_readCondition_18 19 rfl rfl rfl ?_
        have z40 : (3 : Int32).toInt = 3 := by decide
        refine pv_callv (M := mX7_readCondition) (as := [.int 3]) (st := []) (kc2 := 0) (ks2 := 0) dX7_readCondition_19 wd670 YX7_readPart ⟨wd672, wd13⟩ (mk_get (tl86 hT)) rfl rfl (s_X7_readPart_v3z g hT I8 R (by first | omega | assumption | exact (iv_rng _).2 | exact (iv_rng _).1 | decide) (TBC_eq hp1 kt10) (by first | omega | assumption | exact (iv_rng _).2 | exact (iv_rng _).1 | decide)) rfl rfl (Nat.le_of_ble_eq_true rfl) (by decide) rfl rfl 22 rfl (fun rv h1 q41 => ?_)
        obtain ⟨m42, n43, v46, rfl, rfl, I44, K45, pv46, qv46, rv46⟩ := q41
        replace rv46 : (m6 86 3).toInt ≤ (m42 86 3).toInt ∧ (m42 86 3).toInt ≤ (m42 86 2).toInt ∧ (m42 86 2).toInt = (m6 86 2).toInt ∧ ((v46.toInt = 0 ∨ (m6 86 3).toInt + 1 ≤ (m42 86 3).toInt) ∧ TRX (CN (tC m6) 3 (m6 86 3).toInt) (LB (tC m6) 3) (fun a => tC m6 a ≠ 38) v46.toInt (m42 86 3).toInt (m42 86 4).toInt) ∧ (m42 lb 7).toInt = (m6 lb 7).toInt ∧ IFZ v46.toInt (PTZ (tC m6) 3 lb m6 m42 (m6 86 3).toInt (m42 86 3).toInt) := by have q_ := rv46; (try rw [z40] at q_); exact q_
        have K45c := K45
        have K45 := K9.trans (K45.sub (fun _ _ q => q))
        show PV _ _ _ _ _ _ _ 22 [.ref 86, .int 3, .int v3, .int y5] [.int v46] _
        have k22 := rv46.2.2.2.1.2
        have k22p := rv46.2.2.2.1.1
        rw [kt10] at k22
        have k22z := rv46.2.2.2.2.2
        rw [kt10] at k22z
        refine pv_if_ne (M := mX7_readCondition) (tgt := 27) dX7_readCondition_22 25 rfl (by decide) (fun c52 => ?_) (fun c52 => ?_)
        · have c52 := iv_ne (X := v46.toInt) (Y := 0) c52 rfl (by decide)
          have k27 := (TRX_ok k22 (by omega)).1
          have k27n := (TRX_ok k22 (by omega)).2
          have kt27 : tC m42 = tC m := tC_fz zR2 K45
          have kzz : CRZ (tC m) 3 lb m m42 (m 86 3).toInt (m42 86 3).toInt := CQZ_p kgz (IFZ.get k22z (by omega))
          have kzb := CRZ_b kzz
          refine pv_aload_n (M := mX7_readCondition) 0 dX7_readCondition_27 28 rfl rfl rfl ?_
          refine pv_callv (M := mX7_readCondition) (as := []) (st := []) (kc2 := 0) (ks2 := 0) dX7_readCondition_28 wd527 YX7_peek ⟨wd529, wd2⟩ (mk_get (tl86 hT)) rfl rfl (s_X7_peek_vx g hT I44 R) rfl rfl (Nat.le_of_ble_eq_true rfl) (by decide) rfl rfl 31 rfl (fun rv h1 q58 => ?_)
          obtain ⟨v59, rfl, rfl, pv59, qv59, rv59⟩ := q58
          replace rv59 : v59.toInt = tC m42 (m42 86 3).toInt ∧ (v59.toInt = -1 ∨ (m42 86 3).toInt < (m42 86 2).toInt) := rv59
          show PV _ _ _ _ _ _ _ 31 [.ref 86, .int 3, .int v3, .int y5] [.int v59] _
          have k31 := rv59.1
          have k31b := rv59.2
          rw [kt27] at k31
          refine pv_bipush (M := mX7_readCondition) (v := 124) dX7_readCondition_31 33 rfl (by decide) ?_
          refine pv_icmp_eq (M := mX7_readCondition) (tgt := 39) dX7_readCondition_33 36 rfl (by decide) (fun c63 => ?_) (fun c63 => ?_)
          · have c63 := iv_eq (X := v59.toInt) (Y := 124) c63 rfl (by decide)
            have kB : isB (tC m (m42 86 3).toInt) = true := isB_y (by omega)
            refine pv_aload_n (M := mX7_readCondition) 0 dX7_readCondition_39 40 rfl rfl rfl ?_
            refine mv_get (M := mX7_readCondition) (v := .ref lb) dX7_readCondition_40 FX7 1 wd281 (by decide) (tl86 hT) rfl R.2.2.2.1 43 rfl ?_
            refine pv_bipush (M := mX7_readCondition) (v := 124) dX7_readCondition_43 45 rfl (by decide) ?_
            refine pv_iconst (M := mX7_readCondition) (v := (-1)) dX7_readCondition_45 46 rfl (by decide) ?_
            have z65 : (124 : Int32).toInt = 124 := by decide
            have z66 : ((-1) : Int32).toInt = (-1) := by decide
            refine pv_callv (M := mX7_readCondition) (as := [.int 124, .int (-1)]) (st := []) (kc2 := 0) (ks2 := 0) dX7_readCondition_46 wd567 YX6_emit ⟨wd568, wd569⟩ (mk_get R.2.2.2.2.2.2.1) rfl rfl (s_X6_emit_vz g hT I44 lb R.2.2.2.2.2 124 (-1) (by decide) (by decide)) rfl rfl (Nat.le_of_ble_eq_true rfl) (by decide) rfl rfl 49 rfl (fun rv h1 q67 => ?_)
            obtain ⟨m68, n69, rfl, rfl, I70, K71, rm68⟩ := q67
            replace rm68 : (m68 lb 7).toInt = (m42 lb 7).toInt ∧ ((m42 lb 2).toInt < 160 → EMT lb m42 m68 (124 : Int) ((-1) : Int32)) := by have q_ := rm68; (try rw [z65] at q_); (try rw [z66] at q_); exact q_
            have K71c := K71
            have w72 : (m68 86 3).toInt = (m42 86 3).toInt := congrArg Int32.toInt (K71 86 3 (wY_out (by omega) (by omega) (by omega)))
            have w73 : (m68 86 2).toInt = (m42 86 2).toInt := congrArg Int32.toInt (K71 86 2 (wY_out (by omega) (by omega) (by omega)))
            have w74 : (m68 86 4).toInt = (m42 86 4).toInt := congrArg Int32.toInt (K71 86 4 (wY_out (by omega) (by omega) (by omega)))
            have K71 := K45.trans (K71.sub (by first | exact wZ_wY | exact wZ_86))
            show PV _ _ _ _ _ _ _ 49 [.ref 86, .int 3, .int v3, .int y5] [] _
            have k49 := rm68.2 (by omega)
            refine pv_aload_n (M := mX7_readCondition) 0 dX7_readCondition_49 50 rfl rfl rfl ?_
            refine pv_dup (M := mX7_readCondition) dX7_readCondition_50 51 rfl rfl ?_
            refine iv_get (M := mX7_readCondition) (l1 := 0) (l2 := 160) dX7_readCondition_51 FX7 3 wd283 (by decide) (tl86 hT) rfl I70 rfl 54 rfl (fun v76 ev76 pv76 qv76 => ?_)
            have wv76 : v76.toInt = (m68 86 3).toInt := congrArg Int32.toInt ev76
            refine pv_iconst (M := mX7_readCondition) (v := 1) dX7_readCondition_54 55 rfl (by decide) ?_
            refine iv_iadd (M := mX7_readCondition) (X := v76.toInt) (Y := 1) dX7_readCondition_55 56 rfl rfl (by decide) (by omega) (by omega) (fun v77 ev77 => ?_)
            refine iv_put (M := mX7_readCondition) (l1 := 0) (l2 := 160) dX7_readCondition_56 FX7 3 wd283 (by decide) rfl (tl86 hT) rfl rfl rfl I70 rfl (by omega) (by omega) 59 rfl (fun m78 e81 I79 => ?_)
            have K80 := K71.set e81 (by first | rfl | decide)
            have w82 : (m78 86 3).toInt = v77.toInt := by rw [e81, up2_eq]
            have w83 : (m78 86 2).toInt = (m68 86 2).toInt := by rw [e81, up2_ne (by omega)]
            have w84 : (m78 86 4).toInt = (m68 86 4).toInt := by rw [e81, up2_ne (by omega)]
            have w85 : (m78 lb 7).toInt = (m68 lb 7).toInt := by rw [e81, up2_ne (by omega)]
            have w86 : (m78 lb 2).toInt = (m68 lb 2).toInt := by rw [e81, up2_ne (by omega)]
            refine iv_inc (M := mX7_readCondition) (C := 1) dX7_readCondition_59 62 rfl rfl (by decide) rfl rfl (by decide) (by omega) (by omega) (fun v87 ev87 => ?_)
            show PV _ _ _ _ _ _ _ 62 [.ref 86, .int 3, .int v3, .int v87] [] _
            refine pv_goto (M := mX7_readCondition) (tgt := 10) dX7_readCondition_62 (by decide) ?_
            have kbc : CN (tC m) 3 (m 86 3).toInt = CN (tC m) 3 (m78 86 3).toInt := by rw [kgc, k27, LB_cn kTX (by omega) kB]; congr 1; omega
            have kbz : CQZ (tC m) 3 lb m m78 (m 86 3).toInt (m78 86 3).toInt := CRZ_l kzz kTX (by omega) (show tC m (m42 86 3).toInt = 124 by omega) k49 (by decide) (SAML.set zR2 e81) (by omega)
            exact ih12 v87 m78 n69 (by first | omega | assumption | exact (iv_rng _).2 | exact (iv_rng _).1 | decide) (by first | omega | assumption | exact (iv_rng _).2 | exact (iv_rng _).1 | decide) (by first | omega | assumption | (show (m78 86 3).toInt ≤ (m78 86 2).toInt; omega) | decide) (by first | omega | assumption | (show (m78 86 2).toInt = (m 86 2).toInt; omega) | decide) (by first | omega | assumption | (show (m78 lb 7).toInt = (m lb 7).toInt; omega) | decide) (by first | omega | assumption | (show (m 86 3).toInt + 2 * v87.toInt ≤ (m78 86 3).toInt; omega) | decide) kbc kbz I79 K80 (by omega)
          · have c63 := iv_ne (X := v59.toInt) (Y := 124) c63 rfl (by decide)
            refine pv_goto (M := mX7_readCondition) (tgt := 65) dX7_readCondition_36 (by decide) ?_
            refine pv_aload_n (M := mX7_readCondition) 0 dX7_readCondition_65 66 rfl rfl rfl ?_
            refine mv_get (M := mX7_readCondition) (v := .ref lb) dX7_readCondition_66 FX7 1 wd281 (by decide) (tl86 hT) rfl R.2.2.2.1 69 rfl ?_
            refine pv_bipush (M := mX7_readCondition) (v := 124) dX7_readCondition_69 71 rfl (by decide) ?_
            refine pv_iload_n (M := mX7_readCondition) 2 dX7_readCondition_71 72 rfl rfl rfl ?_
            have z90 : (124 : Int32).toInt = 124 := by decide
            refine pv_callv (M := mX7_readCondition) (as := [.int 124, .int v3]) (st := []) (kc2 := 0) (ks2 := 0) dX7_readCondition_72 wd678 YX6_aimLeaps ⟨wd679, wd680⟩ (mk_get R.2.2.2.2.2.2.1) rfl rfl (s_X6_aimLeaps_vz g hT I44 lb R.2.2.2.2.2 124 v3 (by omega) (by omega)) rfl rfl (Nat.le_of_ble_eq_true rfl) (by decide) rfl rfl 75 rfl (fun rv h1 q91 => ?_)
            obtain ⟨m92, n93, rfl, rfl, I94, K95, rm92⟩ := q91
            replace rm92 : (m92 lb 7).toInt = (m42 lb 7).toInt ∧ AIMD lb m42 m92 (124 : Int) v3.toInt := by have q_ := rm92; (try rw [z90] at q_); exact q_
            have K95c := K95
            have w96 : (m92 86 3).toInt = (m42 86 3).toInt := congrArg Int32.toInt (K95 86 3 (wY_out (by omega) (by omega) (by omega)))
            have w97 : (m92 86 2).toInt = (m42 86 2).toInt := congrArg Int32.toInt (K95 86 2 (wY_out (by omega) (by omega) (by omega)))
            have w98 : (m92 86 4).toInt = (m42 86 4).toInt := congrArg Int32.toInt (K95 86 4 (wY_out (by omega) (by omega) (by omega)))
            have K95 := K45.trans (K95.sub (by first | exact wZ_wY | exact wZ_86))
            show PV _ _ _ _ _ _ _ 75 [.ref 86, .int 3, .int v3, .int y5] [] _
            have k75 := rm92.2
            refine pv_iconst (M := mX7_readCondition) (v := 1) dX7_readCondition_75 76 rfl (by decide) ?_
            have z100 : (1 : Int32).toInt = 1 := by decide
            exact pv_iret (M := mX7_readCondition) dX7_readCondition_76 rfl rfl ⟨_, _, _, rfl, rfl, I94, K95, by decide, by decide, ⟨by omega, by omega, by omega, (by first | exact Or.inl ⟨by decide, by rw [kgc, k27, LB_no (isB_no k27n (by rw [← k31]; omega))]; congr 1; omega⟩ | (exfalso; omega)), by omega, (by first | exact IFZ.is (by rw [show (m92 86 3).toInt = (m42 86 3).toInt by omega]; exact CRZ_e kzz (isB_no k27n (by rw [← k31]; omega)) k75 (by omega)) | exact IFZ.no (by omega))⟩⟩
        · have c52 := iv_eq (X := v46.toInt) (Y := 0) c52 rfl (by decide)
          refine pv_iconst (M := mX7_readCondition) (v := 0) dX7_readCondition_25 26 rfl (by decide) ?_
          have z101 : (0 : Int32).toInt = 0 := by decide
          exact pv_iret (M := mX7_readCondition) dX7_readCondition_26 rfl rfl ⟨_, _, _, rfl, rfl, I44, K45, by decide, by decide, ⟨by omega, by omega, by omega, Or.inr ⟨by decide, by rw [kgc]; exact TRX_fl k22 (by omega)⟩, by omega, IFZ.no (by first | decide | omega)⟩⟩
  have z102 : (0 : Int32).toInt = 0 := by decide
  exact lp11 (((160 - 0) : Int).toNat + 1) 0 m n (by first | omega | assumption | exact (iv_rng _).2 | exact (iv_rng _).1 | decide) (by first | omega | assumption | exact (iv_rng _).2 | exact (iv_rng _).1 | decide) (by first | omega | assumption | (show (m 86 3).toInt ≤ (m 86 2).toInt; omega) | decide) (by first | omega | assumption | (show (m 86 2).toInt = (m 86 2).toInt; omega) | decide) (by first | omega | assumption | (show (m lb 7).toInt = (m lb 7).toInt; omega) | decide) (by first | omega | assumption | (show (m 86 3).toInt + 2 * 0 ≤ (m 86 3).toInt; omega) | decide) rfl (CQZ_0 (by omega)) I Kp (by omega)

set_option maxHeartbeats 2000000 in
set_option maxRecDepth 20000 in
theorem s_X7_readPiece_v2z (g : pv_G) {T : List mv_T} {m : Nat → Nat → Int32} {n : Nat → Nat → Int64} {r : Nat → Value} {la lb : Nat} (hT : TX T) (I : IV BB m) (R : RX T r la lb) (hp0 : (m 86 3).toInt ≤ (m 86 2).toInt) (hp1 : TBC m) (hp2 : (m lb 2).toInt ≤ (m 86 3).toInt) : PM g mX7_readPiece yX7_readPiece (sqI T BB (wZ lb) r m 0 1 (fun m' v => (m 86 3).toInt ≤ (m' 86 3).toInt ∧ (m' 86 3).toInt ≤ (m' 86 2).toInt ∧ (m' 86 2).toInt = (m 86 2).toInt ∧ (RSX (PI (tC m) 4 (m 86 3).toInt) v.toInt (m' 86 3).toInt (m' 86 4).toInt) ∧ (m' lb 7).toInt = (m lb 7).toInt ∧ IFZ v.toInt (CDS lb m m' 12 (PID (tC m) 4 (m 86 3).toInt) ((m' 86 3).toInt - (m 86 3).toInt)))) 20 0 0 [.ref 86, .int 2] (mk T m n r) := by
  have Kp : fr (wZ lb) m m := fr.rf
  have R0 := R
  have zR := R.2.2.2.2.1.1
  have zR2 := R.2.2.2.2.2.1
  have z259 : 0 ≤ (m 86 3).toInt ∧ (m 86 3).toInt ≤ 160 := I 86 3
  have z260 : 0 ≤ (m 86 2).toInt ∧ (m 86 2).toInt ≤ 160 := I 86 2
  refine PM.of 1 (lo := [.ref 86, .int 2, pv_U]) rfl (by decide) rfl rfl (Nat.le_of_ble_eq_true rfl) ?_
  refine pv_aload_n (M := mX7_readPiece) 0 dX7_readPiece_0 1 rfl rfl rfl ?_
  refine pv_callv (M := mX7_readPiece) (as := []) (st := []) (kc2 := 0) (ks2 := 0) dX7_readPiece_1 wd527 YX7_peek ⟨wd529, wd2⟩ (mk_get (tl86 hT)) rfl rfl (s_X7_peek_vx g hT I R) rfl rfl (Nat.le_of_ble_eq_true rfl) (by decide) rfl rfl 4 rfl (fun rv h1 q1 => ?_)
  obtain ⟨v2, rfl, rfl, pv2, qv2, rv2⟩ := q1
  replace rv2 : v2.toInt = tC m (m 86 3).toInt ∧ (v2.toInt = -1 ∨ (m 86 3).toInt < (m 86 2).toInt) := rv2
  show PV _ _ _ _ _ _ _ 4 [.ref 86, .int 2, pv_U] [.int v2] _
  have k4 := rv2.1
  have k4b := rv2.2
  refine pv_bipush (M := mX7_readPiece) (v := 33) dX7_readPiece_4 6 rfl (by decide) ?_
  refine pv_icmp_ne (M := mX7_readPiece) (tgt := 41) dX7_readPiece_6 9 rfl (by decide) (fun c5 => ?_) (fun c5 => ?_)
  · have c5 := iv_ne (X := v2.toInt) (Y := 33) c5 rfl (by decide)
    have kn33 : tC m (m 86 3).toInt ≠ 33 := by omega
    refine pv_aload_n (M := mX7_readPiece) 0 dX7_readPiece_41 42 rfl rfl rfl ?_
    refine pv_callv (M := mX7_readPiece) (as := []) (st := []) (kc2 := 0) (ks2 := 0) dX7_readPiece_42 wd527 YX7_peek ⟨wd529, wd2⟩ (mk_get (tl86 hT)) rfl rfl (s_X7_peek_vx g hT I R) rfl rfl (Nat.le_of_ble_eq_true rfl) (by decide) rfl rfl 45 rfl (fun rv h1 q7 => ?_)
    obtain ⟨v8, rfl, rfl, pv8, qv8, rv8⟩ := q7
    replace rv8 : v8.toInt = tC m (m 86 3).toInt ∧ (v8.toInt = -1 ∨ (m 86 3).toInt < (m 86 2).toInt) := rv8
    show PV _ _ _ _ _ _ _ 45 [.ref 86, .int 2, pv_U] [.int v8] _
    have k45 := rv8.1
    have k45b := rv8.2
    refine pv_bipush (M := mX7_readPiece) (v := 40) dX7_readPiece_45 47 rfl (by decide) ?_
    refine pv_icmp_ne (M := mX7_readPiece) (tgt := 83) dX7_readPiece_47 50 rfl (by decide) (fun c11 => ?_) (fun c11 => ?_)
    · have c11 := iv_ne (X := v8.toInt) (Y := 40) c11 rfl (by decide)
      have kn40 : tC m (m 86 3).toInt ≠ 40 := by omega
      refine pv_aload_n (M := mX7_readPiece) 0 dX7_readPiece_83 84 rfl rfl rfl ?_
      refine pv_iload_n (M := mX7_readPiece) 1 dX7_readPiece_84 85 rfl rfl rfl ?_
      have z13 : (2 : Int32).toInt = 2 := by decide
      refine pv_callv (M := mX7_readPiece) (as := [.int 2]) (st := []) (kc2 := 0) (ks2 := 0) dX7_readPiece_85 wd539 YX7_readSum ⟨wd541, wd4⟩ (mk_get (tl86 hT)) rfl rfl (s_X7_readSum_v2z g hT I R (by first | omega | assumption | exact (iv_rng _).2 | exact (iv_rng _).1 | decide) hp1 (by first | omega | assumption | exact (iv_rng _).2 | exact (iv_rng _).1 | decide)) rfl rfl (Nat.le_of_ble_eq_true rfl) (by decide) rfl rfl 88 rfl (fun rv h1 q14 => ?_)
      obtain ⟨m15, n16, v19, rfl, rfl, I17, K18, pv19, qv19, rv19⟩ := q14
      replace rv19 : (m 86 3).toInt ≤ (m15 86 3).toInt ∧ (m15 86 3).toInt ≤ (m15 86 2).toInt ∧ (m15 86 2).toInt = (m 86 2).toInt ∧ (RSX (SU (tC m) 4 (m 86 3).toInt) v19.toInt (m15 86 3).toInt (m15 86 4).toInt) ∧ (m15 lb 7).toInt = (m lb 7).toInt ∧ IFZ v19.toInt (CDS lb m m15 11 (SUD (tC m) 4 (m 86 3).toInt) ((m15 86 3).toInt - (m 86 3).toInt)) := by have q_ := rv19; (try rw [z13] at q_); exact q_
      have K18c := K18
      have K18 := Kp.trans (K18.sub (fun _ _ q => q))
      show PV _ _ _ _ _ _ _ 88 [.ref 86, .int 2, pv_U] [.int v19] _
      have k88 := rv19.2.2.2.1
      have k88z := rv19.2.2.2.2.2
      refine pv_if_ne (M := mX7_readPiece) (tgt := 93) dX7_readPiece_88 91 rfl (by decide) (fun c22 => ?_) (fun c22 => ?_)
      · have c22 := iv_ne (X := v19.toInt) (Y := 0) c22 rfl (by decide)
        have k93 := RSX_ok k88 (by omega)
        have kt93 : tC m15 = tC m := tC_fz zR2 K18
        have kA93 : (m15 86 3).toInt = (m15 86 3).toInt := rfl
        have k93z := IFZ.get k88z (by omega)
        have k93b := CDS_b k93z
        refine pv_aload_n (M := mX7_readPiece) 0 dX7_readPiece_93 94 rfl rfl rfl ?_
        refine pv_callv (M := mX7_readPiece) (as := []) (st := []) (kc2 := 0) (ks2 := 0) dX7_readPiece_94 wd527 YX7_peek ⟨wd529, wd2⟩ (mk_get (tl86 hT)) rfl rfl (s_X7_peek_vx g hT I17 R) rfl rfl (Nat.le_of_ble_eq_true rfl) (by decide) rfl rfl 97 rfl (fun rv h1 q28 => ?_)
        obtain ⟨v29, rfl, rfl, pv29, qv29, rv29⟩ := q28
        replace rv29 : v29.toInt = tC m15 (m15 86 3).toInt ∧ (v29.toInt = -1 ∨ (m15 86 3).toInt < (m15 86 2).toInt) := rv29
        show PV _ _ _ _ _ _ _ 97 [.ref 86, .int 2, pv_U] [.int v29] _
        have k97 := rv29.1
        have k97b := rv29.2
        rw [kt93] at k97
        refine pv_istore_n (M := mX7_readPiece) 2 (lo2 := [.ref 86, .int 2, .int v29]) dX7_readPiece_97 98 rfl rfl (by decide) rfl rfl ?_
        refine pv_iload_n (M := mX7_readPiece) 2 dX7_readPiece_98 99 rfl rfl rfl ?_
        refine pv_bipush (M := mX7_readPiece) (v := 60) dX7_readPiece_99 101 rfl (by decide) ?_
        refine pv_icmp_eq (M := mX7_readPiece) (tgt := 122) dX7_readPiece_101 104 rfl (by decide) (fun c33 => ?_) (fun c33 => ?_)
        · have c33 := iv_eq (X := v29.toInt) (Y := 60) c33 rfl (by decide)
          have kC : isC (tC m (m15 86 3).toInt) = true := by rw [← k97]; exact isC_y (by omega)
          refine pv_aload_n (M := mX7_readPiece) 0 dX7_readPiece_122 123 rfl rfl rfl ?_
          refine pv_dup (M := mX7_readPiece) dX7_readPiece_123 124 rfl rfl ?_
          refine iv_get (M := mX7_readPiece) (l1 := 0) (l2 := 160) dX7_readPiece_124 FX7 3 wd283 (by decide) (tl86 hT) rfl I17 rfl 127 rfl (fun v35 ev35 pv35 qv35 => ?_)
          have wv35 : v35.toInt = (m15 86 3).toInt := congrArg Int32.toInt ev35
          refine pv_iconst (M := mX7_readPiece) (v := 1) dX7_readPiece_127 128 rfl (by decide) ?_
          refine iv_iadd (M := mX7_readPiece) (X := v35.toInt) (Y := 1) dX7_readPiece_128 129 rfl rfl (by decide) (by omega) (by omega) (fun v36 ev36 => ?_)
          refine iv_put (M := mX7_readPiece) (l1 := 0) (l2 := 160) dX7_readPiece_129 FX7 3 wd283 (by decide) rfl (tl86 hT) rfl rfl rfl I17 rfl (by omega) (by omega) 132 rfl (fun m37 e40 I38 => ?_)
          have K39 := K18.set e40 (by first | rfl | decide)
          have w41 : (m37 86 3).toInt = v36.toInt := by rw [e40, up2_eq]
          have w42 : (m37 86 2).toInt = (m15 86 2).toInt := by rw [e40, up2_ne (by omega)]
          have w43 : (m37 86 4).toInt = (m15 86 4).toInt := by rw [e40, up2_ne (by omega)]
          have w44 : (m37 lb 7).toInt = (m15 lb 7).toInt := by rw [e40, up2_ne (by omega)]
          have w45 : (m37 lb 2).toInt = (m15 lb 2).toInt := by rw [e40, up2_ne (by omega)]
          have kt132 : tC m37 = tC m := tC_fz zR2 K39
          have kp132 : (m37 86 3).toInt = (m15 86 3).toInt + 1 := by omega
          have ks132 : SAML lb m15 m37 := SAML.set zR2 e40
          have kl132 : (m37 lb 2).toInt = (m15 lb 2).toInt := congrArg Int32.toInt ks132.1
          refine pv_aload_n (M := mX7_readPiece) 0 dX7_readPiece_132 133 rfl rfl rfl ?_
          refine pv_iload_n (M := mX7_readPiece) 1 dX7_readPiece_133 134 rfl rfl rfl ?_
          have z50 : (2 : Int32).toInt = 2 := by decide
          refine pv_callv (M := mX7_readPiece) (as := [.int 2]) (st := []) (kc2 := 0) (ks2 := 0) dX7_readPiece_134 wd539 YX7_readSum ⟨wd541, wd4⟩ (mk_get (tl86 hT)) rfl rfl (s_X7_readSum_v2z g hT I38 R (by first | omega | assumption | exact (iv_rng _).2 | exact (iv_rng _).1 | decide) (TBC_eq hp1 kt132) (by first | omega | assumption | exact (iv_rng _).2 | exact (iv_rng _).1 | decide)) rfl rfl (Nat.le_of_ble_eq_true rfl) (by decide) rfl rfl 137 rfl (fun rv h1 q51 => ?_)
          obtain ⟨m52, n53, v56, rfl, rfl, I54, K55, pv56, qv56, rv56⟩ := q51
          replace rv56 : (m37 86 3).toInt ≤ (m52 86 3).toInt ∧ (m52 86 3).toInt ≤ (m52 86 2).toInt ∧ (m52 86 2).toInt = (m37 86 2).toInt ∧ (RSX (SU (tC m37) 4 (m37 86 3).toInt) v56.toInt (m52 86 3).toInt (m52 86 4).toInt) ∧ (m52 lb 7).toInt = (m37 lb 7).toInt ∧ IFZ v56.toInt (CDS lb m37 m52 11 (SUD (tC m37) 4 (m37 86 3).toInt) ((m52 86 3).toInt - (m37 86 3).toInt)) := by have q_ := rv56; (try rw [z50] at q_); exact q_
          have K55c := K55
          have K55 := K39.trans (K55.sub (fun _ _ q => q))
          show PV _ _ _ _ _ _ _ 137 [.ref 86, .int 2, .int v29] [.int v56] _
          have k137 := rv56.2.2.2.1
          rw [kt132, kp132] at k137
          have k137z := rv56.2.2.2.2.2
          rw [kt132, kp132] at k137z
          refine pv_if_ne (M := mX7_readPiece) (tgt := 142) dX7_readPiece_137 140 rfl (by decide) (fun c61 => ?_) (fun c61 => ?_)
          · have c61 := iv_ne (X := v56.toInt) (Y := 0) c61 rfl (by decide)
            have k142z := IFZ.get k137z (by omega)
            have k142b := CDS_b k142z
            refine pv_aload_n (M := mX7_readPiece) 0 dX7_readPiece_142 143 rfl rfl rfl ?_
            refine mv_get (M := mX7_readPiece) (v := .ref lb) dX7_readPiece_143 FX7 1 wd281 (by decide) (tl86 hT) rfl R.2.2.2.1 146 rfl ?_
            refine pv_iload_n (M := mX7_readPiece) 2 dX7_readPiece_146 147 rfl rfl rfl ?_
            refine pv_iconst (M := mX7_readPiece) (v := 0) dX7_readPiece_147 148 rfl (by decide) ?_
            have z64 : (0 : Int32).toInt = 0 := by decide
            refine pv_callv (M := mX7_readPiece) (as := [.int v29, .int 0]) (st := []) (kc2 := 0) (ks2 := 0) dX7_readPiece_148 wd567 YX6_emit ⟨wd568, wd569⟩ (mk_get R.2.2.2.2.2.2.1) rfl rfl (s_X6_emit_vz g hT I54 lb R.2.2.2.2.2 v29 0 (by decide) (by decide)) rfl rfl (Nat.le_of_ble_eq_true rfl) (by decide) rfl rfl 151 rfl (fun rv h1 q65 => ?_)
            obtain ⟨m66, n67, rfl, rfl, I68, K69, rm66⟩ := q65
            replace rm66 : (m66 lb 7).toInt = (m52 lb 7).toInt ∧ ((m52 lb 2).toInt < 160 → EMT lb m52 m66 v29.toInt (0 : Int32)) := by have q_ := rm66; (try rw [z64] at q_); exact q_
            have K69c := K69
            have w70 : (m66 86 3).toInt = (m52 86 3).toInt := congrArg Int32.toInt (K69 86 3 (wY_out (by omega) (by omega) (by omega)))
            have w71 : (m66 86 2).toInt = (m52 86 2).toInt := congrArg Int32.toInt (K69 86 2 (wY_out (by omega) (by omega) (by omega)))
            have w72 : (m66 86 4).toInt = (m52 86 4).toInt := congrArg Int32.toInt (K69 86 4 (wY_out (by omega) (by omega) (by omega)))
            have K69 := K55.trans (K69.sub (by first | exact wZ_wY | exact wZ_86))
            show PV _ _ _ _ _ _ _ 151 [.ref 86, .int 2, .int v29] [] _
            have k151 := rm66.2 (by omega)
            refine pv_iconst (M := mX7_readPiece) (v := 1) dX7_readPiece_151 152 rfl (by decide) ?_
            have z74 : (1 : Int32).toInt = 1 := by decide
            exact pv_iret (M := mX7_readPiece) dX7_readPiece_152 rfl rfl ⟨_, _, _, rfl, rfl, I68, K69, by decide, by decide, ⟨by omega, by omega, by omega, Or.inl ⟨by decide, by rw [PI_cm kn33 kn40, CM_ok k93 kC, RSX_ok k137 (by omega), show (m52 86 3).toInt = (m66 86 3).toInt by omega]⟩, by omega, IFZ.is (by rw [PID_cm kn33 kn40, CMD_ok k93, ← k97]; exact CDS.wk (CDS.op k93z (CDS.pre ks132 k142z (Int.le_refl _)) k151 (isO_c (by rw [k97]; exact kC)) (Int.le_refl _) (by omega)) (by omega) (by omega))⟩⟩
          · have c61 := iv_eq (X := v56.toInt) (Y := 0) c61 rfl (by decide)
            refine pv_iconst (M := mX7_readPiece) (v := 0) dX7_readPiece_140 141 rfl (by decide) ?_
            have z75 : (0 : Int32).toInt = 0 := by decide
            exact pv_iret (M := mX7_readPiece) dX7_readPiece_141 rfl rfl ⟨_, _, _, rfl, rfl, I54, K55, by decide, by decide, ⟨by omega, by omega, by omega, Or.inr ⟨by decide, by rw [PI_cm kn33 kn40, CM_ok k93 kC]; exact RSX_fl k137 (by omega)⟩, by omega, IFZ.no (by first | decide | omega)⟩⟩
        · have c33 := iv_ne (X := v29.toInt) (Y := 60) c33 rfl (by decide)
          refine pv_iload_n (M := mX7_readPiece) 2 dX7_readPiece_104 105 rfl rfl rfl ?_
          refine pv_bipush (M := mX7_readPiece) (v := 62) dX7_readPiece_105 107 rfl (by decide) ?_
          refine pv_icmp_eq (M := mX7_readPiece) (tgt := 122) dX7_readPiece_107 110 rfl (by decide) (fun c76 => ?_) (fun c76 => ?_)
          · have c76 := iv_eq (X := v29.toInt) (Y := 62) c76 rfl (by decide)
            have kC : isC (tC m (m15 86 3).toInt) = true := by rw [← k97]; exact isC_y (by omega)
            refine pv_aload_n (M := mX7_readPiece) 0 dX7_readPiece_122 123 rfl rfl rfl ?_
            refine pv_dup (M := mX7_readPiece) dX7_readPiece_123 124 rfl rfl ?_
            refine iv_get (M := mX7_readPiece) (l1 := 0) (l2 := 160) dX7_readPiece_124 FX7 3 wd283 (by decide) (tl86 hT) rfl I17 rfl 127 rfl (fun v78 ev78 pv78 qv78 => ?_)
            have wv78 : v78.toInt = (m15 86 3).toInt := congrArg Int32.toInt ev78
            refine pv_iconst (M := mX7_readPiece) (v := 1) dX7_readPiece_127 128 rfl (by decide) ?_
            refine iv_iadd (M := mX7_readPiece) (X := v78.toInt) (Y := 1) dX7_readPiece_128 129 rfl rfl (by decide) (by omega) (by omega) (fun v79 ev79 => ?_)
            refine iv_put (M := mX7_readPiece) (l1 := 0) (l2 := 160) dX7_readPiece_129 FX7 3 wd283 (by decide) rfl (tl86 hT) rfl rfl rfl I17 rfl (by omega) (by omega) 132 rfl (fun m80 e83 I81 => ?_)
            have K82 := K18.set e83 (by first | rfl | decide)
            have w84 : (m80 86 3).toInt = v79.toInt := by rw [e83, up2_eq]
            have w85 : (m80 86 2).toInt = (m15 86 2).toInt := by rw [e83, up2_ne (by omega)]
            have w86 : (m80 86 4).toInt = (m15 86 4).toInt := by rw [e83, up2_ne (by omega)]
            have w87 : (m80 lb 7).toInt = (m15 lb 7).toInt := by rw [e83, up2_ne (by omega)]
            have w88 : (m80 lb 2).toInt = (m15 lb 2).toInt := by rw [e83, up2_ne (by omega)]
            have kt132 : tC m80 = tC m := tC_fz zR2 K82
            have kp132 : (m80 86 3).toInt = (m15 86 3).toInt + 1 := by omega
            have ks132 : SAML lb m15 m80 := SAML.set zR2 e83
            have kl132 : (m80 lb 2).toInt = (m15 lb 2).toInt := congrArg Int32.toInt ks132.1
            refine pv_aload_n (M := mX7_readPiece) 0 dX7_readPiece_132 133 rfl rfl rfl ?_
            refine pv_iload_n (M := mX7_readPiece) 1 dX7_readPiece_133 134 rfl rfl rfl ?_
            have z93 : (2 : Int32).toInt = 2 := by decide
            refine pv_callv (M := mX7_readPiece) (as := [.int 2]) (st := []) (kc2 := 0) (ks2 := 0) dX7_readPiece_134 wd539 YX7_readSum ⟨wd541, wd4⟩ (mk_get (tl86 hT)) rfl rfl (s_X7_readSum_v2z g hT I81 R (by first | omega | assumption | exact (iv_rng _).2 | exact (iv_rng _).1 | decide) (TBC_eq hp1 kt132) (by first | omega | assumption | exact (iv_rng _).2 | exact (iv_rng _).1 | decide)) rfl rfl (Nat.le_of_ble_eq_true rfl) (by decide) rfl rfl 137 rfl (fun rv h1 q94 => ?_)
            obtain ⟨m95, n96, v99, rfl, rfl, I97, K98, pv99, qv99, rv99⟩ := q94
            replace rv99 : (m80 86 3).toInt ≤ (m95 86 3).toInt ∧ (m95 86 3).toInt ≤ (m95 86 2).toInt ∧ (m95 86 2).toInt = (m80 86 2).toInt ∧ (RSX (SU (tC m80) 4 (m80 86 3).toInt) v99.toInt (m95 86 3).toInt (m95 86 4).toInt) ∧ (m95 lb 7).toInt = (m80 lb 7).toInt ∧ IFZ v99.toInt (CDS lb m80 m95 11 (SUD (tC m80) 4 (m80 86 3).toInt) ((m95 86 3).toInt - (m80 86 3).toInt)) := by have q_ := rv99; (try rw [z93] at q_); exact q_
            have K98c := K98
            have K98 := K82.trans (K98.sub (fun _ _ q => q))
            show PV _ _ _ _ _ _ _ 137 [.ref 86, .int 2, .int v29] [.int v99] _
            have k137 := rv99.2.2.2.1
            rw [kt132, kp132] at k137
            have k137z := rv99.2.2.2.2.2
            rw [kt132, kp132] at k137z
            refine pv_if_ne (M := mX7_readPiece) (tgt := 142) dX7_readPiece_137 140 rfl (by decide) (fun c104 => ?_) (fun c104 => ?_)
            · have c104 := iv_ne (X := v99.toInt) (Y := 0) c104 rfl (by decide)
              have k142z := IFZ.get k137z (by omega)
              have k142b := CDS_b k142z
              refine pv_aload_n (M := mX7_readPiece) 0 dX7_readPiece_142 143 rfl rfl rfl ?_
              refine mv_get (M := mX7_readPiece) (v := .ref lb) dX7_readPiece_143 FX7 1 wd281 (by decide) (tl86 hT) rfl R.2.2.2.1 146 rfl ?_
              refine pv_iload_n (M := mX7_readPiece) 2 dX7_readPiece_146 147 rfl rfl rfl ?_
              refine pv_iconst (M := mX7_readPiece) (v := 0) dX7_readPiece_147 148 rfl (by decide) ?_
              have z107 : (0 : Int32).toInt = 0 := by decide
              refine pv_callv (M := mX7_readPiece) (as := [.int v29, .int 0]) (st := []) (kc2 := 0) (ks2 := 0) dX7_readPiece_148 wd567 YX6_emit ⟨wd568, wd569⟩ (mk_get R.2.2.2.2.2.2.1) rfl rfl (s_X6_emit_vz g hT I97 lb R.2.2.2.2.2 v29 0 (by decide) (by decide)) rfl rfl (Nat.le_of_ble_eq_true rfl) (by decide) rfl rfl 151 rfl (fun rv h1 q108 => ?_)
              obtain ⟨m109, n110, rfl, rfl, I111, K112, rm109⟩ := q108
              replace rm109 : (m109 lb 7).toInt = (m95 lb 7).toInt ∧ ((m95 lb 2).toInt < 160 → EMT lb m95 m109 v29.toInt (0 : Int32)) := by have q_ := rm109; (try rw [z107] at q_); exact q_
              have K112c := K112
              have w113 : (m109 86 3).toInt = (m95 86 3).toInt := congrArg Int32.toInt (K112 86 3 (wY_out (by omega) (by omega) (by omega)))
              have w114 : (m109 86 2).toInt = (m95 86 2).toInt := congrArg Int32.toInt (K112 86 2 (wY_out (by omega) (by omega) (by omega)))
              have w115 : (m109 86 4).toInt = (m95 86 4).toInt := congrArg Int32.toInt (K112 86 4 (wY_out (by omega) (by omega) (by omega)))
              have K112 := K98.trans (K112.sub (by first | exact wZ_wY | exact wZ_86))
              show PV _ _ _ _ _ _ _ 151 [.ref 86, .int 2, .int v29] [] _
              have k151 := rm109.2 (by omega)
              refine pv_iconst (M := mX7_readPiece) (v := 1) dX7_readPiece_151 152 rfl (by decide) ?_
              have z117 : (1 : Int32).toInt = 1 := by decide
              exact pv_iret (M := mX7_readPiece) dX7_readPiece_152 rfl rfl ⟨_, _, _, rfl, rfl, I111, K112, by decide, by decide, ⟨by omega, by omega, by omega, Or.inl ⟨by decide, by rw [PI_cm kn33 kn40, CM_ok k93 kC, RSX_ok k137 (by omega), show (m95 86 3).toInt = (m109 86 3).toInt by omega]⟩, by omega, IFZ.is (by rw [PID_cm kn33 kn40, CMD_ok k93, ← k97]; exact CDS.wk (CDS.op k93z (CDS.pre ks132 k142z (Int.le_refl _)) k151 (isO_c (by rw [k97]; exact kC)) (Int.le_refl _) (by omega)) (by omega) (by omega))⟩⟩
            · have c104 := iv_eq (X := v99.toInt) (Y := 0) c104 rfl (by decide)
              refine pv_iconst (M := mX7_readPiece) (v := 0) dX7_readPiece_140 141 rfl (by decide) ?_
              have z118 : (0 : Int32).toInt = 0 := by decide
              exact pv_iret (M := mX7_readPiece) dX7_readPiece_141 rfl rfl ⟨_, _, _, rfl, rfl, I97, K98, by decide, by decide, ⟨by omega, by omega, by omega, Or.inr ⟨by decide, by rw [PI_cm kn33 kn40, CM_ok k93 kC]; exact RSX_fl k137 (by omega)⟩, by omega, IFZ.no (by first | decide | omega)⟩⟩
          · have c76 := iv_ne (X := v29.toInt) (Y := 62) c76 rfl (by decide)
            refine pv_iload_n (M := mX7_readPiece) 2 dX7_readPiece_110 111 rfl rfl rfl ?_
            refine pv_bipush (M := mX7_readPiece) (v := 61) dX7_readPiece_111 113 rfl (by decide) ?_
            refine pv_icmp_eq (M := mX7_readPiece) (tgt := 122) dX7_readPiece_113 116 rfl (by decide) (fun c119 => ?_) (fun c119 => ?_)
            · have c119 := iv_eq (X := v29.toInt) (Y := 61) c119 rfl (by decide)
              have kC : isC (tC m (m15 86 3).toInt) = true := by rw [← k97]; exact isC_y (by omega)
              refine pv_aload_n (M := mX7_readPiece) 0 dX7_readPiece_122 123 rfl rfl rfl ?_
              refine pv_dup (M := mX7_readPiece) dX7_readPiece_123 124 rfl rfl ?_
              refine iv_get (M := mX7_readPiece) (l1 := 0) (l2 := 160) dX7_readPiece_124 FX7 3 wd283 (by decide) (tl86 hT) rfl I17 rfl 127 rfl (fun v121 ev121 pv121 qv121 => ?_)
              have wv121 : v121.toInt = (m15 86 3).toInt := congrArg Int32.toInt ev121
              refine pv_iconst (M := mX7_readPiece) (v := 1) dX7_readPiece_127 128 rfl (by decide) ?_
              refine iv_iadd (M := mX7_readPiece) (X := v121.toInt) (Y := 1) dX7_readPiece_128 129 rfl rfl (by decide) (by omega) (by omega) (fun v122 ev122 => ?_)
              refine iv_put (M := mX7_readPiece) (l1 := 0) (l2 := 160) dX7_readPiece_129 FX7 3 wd283 (by decide) rfl (tl86 hT) rfl rfl rfl I17 rfl (by omega) (by omega) 132 rfl (fun m123 e126 I124 => ?_)
              have K125 := K18.set e126 (by first | rfl | decide)
              have w127 : (m123 86 3).toInt = v122.toInt := by rw [e126, up2_eq]
              have w128 : (m123 86 2).toInt = (m15 86 2).toInt := by rw [e126, up2_ne (by omega)]
              have w129 : (m123 86 4).toInt = (m15 86 4).toInt := by rw [e126, up2_ne (by omega)]
              have w130 : (m123 lb 7).toInt = (m15 lb 7).toInt := by rw [e126, up2_ne (by omega)]
              have w131 : (m123 lb 2).toInt = (m15 lb 2).toInt := by rw [e126, up2_ne (by omega)]
              have kt132 : tC m123 = tC m := tC_fz zR2 K125
              have kp132 : (m123 86 3).toInt = (m15 86 3).toInt + 1 := by omega
              have ks132 : SAML lb m15 m123 := SAML.set zR2 e126
              have kl132 : (m123 lb 2).toInt = (m15 lb 2).toInt := congrArg Int32.toInt ks132.1
              refine pv_aload_n (M := mX7_readPiece) 0 dX7_readPiece_132 133 rfl rfl rfl ?_
              refine pv_iload_n (M := mX7_readPiece) 1 dX7_readPiece_133 134 rfl rfl rfl ?_
              have z136 : (2 : Int32).toInt = 2 := by decide
              refine pv_callv (M := mX7_readPiece) (as := [.int 2]) (st := []) (kc2 := 0) (ks2 := 0) dX7_readPiece_134 wd539 YX7_readSum ⟨wd541, wd4⟩ (mk_get (tl86 hT)) rfl rfl (s_X7_readSum_v2z g hT I124 R (by first | omega | assumption | exact (iv_rng _).2 | exact (iv_rng _).1 | decide) (TBC_eq hp1 kt132) (by first | omega | assumption | exact (iv_rng _).2 | exact (iv_rng _).1 | decide)) rfl rfl (Nat.le_of_ble_eq_true rfl) (by decide) rfl rfl 137 rfl (fun rv h1 q137 => ?_)
              obtain ⟨m138, n139, v142, rfl, rfl, I140, K141, pv142, qv142, rv142⟩ := q137
              replace rv142 : (m123 86 3).toInt ≤ (m138 86 3).toInt ∧ (m138 86 3).toInt ≤ (m138 86 2).toInt ∧ (m138 86 2).toInt = (m123 86 2).toInt ∧ (RSX (SU (tC m123) 4 (m123 86 3).toInt) v142.toInt (m138 86 3).toInt (m138 86 4).toInt) ∧ (m138 lb 7).toInt = (m123 lb 7).toInt ∧ IFZ v142.toInt (CDS lb m123 m138 11 (SUD (tC m123) 4 (m123 86 3).toInt) ((m138 86 3).toInt - (m123 86 3).toInt)) := by have q_ := rv142; (try rw [z136] at q_); exact q_
              have K141c := K141
              have K141 := K125.trans (K141.sub (fun _ _ q => q))
              show PV _ _ _ _ _ _ _ 137 [.ref 86, .int 2, .int v29] [.int v142] _
              have k137 := rv142.2.2.2.1
              rw [kt132, kp132] at k137
              have k137z := rv142.2.2.2.2.2
              rw [kt132, kp132] at k137z
              refine pv_if_ne (M := mX7_readPiece) (tgt := 142) dX7_readPiece_137 140 rfl (by decide) (fun c147 => ?_) (fun c147 => ?_)
              · have c147 := iv_ne (X := v142.toInt) (Y := 0) c147 rfl (by decide)
                have k142z := IFZ.get k137z (by omega)
                have k142b := CDS_b k142z
                refine pv_aload_n (M := mX7_readPiece) 0 dX7_readPiece_142 143 rfl rfl rfl ?_
                refine mv_get (M := mX7_readPiece) (v := .ref lb) dX7_readPiece_143 FX7 1 wd281 (by decide) (tl86 hT) rfl R.2.2.2.1 146 rfl ?_
                refine pv_iload_n (M := mX7_readPiece) 2 dX7_readPiece_146 147 rfl rfl rfl ?_
                refine pv_iconst (M := mX7_readPiece) (v := 0) dX7_readPiece_147 148 rfl (by decide) ?_
                have z150 : (0 : Int32).toInt = 0 := by decide
                refine pv_callv (M := mX7_readPiece) (as := [.int v29, .int 0]) (st := []) (kc2 := 0) (ks2 := 0) dX7_readPiece_148 wd567 YX6_emit ⟨wd568, wd569⟩ (mk_get R.2.2.2.2.2.2.1) rfl rfl (s_X6_emit_vz g hT I140 lb R.2.2.2.2.2 v29 0 (by decide) (by decide)) rfl rfl (Nat.le_of_ble_eq_true rfl) (by decide) rfl rfl 151 rfl (fun rv h1 q151 => ?_)
                obtain ⟨m152, n153, rfl, rfl, I154, K155, rm152⟩ := q151
                replace rm152 : (m152 lb 7).toInt = (m138 lb 7).toInt ∧ ((m138 lb 2).toInt < 160 → EMT lb m138 m152 v29.toInt (0 : Int32)) := by have q_ := rm152; (try rw [z150] at q_); exact q_
                have K155c := K155
                have w156 : (m152 86 3).toInt = (m138 86 3).toInt := congrArg Int32.toInt (K155 86 3 (wY_out (by omega) (by omega) (by omega)))
                have w157 : (m152 86 2).toInt = (m138 86 2).toInt := congrArg Int32.toInt (K155 86 2 (wY_out (by omega) (by omega) (by omega)))
                have w158 : (m152 86 4).toInt = (m138 86 4).toInt := congrArg Int32.toInt (K155 86 4 (wY_out (by omega) (by omega) (by omega)))
                have K155 := K141.trans (K155.sub (by first | exact wZ_wY | exact wZ_86))
                show PV _ _ _ _ _ _ _ 151 [.ref 86, .int 2, .int v29] [] _
                have k151 := rm152.2 (by omega)
                refine pv_iconst (M := mX7_readPiece) (v := 1) dX7_readPiece_151 152 rfl (by decide) ?_
                have z160 : (1 : Int32).toInt = 1 := by decide
                exact pv_iret (M := mX7_readPiece) dX7_readPiece_152 rfl rfl ⟨_, _, _, rfl, rfl, I154, K155, by decide, by decide, ⟨by omega, by omega, by omega, Or.inl ⟨by decide, by rw [PI_cm kn33 kn40, CM_ok k93 kC, RSX_ok k137 (by omega), show (m138 86 3).toInt = (m152 86 3).toInt by omega]⟩, by omega, IFZ.is (by rw [PID_cm kn33 kn40, CMD_ok k93, ← k97]; exact CDS.wk (CDS.op k93z (CDS.pre ks132 k142z (Int.le_refl _)) k151 (isO_c (by rw [k97]; exact kC)) (Int.le_refl _) (by omega)) (by omega) (by omega))⟩⟩
              · have c147 := iv_eq (X := v142.toInt) (Y := 0) c147 rfl (by decide)
                refine pv_iconst (M := mX7_readPiece) (v := 0) dX7_readPiece_140 141 rfl (by decide) ?_
                have z161 : (0 : Int32).toInt = 0 := by decide
                exact pv_iret (M := mX7_readPiece) dX7_readPiece_141 rfl rfl ⟨_, _, _, rfl, rfl, I140, K141, by decide, by decide, ⟨by omega, by omega, by omega, Or.inr ⟨by decide, by rw [PI_cm kn33 kn40, CM_ok k93 kC]; exact RSX_fl k137 (by omega)⟩, by omega, IFZ.no (by first | decide | omega)⟩⟩
            · have c119 := iv_ne (X := v29.toInt) (Y := 61) c119 rfl (by decide)
              refine pv_aload_n (M := mX7_readPiece) 0 dX7_readPiece_116 117 rfl rfl rfl ?_
              refine pv_iconst (M := mX7_readPiece) (v := 1) dX7_readPiece_117 118 rfl (by decide) ?_
              have z162 : (1 : Int32).toInt = 1 := by decide
              refine pv_callv (M := mX7_readPiece) (as := [.int 1]) (st := []) (kc2 := 0) (ks2 := 0) dX7_readPiece_118 wd531 YX7_fail ⟨wd533, wd3⟩ (mk_get (tl86 hT)) rfl rfl (s_X7_fail_vz g hT I17 R 1 (by decide) (by decide) (by first | omega | assumption | exact (iv_rng _).2 | exact (iv_rng _).1 | decide)) rfl rfl (Nat.le_of_ble_eq_true rfl) (by decide) rfl rfl 121 rfl (fun rv h1 q163 => ?_)
              obtain ⟨m164, n165, v168, rfl, rfl, I166, K167, pv168, qv168, rv168⟩ := q163
              replace rv168 : (m15 86 3).toInt ≤ (m164 86 3).toInt ∧ (m164 86 3).toInt ≤ (m164 86 2).toInt ∧ (m164 86 2).toInt = (m15 86 2).toInt ∧ (v168.toInt = 0 ∧ (m164 86 3).toInt = (m15 86 3).toInt ∧ (m164 86 4).toInt = -1000 * (1 : Int) - (m15 86 3).toInt) ∧ (m164 lb 7).toInt = (m15 lb 7).toInt := by have q_ := rv168; (try rw [z162] at q_); exact q_
              have K167c := K167
              have w169 : (m164 86 2).toInt = (m15 86 2).toInt := congrArg Int32.toInt (K167 86 2 rfl)
              have K167 := K18.trans (K167.sub (by first | exact wZ_wY | exact wZ_86))
              show PV _ _ _ _ _ _ _ 121 [.ref 86, .int 2, .int v29] [.int v168] _
              exact pv_iret (M := mX7_readPiece) dX7_readPiece_121 rfl (iv_nz (by omega) (by omega)) ⟨_, _, _, rfl, rfl, I166, K167, by omega, by omega, ⟨by omega, by omega, by omega, Or.inr ⟨by omega, by rw [PI_cm kn33 kn40]; exact CM_no k93 (isC_no (by omega) (by omega) (by omega)) (by omega)⟩, by omega, IFZ.no (by first | decide | omega)⟩⟩
      · have c22 := iv_eq (X := v19.toInt) (Y := 0) c22 rfl (by decide)
        refine pv_iconst (M := mX7_readPiece) (v := 0) dX7_readPiece_91 92 rfl (by decide) ?_
        have z170 : (0 : Int32).toInt = 0 := by decide
        exact pv_iret (M := mX7_readPiece) dX7_readPiece_92 rfl rfl ⟨_, _, _, rfl, rfl, I17, K18, by decide, by decide, ⟨by omega, by omega, by omega, Or.inr ⟨by decide, by rw [PI_cm kn33 kn40]; exact CM_fl (RSX_fl k88 (by omega))⟩, by omega, IFZ.no (by first | decide | omega)⟩⟩
    · have c11 := iv_eq (X := v8.toInt) (Y := 40) c11 rfl (by decide)
      have k40 : tC m (m 86 3).toInt = 40 := by omega
      refine pv_aload_n (M := mX7_readPiece) 0 dX7_readPiece_50 51 rfl rfl rfl ?_
      refine pv_iload_n (M := mX7_readPiece) 1 dX7_readPiece_51 52 rfl rfl rfl ?_
      have z172 : (2 : Int32).toInt = 2 := by decide
      refine pv_callv (M := mX7_readPiece) (as := [.int 2]) (st := []) (kc2 := 0) (ks2 := 0) dX7_readPiece_52 wd551 YX7_open ⟨wd553, wd7⟩ (mk_get (tl86 hT)) rfl rfl (s_X7_open_vz g hT I R 2 (by decide) (by decide) (by first | omega | assumption | exact (iv_rng _).2 | exact (iv_rng _).1 | decide)) rfl rfl (Nat.le_of_ble_eq_true rfl) (by decide) rfl rfl 55 rfl (fun rv h1 q173 => ?_)
      obtain ⟨m174, n175, v178, rfl, rfl, I176, K177, pv178, qv178, rv178⟩ := q173
      replace rv178 : (v178 = 0 ∨ (2 : Int) ≤ 5) ∧ (m 86 3).toInt ≤ (m174 86 3).toInt ∧ (m174 86 3).toInt ≤ (m174 86 2).toInt ∧ (m174 86 2).toInt = (m 86 2).toInt ∧ ((v178.toInt = 1 ∧ (2 : Int) ≤ 5 ∧ (m174 86 3).toInt = (m 86 3).toInt + 1) ∨ (v178.toInt = 0 ∧ 6 ≤ (2 : Int) ∧ (m174 86 4).toInt = -5000 - (m 86 3).toInt ∧ (m174 86 3).toInt = (m 86 3).toInt)) ∧ (m174 lb 7).toInt = (m lb 7).toInt := by have q_ := rv178; (try rw [z172] at q_); exact q_
      have K177c := K177
      have w179 : (m174 86 2).toInt = (m 86 2).toInt := congrArg Int32.toInt (K177 86 2 rfl)
      have K177 := Kp.trans (K177.sub (by first | exact wZ_wY | exact wZ_86))
      show PV _ _ _ _ _ _ _ 55 [.ref 86, .int 2, pv_U] [.int v178] _
      refine pv_if_eq (M := mX7_readPiece) (tgt := 81) dX7_readPiece_55 58 rfl (by decide) (fun c180 => ?_) (fun c180 => ?_)
      · have c180 := iv_eq (X := v178.toInt) (Y := 0) c180 rfl (by decide)
        refine pv_iconst (M := mX7_readPiece) (v := 0) dX7_readPiece_81 82 rfl (by decide) ?_
        have z181 : (0 : Int32).toInt = 0 := by decide
        exact pv_iret (M := mX7_readPiece) dX7_readPiece_82 rfl rfl ⟨_, _, _, rfl, rfl, I176, K177, by decide, by decide, ⟨by omega, by omega, by omega, (by first | exact Or.inr ⟨by decide, PX_deep (Or.inr k40) (by omega)⟩ | exact Or.inr ⟨by decide, PX_cn k40 k68 (fun z => by omega) (by omega)⟩ | exact Or.inl ⟨by decide, PX_co k40 k68 (by omega) (by omega)⟩ | exact Or.inr ⟨by decide, PX_con k40 (RSX_fl k65 (by omega))⟩ | (exfalso; omega)), by omega, (by first | exact IFZ.is (by rw [PID_opn k40]; exact CDS.wk (CDS.post (CDS.pre ks58 (IFZ.get k65z (by omega)) (Int.le_refl _)) ks74) (by omega) (by omega)) | exact IFZ.no (by first | decide | omega))⟩⟩
      · have pc180 := rv178.1.resolve_left c180
        have c180 := iv_ne (X := v178.toInt) (Y := 0) c180 rfl (by decide)
        have kt58 : tC m174 = tC m := tC_fz zR2 K177
        have kp58 : (m174 86 3).toInt = (m 86 3).toInt + 1 := by omega
        have ks58 : SAML lb m m174 := SAML.fz zR2 K177c
        have kl58 : (m174 lb 2).toInt = (m lb 2).toInt := congrArg Int32.toInt ks58.1
        refine pv_aload_n (M := mX7_readPiece) 0 dX7_readPiece_58 59 rfl rfl rfl ?_
        refine pv_iload_n (M := mX7_readPiece) 1 dX7_readPiece_59 60 rfl rfl rfl ?_
        refine pv_iconst (M := mX7_readPiece) (v := 1) dX7_readPiece_60 61 rfl (by decide) ?_
        refine pv_iadd (M := mX7_readPiece) (v := 3) dX7_readPiece_61 62 rfl (by decide) ?_
        have z187 : (3 : Int32).toInt = 3 := by decide
        refine pv_callv (M := mX7_readPiece) (as := [.int 3]) (st := []) (kc2 := 0) (ks2 := 0) dX7_readPiece_62 wd662 YX7_readCondition ⟨wd664, wd12⟩ (mk_get (tl86 hT)) rfl rfl (s_X7_readCondition_v3z g hT I176 R (by first | omega | assumption | exact (iv_rng _).2 | exact (iv_rng _).1 | decide) (TBC_eq hp1 kt58) (by first | omega | assumption | exact (iv_rng _).2 | exact (iv_rng _).1 | decide)) rfl rfl (Nat.le_of_ble_eq_true rfl) (by decide) rfl rfl 65 rfl (fun rv h1 q188 => ?_)
        obtain ⟨m189, n190, v193, rfl, rfl, I191, K192, pv193, qv193, rv193⟩ := q188
        replace rv193 : (m174 86 3).toInt ≤ (m189 86 3).toInt ∧ (m189 86 3).toInt ≤ (m189 86 2).toInt ∧ (m189 86 2).toInt = (m174 86 2).toInt ∧ (RSX (CN (tC m174) 3 (m174 86 3).toInt) v193.toInt (m189 86 3).toInt (m189 86 4).toInt) ∧ (m189 lb 7).toInt = (m174 lb 7).toInt ∧ IFZ v193.toInt (CDS lb m174 m189 10 (CND_ (tC m174) 3 (m174 86 3).toInt) ((m189 86 3).toInt - (m174 86 3).toInt)) := by have q_ := rv193; (try rw [z187] at q_); exact q_
        have K192c := K192
        have K192 := K177.trans (K192.sub (fun _ _ q => q))
        show PV _ _ _ _ _ _ _ 65 [.ref 86, .int 2, pv_U] [.int v193] _
        have k65 := rv193.2.2.2.1
        rw [kt58, kp58] at k65
        have k65z := rv193.2.2.2.2.2
        rw [kt58, kp58] at k65z
        refine pv_if_eq (M := mX7_readPiece) (tgt := 81) dX7_readPiece_65 68 rfl (by decide) (fun c198 => ?_) (fun c198 => ?_)
        · have c198 := iv_eq (X := v193.toInt) (Y := 0) c198 rfl (by decide)
          refine pv_iconst (M := mX7_readPiece) (v := 0) dX7_readPiece_81 82 rfl (by decide) ?_
          have z199 : (0 : Int32).toInt = 0 := by decide
          exact pv_iret (M := mX7_readPiece) dX7_readPiece_82 rfl rfl ⟨_, _, _, rfl, rfl, I191, K192, by decide, by decide, ⟨by omega, by omega, by omega, (by first | exact Or.inr ⟨by decide, PX_deep (Or.inr k40) (by omega)⟩ | exact Or.inr ⟨by decide, PX_cn k40 k68 (fun z => by omega) (by omega)⟩ | exact Or.inl ⟨by decide, PX_co k40 k68 (by omega) (by omega)⟩ | exact Or.inr ⟨by decide, PX_con k40 (RSX_fl k65 (by omega))⟩ | (exfalso; omega)), by omega, (by first | exact IFZ.is (by rw [PID_opn k40]; exact CDS.wk (CDS.post (CDS.pre ks58 (IFZ.get k65z (by omega)) (Int.le_refl _)) ks74) (by omega) (by omega)) | exact IFZ.no (by first | decide | omega))⟩⟩
        · have c198 := iv_ne (X := v193.toInt) (Y := 0) c198 rfl (by decide)
          have k68 := RSX_ok k65 (by omega)
          have kt68 : tC m189 = tC m := tC_fz zR2 K192
          refine pv_aload_n (M := mX7_readPiece) 0 dX7_readPiece_68 69 rfl rfl rfl ?_
          refine pv_bipush (M := mX7_readPiece) (v := 41) dX7_readPiece_69 71 rfl (by decide) ?_
          have z202 : (41 : Int32).toInt = 41 := by decide
          refine pv_callv (M := mX7_readPiece) (as := [.int 41]) (st := []) (kc2 := 0) (ks2 := 0) dX7_readPiece_71 wd555 YX7_pass ⟨wd557, wd8⟩ (mk_get (tl86 hT)) rfl rfl (s_X7_pass_vz g hT I191 R 41 (by decide) (by decide) (by first | omega | assumption | exact (iv_rng _).2 | exact (iv_rng _).1 | decide)) rfl rfl (Nat.le_of_ble_eq_true rfl) (by decide) rfl rfl 74 rfl (fun rv h1 q203 => ?_)
          obtain ⟨m204, n205, v208, rfl, rfl, I206, K207, pv208, qv208, rv208⟩ := q203
          replace rv208 : (m189 86 3).toInt ≤ (m204 86 3).toInt ∧ (m204 86 3).toInt ≤ (m204 86 2).toInt ∧ (m204 86 2).toInt = (m189 86 2).toInt ∧ ((v208.toInt = 1 ∧ tC m189 (m189 86 3).toInt = (41 : Int) ∧ (m204 86 3).toInt = (m189 86 3).toInt + 1) ∨ (v208.toInt = 0 ∧ tC m189 (m189 86 3).toInt ≠ (41 : Int) ∧ (m204 86 4).toInt = -1000 - (m189 86 3).toInt ∧ (m204 86 3).toInt = (m189 86 3).toInt)) ∧ (m204 lb 7).toInt = (m189 lb 7).toInt := by have q_ := rv208; (try rw [z202] at q_); exact q_
          have K207c := K207
          have w209 : (m204 86 2).toInt = (m189 86 2).toInt := congrArg Int32.toInt (K207 86 2 rfl)
          have K207 := K192.trans (K207.sub (by first | exact wZ_wY | exact wZ_86))
          show PV _ _ _ _ _ _ _ 74 [.ref 86, .int 2, pv_U] [.int v208] _
          have k74 := rv208.2.2.2.1
          rw [kt68] at k74
          have ks74 : SAML lb m189 m204 := SAML.fz zR2 K207c
          refine pv_if_eq (M := mX7_readPiece) (tgt := 81) dX7_readPiece_74 77 rfl (by decide) (fun c213 => ?_) (fun c213 => ?_)
          · have c213 := iv_eq (X := v208.toInt) (Y := 0) c213 rfl (by decide)
            refine pv_iconst (M := mX7_readPiece) (v := 0) dX7_readPiece_81 82 rfl (by decide) ?_
            have z214 : (0 : Int32).toInt = 0 := by decide
            exact pv_iret (M := mX7_readPiece) dX7_readPiece_82 rfl rfl ⟨_, _, _, rfl, rfl, I206, K207, by decide, by decide, ⟨by omega, by omega, by omega, (by first | exact Or.inr ⟨by decide, PX_deep (Or.inr k40) (by omega)⟩ | exact Or.inr ⟨by decide, PX_cn k40 k68 (fun z => by omega) (by omega)⟩ | exact Or.inl ⟨by decide, PX_co k40 k68 (by omega) (by omega)⟩ | exact Or.inr ⟨by decide, PX_con k40 (RSX_fl k65 (by omega))⟩ | (exfalso; omega)), by omega, (by first | exact IFZ.is (by rw [PID_opn k40]; exact CDS.wk (CDS.post (CDS.pre ks58 (IFZ.get k65z (by omega)) (Int.le_refl _)) ks74) (by omega) (by omega)) | exact IFZ.no (by first | decide | omega))⟩⟩
          · have c213 := iv_ne (X := v208.toInt) (Y := 0) c213 rfl (by decide)
            refine pv_iconst (M := mX7_readPiece) (v := 1) dX7_readPiece_77 78 rfl (by decide) ?_
            refine pv_goto (M := mX7_readPiece) (tgt := 82) dX7_readPiece_78 (by decide) ?_
            have z215 : (1 : Int32).toInt = 1 := by decide
            exact pv_iret (M := mX7_readPiece) dX7_readPiece_82 rfl rfl ⟨_, _, _, rfl, rfl, I206, K207, by decide, by decide, ⟨by omega, by omega, by omega, (by first | exact Or.inr ⟨by decide, PX_deep (Or.inr k40) (by omega)⟩ | exact Or.inr ⟨by decide, PX_cn k40 k68 (fun z => by omega) (by omega)⟩ | exact Or.inl ⟨by decide, PX_co k40 k68 (by omega) (by omega)⟩ | exact Or.inr ⟨by decide, PX_con k40 (RSX_fl k65 (by omega))⟩ | (exfalso; omega)), by omega, (by first | exact IFZ.is (by rw [PID_opn k40]; exact CDS.wk (CDS.post (CDS.pre ks58 (IFZ.get k65z (by omega)) (Int.le_refl _)) ks74) (by omega) (by omega)) | exact IFZ.no (by first | decide | omega))⟩⟩
  · have c5 := iv_eq (X := v2.toInt) (Y := 33) c5 rfl (by decide)
    have k33 : tC m (m 86 3).toInt = 33 := by omega
    refine pv_aload_n (M := mX7_readPiece) 0 dX7_readPiece_9 10 rfl rfl rfl ?_
    refine pv_iload_n (M := mX7_readPiece) 1 dX7_readPiece_10 11 rfl rfl rfl ?_
    have z217 : (2 : Int32).toInt = 2 := by decide
    refine pv_callv (M := mX7_readPiece) (as := [.int 2]) (st := []) (kc2 := 0) (ks2 := 0) dX7_readPiece_11 wd551 YX7_open ⟨wd553, wd7⟩ (mk_get (tl86 hT)) rfl rfl (s_X7_open_vz g hT I R 2 (by decide) (by decide) (by first | omega | assumption | exact (iv_rng _).2 | exact (iv_rng _).1 | decide)) rfl rfl (Nat.le_of_ble_eq_true rfl) (by decide) rfl rfl 14 rfl (fun rv h1 q218 => ?_)
    obtain ⟨m219, n220, v223, rfl, rfl, I221, K222, pv223, qv223, rv223⟩ := q218
    replace rv223 : (v223 = 0 ∨ (2 : Int) ≤ 5) ∧ (m 86 3).toInt ≤ (m219 86 3).toInt ∧ (m219 86 3).toInt ≤ (m219 86 2).toInt ∧ (m219 86 2).toInt = (m 86 2).toInt ∧ ((v223.toInt = 1 ∧ (2 : Int) ≤ 5 ∧ (m219 86 3).toInt = (m 86 3).toInt + 1) ∨ (v223.toInt = 0 ∧ 6 ≤ (2 : Int) ∧ (m219 86 4).toInt = -5000 - (m 86 3).toInt ∧ (m219 86 3).toInt = (m 86 3).toInt)) ∧ (m219 lb 7).toInt = (m lb 7).toInt := by have q_ := rv223; (try rw [z217] at q_); exact q_
    have K222c := K222
    have w224 : (m219 86 2).toInt = (m 86 2).toInt := congrArg Int32.toInt (K222 86 2 rfl)
    have K222 := Kp.trans (K222.sub (by first | exact wZ_wY | exact wZ_86))
    show PV _ _ _ _ _ _ _ 14 [.ref 86, .int 2, pv_U] [.int v223] _
    refine pv_if_eq (M := mX7_readPiece) (tgt := 27) dX7_readPiece_14 17 rfl (by decide) (fun c225 => ?_) (fun c225 => ?_)
    · have c225 := iv_eq (X := v223.toInt) (Y := 0) c225 rfl (by decide)
      refine pv_iconst (M := mX7_readPiece) (v := 0) dX7_readPiece_27 28 rfl (by decide) ?_
      have z226 : (0 : Int32).toInt = 0 := by decide
      exact pv_iret (M := mX7_readPiece) dX7_readPiece_28 rfl rfl ⟨_, _, _, rfl, rfl, I221, K222, by decide, by decide, ⟨by omega, by omega, by omega, (by first | exact Or.inr ⟨by decide, PX_deep (Or.inl k33) (by omega)⟩ | exact Or.inr ⟨by decide, by rw [PI_not k33]; exact RSX_fl k24 (by omega)⟩ | (exfalso; omega)), by omega, IFZ.no (by first | decide | omega)⟩⟩
    · have pc225 := rv223.1.resolve_left c225
      have c225 := iv_ne (X := v223.toInt) (Y := 0) c225 rfl (by decide)
      have kt17 : tC m219 = tC m := tC_fz zR2 K222
      have kp17 : (m219 86 3).toInt = (m 86 3).toInt + 1 := by omega
      have ks17 : SAML lb m m219 := SAML.fz zR2 K222c
      have kl17 : (m219 lb 2).toInt = (m lb 2).toInt := congrArg Int32.toInt ks17.1
      refine pv_aload_n (M := mX7_readPiece) 0 dX7_readPiece_17 18 rfl rfl rfl ?_
      refine pv_iload_n (M := mX7_readPiece) 1 dX7_readPiece_18 19 rfl rfl rfl ?_
      refine pv_iconst (M := mX7_readPiece) (v := 1) dX7_readPiece_19 20 rfl (by decide) ?_
      refine pv_iadd (M := mX7_readPiece) (v := 3) dX7_readPiece_20 21 rfl (by decide) ?_
      have z232 : (3 : Int32).toInt = 3 := by decide
      refine pv_callv (M := mX7_readPiece) (as := [.int 3]) (st := []) (kc2 := 0) (ks2 := 0) dX7_readPiece_21 wd674 YX7_readPiece ⟨wd676, wd14⟩ (mk_get (tl86 hT)) rfl rfl (s_X7_readPiece_v3z g hT I221 R (by first | omega | assumption | exact (iv_rng _).2 | exact (iv_rng _).1 | decide) (TBC_eq hp1 kt17) (by first | omega | assumption | exact (iv_rng _).2 | exact (iv_rng _).1 | decide)) rfl rfl (Nat.le_of_ble_eq_true rfl) (by decide) rfl rfl 24 rfl (fun rv h1 q233 => ?_)
      obtain ⟨m234, n235, v238, rfl, rfl, I236, K237, pv238, qv238, rv238⟩ := q233
      replace rv238 : (m219 86 3).toInt ≤ (m234 86 3).toInt ∧ (m234 86 3).toInt ≤ (m234 86 2).toInt ∧ (m234 86 2).toInt = (m219 86 2).toInt ∧ (RSX (PI (tC m219) 3 (m219 86 3).toInt) v238.toInt (m234 86 3).toInt (m234 86 4).toInt) ∧ (m234 lb 7).toInt = (m219 lb 7).toInt ∧ IFZ v238.toInt (CDS lb m219 m234 10 (PID (tC m219) 3 (m219 86 3).toInt) ((m234 86 3).toInt - (m219 86 3).toInt)) := by have q_ := rv238; (try rw [z232] at q_); exact q_
      have K237c := K237
      have K237 := K222.trans (K237.sub (fun _ _ q => q))
      show PV _ _ _ _ _ _ _ 24 [.ref 86, .int 2, pv_U] [.int v238] _
      have k24 := rv238.2.2.2.1
      rw [kt17, kp17] at k24
      have k24z := rv238.2.2.2.2.2
      rw [kt17, kp17] at k24z
      refine pv_if_ne (M := mX7_readPiece) (tgt := 29) dX7_readPiece_24 27 rfl (by decide) (fun c243 => ?_) (fun c243 => ?_)
      · have c243 := iv_ne (X := v238.toInt) (Y := 0) c243 rfl (by decide)
        have k29z := IFZ.get k24z (by omega)
        have k29b := CDS_b k29z
        refine pv_aload_n (M := mX7_readPiece) 0 dX7_readPiece_29 30 rfl rfl rfl ?_
        refine mv_get (M := mX7_readPiece) (v := .ref lb) dX7_readPiece_30 FX7 1 wd281 (by decide) (tl86 hT) rfl R.2.2.2.1 33 rfl ?_
        refine pv_bipush (M := mX7_readPiece) (v := 33) dX7_readPiece_33 35 rfl (by decide) ?_
        refine pv_iconst (M := mX7_readPiece) (v := 0) dX7_readPiece_35 36 rfl (by decide) ?_
        have z246 : (33 : Int32).toInt = 33 := by decide
        have z247 : (0 : Int32).toInt = 0 := by decide
        refine pv_callv (M := mX7_readPiece) (as := [.int 33, .int 0]) (st := []) (kc2 := 0) (ks2 := 0) dX7_readPiece_36 wd567 YX6_emit ⟨wd568, wd569⟩ (mk_get R.2.2.2.2.2.2.1) rfl rfl (s_X6_emit_vz g hT I236 lb R.2.2.2.2.2 33 0 (by decide) (by decide)) rfl rfl (Nat.le_of_ble_eq_true rfl) (by decide) rfl rfl 39 rfl (fun rv h1 q248 => ?_)
        obtain ⟨m249, n250, rfl, rfl, I251, K252, rm249⟩ := q248
        replace rm249 : (m249 lb 7).toInt = (m234 lb 7).toInt ∧ ((m234 lb 2).toInt < 160 → EMT lb m234 m249 (33 : Int) (0 : Int32)) := by have q_ := rm249; (try rw [z246] at q_); (try rw [z247] at q_); exact q_
        have K252c := K252
        have w253 : (m249 86 3).toInt = (m234 86 3).toInt := congrArg Int32.toInt (K252 86 3 (wY_out (by omega) (by omega) (by omega)))
        have w254 : (m249 86 2).toInt = (m234 86 2).toInt := congrArg Int32.toInt (K252 86 2 (wY_out (by omega) (by omega) (by omega)))
        have w255 : (m249 86 4).toInt = (m234 86 4).toInt := congrArg Int32.toInt (K252 86 4 (wY_out (by omega) (by omega) (by omega)))
        have K252 := K237.trans (K252.sub (by first | exact wZ_wY | exact wZ_86))
        show PV _ _ _ _ _ _ _ 39 [.ref 86, .int 2, pv_U] [] _
        have k39 := rm249.2 (by omega)
        refine pv_iconst (M := mX7_readPiece) (v := 1) dX7_readPiece_39 40 rfl (by decide) ?_
        have z257 : (1 : Int32).toInt = 1 := by decide
        exact pv_iret (M := mX7_readPiece) dX7_readPiece_40 rfl rfl ⟨_, _, _, rfl, rfl, I251, K252, by decide, by decide, ⟨by omega, by omega, by omega, Or.inl ⟨by decide, by rw [PI_not k33, RSX_ok k24 (by omega), show (m234 86 3).toInt = (m249 86 3).toInt by omega]⟩, by omega, IFZ.is (by rw [PID_not k33]; exact CDS.wk (CDS.not (CDS.pre ks17 k29z (Int.le_refl _)) k39 (Int.le_refl _) (by omega)) (by omega) (by omega))⟩⟩
      · have c243 := iv_eq (X := v238.toInt) (Y := 0) c243 rfl (by decide)
        refine pv_iconst (M := mX7_readPiece) (v := 0) dX7_readPiece_27 28 rfl (by decide) ?_
        have z258 : (0 : Int32).toInt = 0 := by decide
        exact pv_iret (M := mX7_readPiece) dX7_readPiece_28 rfl rfl ⟨_, _, _, rfl, rfl, I236, K237, by decide, by decide, ⟨by omega, by omega, by omega, (by first | exact Or.inr ⟨by decide, PX_deep (Or.inl k33) (by omega)⟩ | exact Or.inr ⟨by decide, by rw [PI_not k33]; exact RSX_fl k24 (by omega)⟩ | (exfalso; omega)), by omega, IFZ.no (by first | decide | omega)⟩⟩

set_option maxHeartbeats 2000000 in
set_option maxRecDepth 20000 in
theorem s_X7_readPart_v2z (g : pv_G) {T : List mv_T} {m : Nat → Nat → Int32} {n : Nat → Nat → Int64} {r : Nat → Value} {la lb : Nat} (hT : TX T) (I : IV BB m) (R : RX T r la lb) (hp0 : (m 86 3).toInt ≤ (m 86 2).toInt) (hp1 : TBC m) (hp2 : (m lb 2).toInt ≤ (m 86 3).toInt) : PM g mX7_readPart yX7_readPart (sqI T BB (wZ lb) r m 0 1 (fun m' v => (m 86 3).toInt ≤ (m' 86 3).toInt ∧ (m' 86 3).toInt ≤ (m' 86 2).toInt ∧ (m' 86 2).toInt = (m 86 2).toInt ∧ ((v.toInt = 0 ∨ (m 86 3).toInt + 1 ≤ (m' 86 3).toInt) ∧ TRX (CN (tC m) 4 (m 86 3).toInt) (LB (tC m) 4) (fun a => tC m a ≠ 38) v.toInt (m' 86 3).toInt (m' 86 4).toInt) ∧ (m' lb 7).toInt = (m lb 7).toInt ∧ IFZ v.toInt (PTZ (tC m) 4 lb m m' (m 86 3).toInt (m' 86 3).toInt))) 21 0 0 [.ref 86, .int 2] (mk T m n r) := by
  have Kp : fr (wZ lb) m m := fr.rf
  have R0 := R
  have zR := R.2.2.2.2.1.1
  have zR2 := R.2.2.2.2.2.1
  have z104 : 0 ≤ (m 86 3).toInt ∧ (m 86 3).toInt ≤ 160 := I 86 3
  have z105 : 0 ≤ (m 86 2).toInt ∧ (m 86 2).toInt ≤ 160 := I 86 2
  refine PM.of 2 (lo := [.ref 86, .int 2, pv_U, pv_U]) rfl (by decide) rfl rfl (Nat.le_of_ble_eq_true rfl) ?_
  have kTX := TXT_C I
  refine pv_aload_n (M := mX7_readPart) 0 dX7_readPart_0 1 rfl rfl rfl ?_
  refine mv_get (M := mX7_readPart) (v := .ref lb) dX7_readPart_1 FX7 1 wd281 (by decide) (tl86 hT) rfl R.2.2.2.1 4 rfl ?_
  refine pv_callv (M := mX7_readPart) (as := []) (st := []) (kc2 := 0) (ks2 := 0) dX7_readPart_4 wd666 YX6_steps ⟨wd667, wd668⟩ (mk_get R.2.2.2.2.2.2.1) rfl rfl (s_X6_steps_vz g hT I lb R.2.2.2.2.2) rfl rfl (Nat.le_of_ble_eq_true rfl) (by decide) rfl rfl 7 rfl (fun rv h1 q2 => ?_)
  obtain ⟨v3, rfl, rfl, pv3, qv3, rv3⟩ := q2
  replace rv3 : v3 = m lb 2 := rv3
  show PV _ _ _ _ _ _ _ 7 [.ref 86, .int 2, pv_U, pv_U] [.int v3] _
  have k7 : v3.toInt = (m lb 2).toInt := congrArg Int32.toInt rv3
  refine pv_istore_n (M := mX7_readPart) 2 (lo2 := [.ref 86, .int 2, .int v3, pv_U]) dX7_readPart_7 8 rfl rfl (by decide) rfl rfl ?_
  refine pv_iconst (M := mX7_readPart) (v := 0) dX7_readPart_8 9 rfl (by decide) ?_
  refine pv_istore_n (M := mX7_readPart) 3 (lo2 := [.ref 86, .int 2, .int v3, .int 0]) dX7_readPart_9 10 rfl rfl (by decide) rfl rfl ?_
  have lp11 : ∀ (fuel10 : Nat) (y5 : Int32) (m6 : Nat → Nat → Int32) (n7 : Nat → Nat → Int64), (0 ≤ y5.toInt) → (y5.toInt ≤ 160) → ((m6 86 3).toInt ≤ (m6 86 2).toInt) → ((m6 86 2).toInt = (m 86 2).toInt) → ((m6 lb 7).toInt = (m lb 7).toInt) → ((m 86 3).toInt + 2 * y5.toInt ≤ (m6 86 3).toInt) → (CN (tC m) 4 (m 86 3).toInt = CN (tC m) 4 (m6 86 3).toInt) → (PQZ (tC m) 4 lb m m6 (m 86 3).toInt (m6 86 3).toInt) → IV BB m6 → fr (wZ lb) m m6 → ((160 - y5.toInt) : Int).toNat < fuel10 → PV none g mX7_readPart (sqI T BB (wZ lb) r m 0 1 (fun m' v => (m 86 3).toInt ≤ (m' 86 3).toInt ∧ (m' 86 3).toInt ≤ (m' 86 2).toInt ∧ (m' 86 2).toInt = (m 86 2).toInt ∧ ((v.toInt = 0 ∨ (m 86 3).toInt + 1 ≤ (m' 86 3).toInt) ∧ TRX (CN (tC m) 4 (m 86 3).toInt) (LB (tC m) 4) (fun a => tC m a ≠ 38) v.toInt (m' 86 3).toInt (m' 86 4).toInt) ∧ (m' lb 7).toInt = (m lb 7).toInt ∧ IFZ v.toInt (PTZ (tC m) 4 lb m m' (m 86 3).toInt (m' 86 3).toInt))) 21 0 0 10 [.ref 86, .int 2, .int v3, .int y5] [] (mk T m6 n7 r) := by
    intro fuel10
    induction fuel10 with
    | zero => intro y5 m6 n7 b13 b14 b15 b16 b17 b18 b19 b20 I8 K9 z21; omega
    | succ fuel10 ih12 =>
      intro y5 m6 n7 b13 b14 b15 b16 b17 b18 b19 b20 I8 K9 z21
      have z22 : 0 ≤ (m6 86 3).toInt ∧ (m6 86 3).toInt ≤ 160 := I8 86 3
      have z23 : 0 ≤ (m6 86 2).toInt ∧ (m6 86 2).toInt ≤ 160 := I8 86 2
      have kgc := (show CN (tC m) 4 (m 86 3).toInt = CN (tC m) 4 (m6 86 3).toInt by assumption)
      have kt10 : tC m6 = tC m := tC_fz zR2 K9
      have kgz := (show PQZ (tC m) 4 lb m m6 (m 86 3).toInt (m6 86 3).toInt by assumption)
      have kgl := PQZ_b kgz
      refine pv_iload_n (M := mX7_readPart) 3 dX7_readPart_10 11 rfl rfl rfl ?_
      refine pv_sipush (M := mX7_readPart) (v := 160) dX7_readPart_11 14 rfl (by decide) ?_
      refine pv_icmp_ge (M := mX7_readPart) (tgt := 65) dX7_readPart_14 17 rfl (by decide) (fun c28 => ?_) (fun c28 => ?_)
      · have c28 := iv_le (X := 160) (Y := y5.toInt) c28 (by decide) rfl
        refine pv_aload_n (M := mX7_readPart) 0 dX7_readPart_65 66 rfl rfl rfl ?_
        refine mv_get (M := mX7_readPart) (v := .ref lb) dX7_readPart_66 FX7 1 wd281 (by decide) (tl86 hT) rfl R.2.2.2.1 69 rfl ?_
        refine pv_bipush (M := mX7_readPart) (v := 38) dX7_readPart_69 71 rfl (by decide) ?_
        refine pv_iload_n (M := mX7_readPart) 2 dX7_readPart_71 72 rfl rfl rfl ?_
        have z29 : (38 : Int32).toInt = 38 := by decide
        refine pv_callv (M := mX7_readPart) (as := [.int 38, .int v3]) (st := []) (kc2 := 0) (ks2 := 0) dX7_readPart_72 wd678 YX6_aimLeaps ⟨wd679, wd680⟩ (mk_get R.2.2.2.2.2.2.1) rfl rfl (s_X6_aimLeaps_vz g hT I8 lb R.2.2.2.2.2 38 v3 (by omega) (by omega)) rfl rfl (Nat.le_of_ble_eq_true rfl) (by decide) rfl rfl 75 rfl (fun rv h1 q30 => ?_)
        obtain ⟨m31, n32, rfl, rfl, I33, K34, rm31⟩ := q30
        replace rm31 : (m31 lb 7).toInt = (m6 lb 7).toInt ∧ AIMD lb m6 m31 (38 : Int) v3.toInt := by have q_ := rm31; (try rw [z29] at q_); exact q_
        have K34c := K34
        have w35 : (m31 86 3).toInt = (m6 86 3).toInt := congrArg Int32.toInt (K34 86 3 (wY_out (by omega) (by omega) (by omega)))
        have w36 : (m31 86 2).toInt = (m6 86 2).toInt := congrArg Int32.toInt (K34 86 2 (wY_out (by omega) (by omega) (by omega)))
        have w37 : (m31 86 4).toInt = (m6 86 4).toInt := congrArg Int32.toInt (K34 86 4 (wY_out (by omega) (by omega) (by omega)))
        have K34 := K9.trans (K34.sub (by first | exact wZ_wY | exact wZ_86))
        show PV _ _ _ _ _ _ _ 75 [.ref 86, .int 2, .int v3, .int y5] [] _
        have k75 := rm31.2
        refine pv_iconst (M := mX7_readPart) (v := 1) dX7_readPart_75 76 rfl (by decide) ?_
        have z39 : (1 : Int32).toInt = 1 := by decide
        exact pv_iret (M := mX7_readPart) dX7_readPart_76 rfl rfl ⟨_, _, _, rfl, rfl, I33, K34, by decide, by decide, ⟨by omega, by omega, by omega, (by first | exact ⟨Or.inr (by omega), Or.inl ⟨by decide, by rw [kgc, k27]; congr 1; omega, by show tC m (m31 86 3).toInt ≠ 38; rw [show (m31 86 3).toInt = (m6 86 3).toInt by omega, ← k31]; omega⟩⟩ | (exfalso; omega)), by omega, (by first | exact IFZ.is (by rw [show (m31 86 3).toInt = (m6 86 3).toInt by omega]; exact PRZ_e kzz k75 (by omega)) | exact IFZ.no (by omega))⟩⟩
      · have c28 := iv_nle (X := 160) (Y := y5.toInt) c28 (by decide) rfl
        refine pv_aload_n (M := mX7_readPart) 0 dX7_readPart_17 18 rfl rfl rfl ?_
        refine pv_iload_n (M := mX7_readPart) 1 dX7_readPart_18 19 rfl rfl rfl ?_
        have z40 : (2 : Int32).toInt = 2 := by decide
        refine pv_callv (M := mX7_readPart) (as := [.int 2]) (st := []) (kc2 := 0) (ks2 := 0) dX7_readPart_19 wd674 YX7_readPiece ⟨wd676, wd14⟩ (mk_get (tl86 hT)) rfl rfl (s_X7_readPiece_v2z g hT I8 R (by first | omega | assumption | exact (iv_rng _).2 | exact (iv_rng _).1 | decide) (TBC_eq hp1 kt10) (by first | omega | assumption | exact (iv_rng _).2 | exact (iv_rng _).1 | decide)) rfl rfl (Nat.le_of_ble_eq_true rfl) (by decide) rfl rfl 22 rfl (fun rv h1 q41 => ?_)
        obtain ⟨m42, n43, v46, rfl, rfl, I44, K45, pv46, qv46, rv46⟩ := q41
        replace rv46 : (m6 86 3).toInt ≤ (m42 86 3).toInt ∧ (m42 86 3).toInt ≤ (m42 86 2).toInt ∧ (m42 86 2).toInt = (m6 86 2).toInt ∧ (RSX (PI (tC m6) 4 (m6 86 3).toInt) v46.toInt (m42 86 3).toInt (m42 86 4).toInt) ∧ (m42 lb 7).toInt = (m6 lb 7).toInt ∧ IFZ v46.toInt (CDS lb m6 m42 12 (PID (tC m6) 4 (m6 86 3).toInt) ((m42 86 3).toInt - (m6 86 3).toInt)) := by have q_ := rv46; (try rw [z40] at q_); exact q_
        have K45c := K45
        have K45 := K9.trans (K45.sub (fun _ _ q => q))
        show PV _ _ _ _ _ _ _ 22 [.ref 86, .int 2, .int v3, .int y5] [.int v46] _
        have k22 := rv46.2.2.2.1
        rw [kt10] at k22
        have k22z := rv46.2.2.2.2.2
        rw [kt10] at k22z
        refine pv_if_ne (M := mX7_readPart) (tgt := 27) dX7_readPart_22 25 rfl (by decide) (fun c51 => ?_) (fun c51 => ?_)
        · have c51 := iv_ne (X := v46.toInt) (Y := 0) c51 rfl (by decide)
          have k27o := RSX_ok k22 (by omega)
          have k27 := CN_ok k27o
          have k27p := PI_le 4 (m6 86 3).toInt (by rw [k27o])
          rw [k27o] at k27p
          have kt27 : tC m42 = tC m := tC_fz zR2 K45
          have kzz : PRZ (tC m) 4 lb m m42 (m 86 3).toInt (m42 86 3).toInt := PQZ_p kgz k27o (IFZ.get k22z (by omega))
          have kzb := PRZ_b kzz
          refine pv_aload_n (M := mX7_readPart) 0 dX7_readPart_27 28 rfl rfl rfl ?_
          refine pv_callv (M := mX7_readPart) (as := []) (st := []) (kc2 := 0) (ks2 := 0) dX7_readPart_28 wd527 YX7_peek ⟨wd529, wd2⟩ (mk_get (tl86 hT)) rfl rfl (s_X7_peek_vx g hT I44 R) rfl rfl (Nat.le_of_ble_eq_true rfl) (by decide) rfl rfl 31 rfl (fun rv h1 q59 => ?_)
          obtain ⟨v60, rfl, rfl, pv60, qv60, rv60⟩ := q59
          replace rv60 : v60.toInt = tC m42 (m42 86 3).toInt ∧ (v60.toInt = -1 ∨ (m42 86 3).toInt < (m42 86 2).toInt) := rv60
          show PV _ _ _ _ _ _ _ 31 [.ref 86, .int 2, .int v3, .int y5] [.int v60] _
          have k31 := rv60.1
          have k31b := rv60.2
          rw [kt27] at k31
          refine pv_bipush (M := mX7_readPart) (v := 38) dX7_readPart_31 33 rfl (by decide) ?_
          refine pv_icmp_eq (M := mX7_readPart) (tgt := 39) dX7_readPart_33 36 rfl (by decide) (fun c64 => ?_) (fun c64 => ?_)
          · have c64 := iv_eq (X := v60.toInt) (Y := 38) c64 rfl (by decide)
            have kB : isB (tC m (m42 86 3).toInt) = true := isB_y (by omega)
            refine pv_aload_n (M := mX7_readPart) 0 dX7_readPart_39 40 rfl rfl rfl ?_
            refine mv_get (M := mX7_readPart) (v := .ref lb) dX7_readPart_40 FX7 1 wd281 (by decide) (tl86 hT) rfl R.2.2.2.1 43 rfl ?_
            refine pv_bipush (M := mX7_readPart) (v := 38) dX7_readPart_43 45 rfl (by decide) ?_
            refine pv_iconst (M := mX7_readPart) (v := (-1)) dX7_readPart_45 46 rfl (by decide) ?_
            have z66 : (38 : Int32).toInt = 38 := by decide
            have z67 : ((-1) : Int32).toInt = (-1) := by decide
            refine pv_callv (M := mX7_readPart) (as := [.int 38, .int (-1)]) (st := []) (kc2 := 0) (ks2 := 0) dX7_readPart_46 wd567 YX6_emit ⟨wd568, wd569⟩ (mk_get R.2.2.2.2.2.2.1) rfl rfl (s_X6_emit_vz g hT I44 lb R.2.2.2.2.2 38 (-1) (by decide) (by decide)) rfl rfl (Nat.le_of_ble_eq_true rfl) (by decide) rfl rfl 49 rfl (fun rv h1 q68 => ?_)
            obtain ⟨m69, n70, rfl, rfl, I71, K72, rm69⟩ := q68
            replace rm69 : (m69 lb 7).toInt = (m42 lb 7).toInt ∧ ((m42 lb 2).toInt < 160 → EMT lb m42 m69 (38 : Int) ((-1) : Int32)) := by have q_ := rm69; (try rw [z66] at q_); (try rw [z67] at q_); exact q_
            have K72c := K72
            have w73 : (m69 86 3).toInt = (m42 86 3).toInt := congrArg Int32.toInt (K72 86 3 (wY_out (by omega) (by omega) (by omega)))
            have w74 : (m69 86 2).toInt = (m42 86 2).toInt := congrArg Int32.toInt (K72 86 2 (wY_out (by omega) (by omega) (by omega)))
            have w75 : (m69 86 4).toInt = (m42 86 4).toInt := congrArg Int32.toInt (K72 86 4 (wY_out (by omega) (by omega) (by omega)))
            have K72 := K45.trans (K72.sub (by first | exact wZ_wY | exact wZ_86))
            show PV _ _ _ _ _ _ _ 49 [.ref 86, .int 2, .int v3, .int y5] [] _
            have k49 := rm69.2 (by omega)
            refine pv_aload_n (M := mX7_readPart) 0 dX7_readPart_49 50 rfl rfl rfl ?_
            refine pv_dup (M := mX7_readPart) dX7_readPart_50 51 rfl rfl ?_
            refine iv_get (M := mX7_readPart) (l1 := 0) (l2 := 160) dX7_readPart_51 FX7 3 wd283 (by decide) (tl86 hT) rfl I71 rfl 54 rfl (fun v77 ev77 pv77 qv77 => ?_)
            have wv77 : v77.toInt = (m69 86 3).toInt := congrArg Int32.toInt ev77
            refine pv_iconst (M := mX7_readPart) (v := 1) dX7_readPart_54 55 rfl (by decide) ?_
            refine iv_iadd (M := mX7_readPart) (X := v77.toInt) (Y := 1) dX7_readPart_55 56 rfl rfl (by decide) (by omega) (by omega) (fun v78 ev78 => ?_)
            refine iv_put (M := mX7_readPart) (l1 := 0) (l2 := 160) dX7_readPart_56 FX7 3 wd283 (by decide) rfl (tl86 hT) rfl rfl rfl I71 rfl (by omega) (by omega) 59 rfl (fun m79 e82 I80 => ?_)
            have K81 := K72.set e82 (by first | rfl | decide)
            have w83 : (m79 86 3).toInt = v78.toInt := by rw [e82, up2_eq]
            have w84 : (m79 86 2).toInt = (m69 86 2).toInt := by rw [e82, up2_ne (by omega)]
            have w85 : (m79 86 4).toInt = (m69 86 4).toInt := by rw [e82, up2_ne (by omega)]
            have w86 : (m79 lb 7).toInt = (m69 lb 7).toInt := by rw [e82, up2_ne (by omega)]
            have w87 : (m79 lb 2).toInt = (m69 lb 2).toInt := by rw [e82, up2_ne (by omega)]
            refine iv_inc (M := mX7_readPart) (C := 1) dX7_readPart_59 62 rfl rfl (by decide) rfl rfl (by decide) (by omega) (by omega) (fun v88 ev88 => ?_)
            show PV _ _ _ _ _ _ _ 62 [.ref 86, .int 2, .int v3, .int v88] [] _
            refine pv_goto (M := mX7_readPart) (tgt := 10) dX7_readPart_62 (by decide) ?_
            have kbc : CN (tC m) 4 (m 86 3).toInt = CN (tC m) 4 (m79 86 3).toInt := by rw [kgc, k27, LB_cn kTX (by omega) kB]; congr 1; omega
            have kbz : PQZ (tC m) 4 lb m m79 (m 86 3).toInt (m79 86 3).toInt := PRZ_l kzz kTX (by omega) (show tC m (m42 86 3).toInt = 38 by omega) k49 (by decide) (SAML.set zR2 e82) (by omega)
            exact ih12 v88 m79 n70 (by first | omega | assumption | exact (iv_rng _).2 | exact (iv_rng _).1 | decide) (by first | omega | assumption | exact (iv_rng _).2 | exact (iv_rng _).1 | decide) (by first | omega | assumption | (show (m79 86 3).toInt ≤ (m79 86 2).toInt; omega) | decide) (by first | omega | assumption | (show (m79 86 2).toInt = (m 86 2).toInt; omega) | decide) (by first | omega | assumption | (show (m79 lb 7).toInt = (m lb 7).toInt; omega) | decide) (by first | omega | assumption | (show (m 86 3).toInt + 2 * v88.toInt ≤ (m79 86 3).toInt; omega) | decide) kbc kbz I80 K81 (by omega)
          · have c64 := iv_ne (X := v60.toInt) (Y := 38) c64 rfl (by decide)
            refine pv_goto (M := mX7_readPart) (tgt := 65) dX7_readPart_36 (by decide) ?_
            refine pv_aload_n (M := mX7_readPart) 0 dX7_readPart_65 66 rfl rfl rfl ?_
            refine mv_get (M := mX7_readPart) (v := .ref lb) dX7_readPart_66 FX7 1 wd281 (by decide) (tl86 hT) rfl R.2.2.2.1 69 rfl ?_
            refine pv_bipush (M := mX7_readPart) (v := 38) dX7_readPart_69 71 rfl (by decide) ?_
            refine pv_iload_n (M := mX7_readPart) 2 dX7_readPart_71 72 rfl rfl rfl ?_
            have z91 : (38 : Int32).toInt = 38 := by decide
            refine pv_callv (M := mX7_readPart) (as := [.int 38, .int v3]) (st := []) (kc2 := 0) (ks2 := 0) dX7_readPart_72 wd678 YX6_aimLeaps ⟨wd679, wd680⟩ (mk_get R.2.2.2.2.2.2.1) rfl rfl (s_X6_aimLeaps_vz g hT I44 lb R.2.2.2.2.2 38 v3 (by omega) (by omega)) rfl rfl (Nat.le_of_ble_eq_true rfl) (by decide) rfl rfl 75 rfl (fun rv h1 q92 => ?_)
            obtain ⟨m93, n94, rfl, rfl, I95, K96, rm93⟩ := q92
            replace rm93 : (m93 lb 7).toInt = (m42 lb 7).toInt ∧ AIMD lb m42 m93 (38 : Int) v3.toInt := by have q_ := rm93; (try rw [z91] at q_); exact q_
            have K96c := K96
            have w97 : (m93 86 3).toInt = (m42 86 3).toInt := congrArg Int32.toInt (K96 86 3 (wY_out (by omega) (by omega) (by omega)))
            have w98 : (m93 86 2).toInt = (m42 86 2).toInt := congrArg Int32.toInt (K96 86 2 (wY_out (by omega) (by omega) (by omega)))
            have w99 : (m93 86 4).toInt = (m42 86 4).toInt := congrArg Int32.toInt (K96 86 4 (wY_out (by omega) (by omega) (by omega)))
            have K96 := K45.trans (K96.sub (by first | exact wZ_wY | exact wZ_86))
            show PV _ _ _ _ _ _ _ 75 [.ref 86, .int 2, .int v3, .int y5] [] _
            have k75 := rm93.2
            refine pv_iconst (M := mX7_readPart) (v := 1) dX7_readPart_75 76 rfl (by decide) ?_
            have z101 : (1 : Int32).toInt = 1 := by decide
            exact pv_iret (M := mX7_readPart) dX7_readPart_76 rfl rfl ⟨_, _, _, rfl, rfl, I95, K96, by decide, by decide, ⟨by omega, by omega, by omega, (by first | exact ⟨Or.inr (by omega), Or.inl ⟨by decide, by rw [kgc, k27]; congr 1; omega, by show tC m (m93 86 3).toInt ≠ 38; rw [show (m93 86 3).toInt = (m42 86 3).toInt by omega, ← k31]; omega⟩⟩ | (exfalso; omega)), by omega, (by first | exact IFZ.is (by rw [show (m93 86 3).toInt = (m42 86 3).toInt by omega]; exact PRZ_e kzz k75 (by omega)) | exact IFZ.no (by omega))⟩⟩
        · have c51 := iv_eq (X := v46.toInt) (Y := 0) c51 rfl (by decide)
          refine pv_iconst (M := mX7_readPart) (v := 0) dX7_readPart_25 26 rfl (by decide) ?_
          have z102 : (0 : Int32).toInt = 0 := by decide
          exact pv_iret (M := mX7_readPart) dX7_readPart_26 rfl rfl ⟨_, _, _, rfl, rfl, I44, K45, by decide, by decide, ⟨by omega, by omega, by omega, ⟨Or.inl (by decide), Or.inr ⟨by decide, by rw [kgc]; exact CN_fl (RSX_fl k22 (by omega))⟩⟩, by omega, IFZ.no (by first | decide | omega)⟩⟩
  have z103 : (0 : Int32).toInt = 0 := by decide
  exact lp11 (((160 - 0) : Int).toNat + 1) 0 m n (by first | omega | assumption | exact (iv_rng _).2 | exact (iv_rng _).1 | decide) (by first | omega | assumption | exact (iv_rng _).2 | exact (iv_rng _).1 | decide) (by first | omega | assumption | (show (m 86 3).toInt ≤ (m 86 2).toInt; omega) | decide) (by first | omega | assumption | (show (m 86 2).toInt = (m 86 2).toInt; omega) | decide) (by first | omega | assumption | (show (m lb 7).toInt = (m lb 7).toInt; omega) | decide) (by first | omega | assumption | (show (m 86 3).toInt + 2 * 0 ≤ (m 86 3).toInt; omega) | decide) rfl (PQZ_0 (by omega)) I Kp (by omega)

set_option maxHeartbeats 2000000 in
set_option maxRecDepth 20000 in
theorem s_X7_readCondition_v2z (g : pv_G) {T : List mv_T} {m : Nat → Nat → Int32} {n : Nat → Nat → Int64} {r : Nat → Value} {la lb : Nat} (hT : TX T) (I : IV BB m) (R : RX T r la lb) (hp0 : (m 86 3).toInt ≤ (m 86 2).toInt) (hp1 : TBC m) (hp2 : (m lb 2).toInt ≤ (m 86 3).toInt) : PM g mX7_readCondition yX7_readCondition (sqI T BB (wZ lb) r m 0 1 (fun m' v => (m 86 3).toInt ≤ (m' 86 3).toInt ∧ (m' 86 3).toInt ≤ (m' 86 2).toInt ∧ (m' 86 2).toInt = (m 86 2).toInt ∧ (RSX (CN (tC m) 4 (m 86 3).toInt) v.toInt (m' 86 3).toInt (m' 86 4).toInt) ∧ (m' lb 7).toInt = (m lb 7).toInt ∧ IFZ v.toInt (CDS lb m m' 12 (CND_ (tC m) 4 (m 86 3).toInt) ((m' 86 3).toInt - (m 86 3).toInt)))) 22 0 0 [.ref 86, .int 2] (mk T m n r) := by
  have Kp : fr (wZ lb) m m := fr.rf
  have R0 := R
  have zR := R.2.2.2.2.1.1
  have zR2 := R.2.2.2.2.2.1
  have z103 : 0 ≤ (m 86 3).toInt ∧ (m 86 3).toInt ≤ 160 := I 86 3
  have z104 : 0 ≤ (m 86 2).toInt ∧ (m 86 2).toInt ≤ 160 := I 86 2
  refine PM.of 2 (lo := [.ref 86, .int 2, pv_U, pv_U]) rfl (by decide) rfl rfl (Nat.le_of_ble_eq_true rfl) ?_
  have kTX := TXT_C I
  refine pv_aload_n (M := mX7_readCondition) 0 dX7_readCondition_0 1 rfl rfl rfl ?_
  refine mv_get (M := mX7_readCondition) (v := .ref lb) dX7_readCondition_1 FX7 1 wd281 (by decide) (tl86 hT) rfl R.2.2.2.1 4 rfl ?_
  refine pv_callv (M := mX7_readCondition) (as := []) (st := []) (kc2 := 0) (ks2 := 0) dX7_readCondition_4 wd666 YX6_steps ⟨wd667, wd668⟩ (mk_get R.2.2.2.2.2.2.1) rfl rfl (s_X6_steps_vz g hT I lb R.2.2.2.2.2) rfl rfl (Nat.le_of_ble_eq_true rfl) (by decide) rfl rfl 7 rfl (fun rv h1 q2 => ?_)
  obtain ⟨v3, rfl, rfl, pv3, qv3, rv3⟩ := q2
  replace rv3 : v3 = m lb 2 := rv3
  show PV _ _ _ _ _ _ _ 7 [.ref 86, .int 2, pv_U, pv_U] [.int v3] _
  have k7 : v3.toInt = (m lb 2).toInt := congrArg Int32.toInt rv3
  refine pv_istore_n (M := mX7_readCondition) 2 (lo2 := [.ref 86, .int 2, .int v3, pv_U]) dX7_readCondition_7 8 rfl rfl (by decide) rfl rfl ?_
  refine pv_iconst (M := mX7_readCondition) (v := 0) dX7_readCondition_8 9 rfl (by decide) ?_
  refine pv_istore_n (M := mX7_readCondition) 3 (lo2 := [.ref 86, .int 2, .int v3, .int 0]) dX7_readCondition_9 10 rfl rfl (by decide) rfl rfl ?_
  have lp11 : ∀ (fuel10 : Nat) (y5 : Int32) (m6 : Nat → Nat → Int32) (n7 : Nat → Nat → Int64), (0 ≤ y5.toInt) → (y5.toInt ≤ 160) → ((m6 86 3).toInt ≤ (m6 86 2).toInt) → ((m6 86 2).toInt = (m 86 2).toInt) → ((m6 lb 7).toInt = (m lb 7).toInt) → ((m 86 3).toInt + 2 * y5.toInt ≤ (m6 86 3).toInt) → (CN (tC m) 4 (m 86 3).toInt = CN (tC m) 4 (m6 86 3).toInt) → (CQZ (tC m) 4 lb m m6 (m 86 3).toInt (m6 86 3).toInt) → IV BB m6 → fr (wZ lb) m m6 → ((160 - y5.toInt) : Int).toNat < fuel10 → PV none g mX7_readCondition (sqI T BB (wZ lb) r m 0 1 (fun m' v => (m 86 3).toInt ≤ (m' 86 3).toInt ∧ (m' 86 3).toInt ≤ (m' 86 2).toInt ∧ (m' 86 2).toInt = (m 86 2).toInt ∧ (RSX (CN (tC m) 4 (m 86 3).toInt) v.toInt (m' 86 3).toInt (m' 86 4).toInt) ∧ (m' lb 7).toInt = (m lb 7).toInt ∧ IFZ v.toInt (CDS lb m m' 12 (CND_ (tC m) 4 (m 86 3).toInt) ((m' 86 3).toInt - (m 86 3).toInt)))) 22 0 0 10 [.ref 86, .int 2, .int v3, .int y5] [] (mk T m6 n7 r) := by
    intro fuel10
    induction fuel10 with
    | zero => intro y5 m6 n7 b13 b14 b15 b16 b17 b18 b19 b20 I8 K9 z21; omega
    | succ fuel10 ih12 =>
      intro y5 m6 n7 b13 b14 b15 b16 b17 b18 b19 b20 I8 K9 z21
      have z22 : 0 ≤ (m6 86 3).toInt ∧ (m6 86 3).toInt ≤ 160 := I8 86 3
      have z23 : 0 ≤ (m6 86 2).toInt ∧ (m6 86 2).toInt ≤ 160 := I8 86 2
      have kgc := (show CN (tC m) 4 (m 86 3).toInt = CN (tC m) 4 (m6 86 3).toInt by assumption)
      have kt10 : tC m6 = tC m := tC_fz zR2 K9
      have kgz := (show CQZ (tC m) 4 lb m m6 (m 86 3).toInt (m6 86 3).toInt by assumption)
      have kgl := CQZ_b kgz
      refine pv_iload_n (M := mX7_readCondition) 3 dX7_readCondition_10 11 rfl rfl rfl ?_
      refine pv_sipush (M := mX7_readCondition) (v := 160) dX7_readCondition_11 14 rfl (by decide) ?_
      refine pv_icmp_ge (M := mX7_readCondition) (tgt := 65) dX7_readCondition_14 17 rfl (by decide) (fun c28 => ?_) (fun c28 => ?_)
      · have c28 := iv_le (X := 160) (Y := y5.toInt) c28 (by decide) rfl
        refine pv_aload_n (M := mX7_readCondition) 0 dX7_readCondition_65 66 rfl rfl rfl ?_
        refine mv_get (M := mX7_readCondition) (v := .ref lb) dX7_readCondition_66 FX7 1 wd281 (by decide) (tl86 hT) rfl R.2.2.2.1 69 rfl ?_
        refine pv_bipush (M := mX7_readCondition) (v := 124) dX7_readCondition_69 71 rfl (by decide) ?_
        refine pv_iload_n (M := mX7_readCondition) 2 dX7_readCondition_71 72 rfl rfl rfl ?_
        have z29 : (124 : Int32).toInt = 124 := by decide
        refine pv_callv (M := mX7_readCondition) (as := [.int 124, .int v3]) (st := []) (kc2 := 0) (ks2 := 0) dX7_readCondition_72 wd678 YX6_aimLeaps ⟨wd679, wd680⟩ (mk_get R.2.2.2.2.2.2.1) rfl rfl (s_X6_aimLeaps_vz g hT I8 lb R.2.2.2.2.2 124 v3 (by omega) (by omega)) rfl rfl (Nat.le_of_ble_eq_true rfl) (by decide) rfl rfl 75 rfl (fun rv h1 q30 => ?_)
        obtain ⟨m31, n32, rfl, rfl, I33, K34, rm31⟩ := q30
        replace rm31 : (m31 lb 7).toInt = (m6 lb 7).toInt ∧ AIMD lb m6 m31 (124 : Int) v3.toInt := by have q_ := rm31; (try rw [z29] at q_); exact q_
        have K34c := K34
        have w35 : (m31 86 3).toInt = (m6 86 3).toInt := congrArg Int32.toInt (K34 86 3 (wY_out (by omega) (by omega) (by omega)))
        have w36 : (m31 86 2).toInt = (m6 86 2).toInt := congrArg Int32.toInt (K34 86 2 (wY_out (by omega) (by omega) (by omega)))
        have w37 : (m31 86 4).toInt = (m6 86 4).toInt := congrArg Int32.toInt (K34 86 4 (wY_out (by omega) (by omega) (by omega)))
        have K34 := K9.trans (K34.sub (by first | exact wZ_wY | exact wZ_86))
        show PV _ _ _ _ _ _ _ 75 [.ref 86, .int 2, .int v3, .int y5] [] _
        have k75 := rm31.2
        refine pv_iconst (M := mX7_readCondition) (v := 1) dX7_readCondition_75 76 rfl (by decide) ?_
        have z39 : (1 : Int32).toInt = 1 := by decide
        exact pv_iret (M := mX7_readCondition) dX7_readCondition_76 rfl rfl ⟨_, _, _, rfl, rfl, I33, K34, by decide, by decide, ⟨by omega, by omega, by omega, (by first | exact Or.inl ⟨by decide, by rw [kgc, k27, LB_no (isB_no k27n (by rw [← k31]; omega))]; congr 1; omega⟩ | (exfalso; omega)), by omega, (by first | exact IFZ.is (by rw [show (m31 86 3).toInt = (m6 86 3).toInt by omega]; exact CRZ_e kzz (isB_no k27n (by rw [← k31]; omega)) k75 (by omega)) | exact IFZ.no (by omega))⟩⟩
      · have c28 := iv_nle (X := 160) (Y := y5.toInt) c28 (by decide) rfl
        refine pv_aload_n (M := mX7_readCondition) 0 dX7_readCondition_17 18 rfl rfl rfl ?_
        refine pv_iload_n (M := mX7_readCondition) 1 dX7_readCondition_18 19 rfl rfl rfl ?_
        have z40 : (2 : Int32).toInt = 2 := by decide
        refine pv_callv (M := mX7_readCondition) (as := [.int 2]) (st := []) (kc2 := 0) (ks2 := 0) dX7_readCondition_19 wd670 YX7_readPart ⟨wd672, wd13⟩ (mk_get (tl86 hT)) rfl rfl (s_X7_readPart_v2z g hT I8 R (by first | omega | assumption | exact (iv_rng _).2 | exact (iv_rng _).1 | decide) (TBC_eq hp1 kt10) (by first | omega | assumption | exact (iv_rng _).2 | exact (iv_rng _).1 | decide)) rfl rfl (Nat.le_of_ble_eq_true rfl) (by decide) rfl rfl 22 rfl (fun rv h1 q41 => ?_)
        obtain ⟨m42, n43, v46, rfl, rfl, I44, K45, pv46, qv46, rv46⟩ := q41
        replace rv46 : (m6 86 3).toInt ≤ (m42 86 3).toInt ∧ (m42 86 3).toInt ≤ (m42 86 2).toInt ∧ (m42 86 2).toInt = (m6 86 2).toInt ∧ ((v46.toInt = 0 ∨ (m6 86 3).toInt + 1 ≤ (m42 86 3).toInt) ∧ TRX (CN (tC m6) 4 (m6 86 3).toInt) (LB (tC m6) 4) (fun a => tC m6 a ≠ 38) v46.toInt (m42 86 3).toInt (m42 86 4).toInt) ∧ (m42 lb 7).toInt = (m6 lb 7).toInt ∧ IFZ v46.toInt (PTZ (tC m6) 4 lb m6 m42 (m6 86 3).toInt (m42 86 3).toInt) := by have q_ := rv46; (try rw [z40] at q_); exact q_
        have K45c := K45
        have K45 := K9.trans (K45.sub (fun _ _ q => q))
        show PV _ _ _ _ _ _ _ 22 [.ref 86, .int 2, .int v3, .int y5] [.int v46] _
        have k22 := rv46.2.2.2.1.2
        have k22p := rv46.2.2.2.1.1
        rw [kt10] at k22
        have k22z := rv46.2.2.2.2.2
        rw [kt10] at k22z
        refine pv_if_ne (M := mX7_readCondition) (tgt := 27) dX7_readCondition_22 25 rfl (by decide) (fun c52 => ?_) (fun c52 => ?_)
        · have c52 := iv_ne (X := v46.toInt) (Y := 0) c52 rfl (by decide)
          have k27 := (TRX_ok k22 (by omega)).1
          have k27n := (TRX_ok k22 (by omega)).2
          have kt27 : tC m42 = tC m := tC_fz zR2 K45
          have kzz : CRZ (tC m) 4 lb m m42 (m 86 3).toInt (m42 86 3).toInt := CQZ_p kgz (IFZ.get k22z (by omega))
          have kzb := CRZ_b kzz
          refine pv_aload_n (M := mX7_readCondition) 0 dX7_readCondition_27 28 rfl rfl rfl ?_
          refine pv_callv (M := mX7_readCondition) (as := []) (st := []) (kc2 := 0) (ks2 := 0) dX7_readCondition_28 wd527 YX7_peek ⟨wd529, wd2⟩ (mk_get (tl86 hT)) rfl rfl (s_X7_peek_vx g hT I44 R) rfl rfl (Nat.le_of_ble_eq_true rfl) (by decide) rfl rfl 31 rfl (fun rv h1 q58 => ?_)
          obtain ⟨v59, rfl, rfl, pv59, qv59, rv59⟩ := q58
          replace rv59 : v59.toInt = tC m42 (m42 86 3).toInt ∧ (v59.toInt = -1 ∨ (m42 86 3).toInt < (m42 86 2).toInt) := rv59
          show PV _ _ _ _ _ _ _ 31 [.ref 86, .int 2, .int v3, .int y5] [.int v59] _
          have k31 := rv59.1
          have k31b := rv59.2
          rw [kt27] at k31
          refine pv_bipush (M := mX7_readCondition) (v := 124) dX7_readCondition_31 33 rfl (by decide) ?_
          refine pv_icmp_eq (M := mX7_readCondition) (tgt := 39) dX7_readCondition_33 36 rfl (by decide) (fun c63 => ?_) (fun c63 => ?_)
          · have c63 := iv_eq (X := v59.toInt) (Y := 124) c63 rfl (by decide)
            have kB : isB (tC m (m42 86 3).toInt) = true := isB_y (by omega)
            refine pv_aload_n (M := mX7_readCondition) 0 dX7_readCondition_39 40 rfl rfl rfl ?_
            refine mv_get (M := mX7_readCondition) (v := .ref lb) dX7_readCondition_40 FX7 1 wd281 (by decide) (tl86 hT) rfl R.2.2.2.1 43 rfl ?_
            refine pv_bipush (M := mX7_readCondition) (v := 124) dX7_readCondition_43 45 rfl (by decide) ?_
            refine pv_iconst (M := mX7_readCondition) (v := (-1)) dX7_readCondition_45 46 rfl (by decide) ?_
            have z65 : (124 : Int32).toInt = 124 := by decide
            have z66 : ((-1) : Int32).toInt = (-1) := by decide
            refine pv_callv (M := mX7_readCondition) (as := [.int 124, .int (-1)]) (st := []) (kc2 := 0) (ks2 := 0) dX7_readCondition_46 wd567 YX6_emit ⟨wd568, wd569⟩ (mk_get R.2.2.2.2.2.2.1) rfl rfl (s_X6_emit_vz g hT I44 lb R.2.2.2.2.2 124 (-1) (by decide) (by decide)) rfl rfl (Nat.le_of_ble_eq_true rfl) (by decide) rfl rfl 49 rfl (fun rv h1 q67 => ?_)
            obtain ⟨m68, n69, rfl, rfl, I70, K71, rm68⟩ := q67
            replace rm68 : (m68 lb 7).toInt = (m42 lb 7).toInt ∧ ((m42 lb 2).toInt < 160 → EMT lb m42 m68 (124 : Int) ((-1) : Int32)) := by have q_ := rm68; (try rw [z65] at q_); (try rw [z66] at q_); exact q_
            have K71c := K71
            have w72 : (m68 86 3).toInt = (m42 86 3).toInt := congrArg Int32.toInt (K71 86 3 (wY_out (by omega) (by omega) (by omega)))
            have w73 : (m68 86 2).toInt = (m42 86 2).toInt := congrArg Int32.toInt (K71 86 2 (wY_out (by omega) (by omega) (by omega)))
            have w74 : (m68 86 4).toInt = (m42 86 4).toInt := congrArg Int32.toInt (K71 86 4 (wY_out (by omega) (by omega) (by omega)))
            have K71 := K45.trans (K71.sub (by first | exact wZ_wY | exact wZ_86))
            show PV _ _ _ _ _ _ _ 49 [.ref 86, .int 2, .int v3, .int y5] [] _
            have k49 := rm68.2 (by omega)
            refine pv_aload_n (M := mX7_readCondition) 0 dX7_readCondition_49 50 rfl rfl rfl ?_
            refine pv_dup (M := mX7_readCondition) dX7_readCondition_50 51 rfl rfl ?_
            refine iv_get (M := mX7_readCondition) (l1 := 0) (l2 := 160) dX7_readCondition_51 FX7 3 wd283 (by decide) (tl86 hT) rfl I70 rfl 54 rfl (fun v76 ev76 pv76 qv76 => ?_)
            have wv76 : v76.toInt = (m68 86 3).toInt := congrArg Int32.toInt ev76
            refine pv_iconst (M := mX7_readCondition) (v := 1) dX7_readCondition_54 55 rfl (by decide) ?_
            refine iv_iadd (M := mX7_readCondition) (X := v76.toInt) (Y := 1) dX7_readCondition_55 56 rfl rfl (by decide) (by omega) (by omega) (fun v77 ev77 => ?_)
            refine iv_put (M := mX7_readCondition) (l1 := 0) (l2 := 160) dX7_readCondition_56 FX7 3 wd283 (by decide) rfl (tl86 hT) rfl rfl rfl I70 rfl (by omega) (by omega) 59 rfl (fun m78 e81 I79 => ?_)
            have K80 := K71.set e81 (by first | rfl | decide)
            have w82 : (m78 86 3).toInt = v77.toInt := by rw [e81, up2_eq]
            have w83 : (m78 86 2).toInt = (m68 86 2).toInt := by rw [e81, up2_ne (by omega)]
            have w84 : (m78 86 4).toInt = (m68 86 4).toInt := by rw [e81, up2_ne (by omega)]
            have w85 : (m78 lb 7).toInt = (m68 lb 7).toInt := by rw [e81, up2_ne (by omega)]
            have w86 : (m78 lb 2).toInt = (m68 lb 2).toInt := by rw [e81, up2_ne (by omega)]
            refine iv_inc (M := mX7_readCondition) (C := 1) dX7_readCondition_59 62 rfl rfl (by decide) rfl rfl (by decide) (by omega) (by omega) (fun v87 ev87 => ?_)
            show PV _ _ _ _ _ _ _ 62 [.ref 86, .int 2, .int v3, .int v87] [] _
            refine pv_goto (M := mX7_readCondition) (tgt := 10) dX7_readCondition_62 (by decide) ?_
            have kbc : CN (tC m) 4 (m 86 3).toInt = CN (tC m) 4 (m78 86 3).toInt := by rw [kgc, k27, LB_cn kTX (by omega) kB]; congr 1; omega
            have kbz : CQZ (tC m) 4 lb m m78 (m 86 3).toInt (m78 86 3).toInt := CRZ_l kzz kTX (by omega) (show tC m (m42 86 3).toInt = 124 by omega) k49 (by decide) (SAML.set zR2 e81) (by omega)
            exact ih12 v87 m78 n69 (by first | omega | assumption | exact (iv_rng _).2 | exact (iv_rng _).1 | decide) (by first | omega | assumption | exact (iv_rng _).2 | exact (iv_rng _).1 | decide) (by first | omega | assumption | (show (m78 86 3).toInt ≤ (m78 86 2).toInt; omega) | decide) (by first | omega | assumption | (show (m78 86 2).toInt = (m 86 2).toInt; omega) | decide) (by first | omega | assumption | (show (m78 lb 7).toInt = (m lb 7).toInt; omega) | decide) (by first | omega | assumption | (show (m 86 3).toInt + 2 * v87.toInt ≤ (m78 86 3).toInt; omega) | decide) kbc kbz I79 K80 (by omega)
          · have c63 := iv_ne (X := v59.toInt) (Y := 124) c63 rfl (by decide)
            refine pv_goto (M := mX7_readCondition) (tgt := 65) dX7_readCondition_36 (by decide) ?_
            refine pv_aload_n (M := mX7_readCondition) 0 dX7_readCondition_65 66 rfl rfl rfl ?_
            refine mv_get (M := mX7_readCondition) (v := .ref lb) dX7_readCondition_66 FX7 1 wd281 (by decide) (tl86 hT) rfl R.2.2.2.1 69 rfl ?_
            refine pv_bipush (M := mX7_readCondition) (v := 124) dX7_readCondition_69 71 rfl (by decide) ?_
            refine pv_iload_n (M := mX7_readCondition) 2 dX7_readCondition_71 72 rfl rfl rfl ?_
            have z90 : (124 : Int32).toInt = 124 := by decide
            refine pv_callv (M := mX7_readCondition) (as := [.int 124, .int v3]) (st := []) (kc2 := 0) (ks2 := 0) dX7_readCondition_72 wd678 YX6_aimLeaps ⟨wd679, wd680⟩ (mk_get R.2.2.2.2.2.2.1) rfl rfl (s_X6_aimLeaps_vz g hT I44 lb R.2.2.2.2.2 124 v3 (by omega) (by omega)) rfl rfl (Nat.le_of_ble_eq_true rfl) (by decide) rfl rfl 75 rfl (fun rv h1 q91 => ?_)
            obtain ⟨m92, n93, rfl, rfl, I94, K95, rm92⟩ := q91
            replace rm92 : (m92 lb 7).toInt = (m42 lb 7).toInt ∧ AIMD lb m42 m92 (124 : Int) v3.toInt := by have q_ := rm92; (try rw [z90] at q_); exact q_
            have K95c := K95
            have w96 : (m92 86 3).toInt = (m42 86 3).toInt := congrArg Int32.toInt (K95 86 3 (wY_out (by omega) (by omega) (by omega)))
            have w97 : (m92 86 2).toInt = (m42 86 2).toInt := congrArg Int32.toInt (K95 86 2 (wY_out (by omega) (by omega) (by omega)))
            have w98 : (m92 86 4).toInt = (m42 86 4).toInt := congrArg Int32.toInt (K95 86 4 (wY_out (by omega) (by omega) (by omega)))
            have K95 := K45.trans (K95.sub (by first | exact wZ_wY | exact wZ_86))
            show PV _ _ _ _ _ _ _ 75 [.ref 86, .int 2, .int v3, .int y5] [] _
            have k75 := rm92.2
            refine pv_iconst (M := mX7_readCondition) (v := 1) dX7_readCondition_75 76 rfl (by decide) ?_
            have z100 : (1 : Int32).toInt = 1 := by decide
            exact pv_iret (M := mX7_readCondition) dX7_readCondition_76 rfl rfl ⟨_, _, _, rfl, rfl, I94, K95, by decide, by decide, ⟨by omega, by omega, by omega, (by first | exact Or.inl ⟨by decide, by rw [kgc, k27, LB_no (isB_no k27n (by rw [← k31]; omega))]; congr 1; omega⟩ | (exfalso; omega)), by omega, (by first | exact IFZ.is (by rw [show (m92 86 3).toInt = (m42 86 3).toInt by omega]; exact CRZ_e kzz (isB_no k27n (by rw [← k31]; omega)) k75 (by omega)) | exact IFZ.no (by omega))⟩⟩
        · have c52 := iv_eq (X := v46.toInt) (Y := 0) c52 rfl (by decide)
          refine pv_iconst (M := mX7_readCondition) (v := 0) dX7_readCondition_25 26 rfl (by decide) ?_
          have z101 : (0 : Int32).toInt = 0 := by decide
          exact pv_iret (M := mX7_readCondition) dX7_readCondition_26 rfl rfl ⟨_, _, _, rfl, rfl, I44, K45, by decide, by decide, ⟨by omega, by omega, by omega, Or.inr ⟨by decide, by rw [kgc]; exact TRX_fl k22 (by omega)⟩, by omega, IFZ.no (by first | decide | omega)⟩⟩
  have z102 : (0 : Int32).toInt = 0 := by decide
  exact lp11 (((160 - 0) : Int).toNat + 1) 0 m n (by first | omega | assumption | exact (iv_rng _).2 | exact (iv_rng _).1 | decide) (by first | omega | assumption | exact (iv_rng _).2 | exact (iv_rng _).1 | decide) (by first | omega | assumption | (show (m 86 3).toInt ≤ (m 86 2).toInt; omega) | decide) (by first | omega | assumption | (show (m 86 2).toInt = (m 86 2).toInt; omega) | decide) (by first | omega | assumption | (show (m lb 7).toInt = (m lb 7).toInt; omega) | decide) (by first | omega | assumption | (show (m 86 3).toInt + 2 * 0 ≤ (m 86 3).toInt; omega) | decide) rfl (CQZ_0 (by omega)) I Kp (by omega)

set_option maxHeartbeats 2000000 in
set_option maxRecDepth 20000 in
theorem s_X7_readPiece_v1z (g : pv_G) {T : List mv_T} {m : Nat → Nat → Int32} {n : Nat → Nat → Int64} {r : Nat → Value} {la lb : Nat} (hT : TX T) (I : IV BB m) (R : RX T r la lb) (hp0 : (m 86 3).toInt ≤ (m 86 2).toInt) (hp1 : TBC m) (hp2 : (m lb 2).toInt ≤ (m 86 3).toInt) : PM g mX7_readPiece yX7_readPiece (sqI T BB (wZ lb) r m 0 1 (fun m' v => (m 86 3).toInt ≤ (m' 86 3).toInt ∧ (m' 86 3).toInt ≤ (m' 86 2).toInt ∧ (m' 86 2).toInt = (m 86 2).toInt ∧ (RSX (PI (tC m) 5 (m 86 3).toInt) v.toInt (m' 86 3).toInt (m' 86 4).toInt) ∧ (m' lb 7).toInt = (m lb 7).toInt ∧ IFZ v.toInt (CDS lb m m' 14 (PID (tC m) 5 (m 86 3).toInt) ((m' 86 3).toInt - (m 86 3).toInt)))) 23 0 0 [.ref 86, .int 1] (mk T m n r) := by
  have Kp : fr (wZ lb) m m := fr.rf
  have R0 := R
  have zR := R.2.2.2.2.1.1
  have zR2 := R.2.2.2.2.2.1
  have z259 : 0 ≤ (m 86 3).toInt ∧ (m 86 3).toInt ≤ 160 := I 86 3
  have z260 : 0 ≤ (m 86 2).toInt ∧ (m 86 2).toInt ≤ 160 := I 86 2
  refine PM.of 1 (lo := [.ref 86, .int 1, pv_U]) rfl (by decide) rfl rfl (Nat.le_of_ble_eq_true rfl) ?_
  refine pv_aload_n (M := mX7_readPiece) 0 dX7_readPiece_0 1 rfl rfl rfl ?_
  refine pv_callv (M := mX7_readPiece) (as := []) (st := []) (kc2 := 0) (ks2 := 0) dX7_readPiece_1 wd527 YX7_peek ⟨wd529, wd2⟩ (mk_get (tl86 hT)) rfl rfl (s_X7_peek_vx g hT I R) rfl rfl (Nat.le_of_ble_eq_true rfl) (by decide) rfl rfl 4 rfl (fun rv h1 q1 => ?_)
  obtain ⟨v2, rfl, rfl, pv2, qv2, rv2⟩ := q1
  replace rv2 : v2.toInt = tC m (m 86 3).toInt ∧ (v2.toInt = -1 ∨ (m 86 3).toInt < (m 86 2).toInt) := rv2
  show PV _ _ _ _ _ _ _ 4 [.ref 86, .int 1, pv_U] [.int v2] _
  have k4 := rv2.1
  have k4b := rv2.2
  refine pv_bipush (M := mX7_readPiece) (v := 33) dX7_readPiece_4 6 rfl (by decide) ?_
  refine pv_icmp_ne (M := mX7_readPiece) (tgt := 41) dX7_readPiece_6 9 rfl (by decide) (fun c5 => ?_) (fun c5 => ?_)
  · have c5 := iv_ne (X := v2.toInt) (Y := 33) c5 rfl (by decide)
    have kn33 : tC m (m 86 3).toInt ≠ 33 := by omega
    refine pv_aload_n (M := mX7_readPiece) 0 dX7_readPiece_41 42 rfl rfl rfl ?_
    refine pv_callv (M := mX7_readPiece) (as := []) (st := []) (kc2 := 0) (ks2 := 0) dX7_readPiece_42 wd527 YX7_peek ⟨wd529, wd2⟩ (mk_get (tl86 hT)) rfl rfl (s_X7_peek_vx g hT I R) rfl rfl (Nat.le_of_ble_eq_true rfl) (by decide) rfl rfl 45 rfl (fun rv h1 q7 => ?_)
    obtain ⟨v8, rfl, rfl, pv8, qv8, rv8⟩ := q7
    replace rv8 : v8.toInt = tC m (m 86 3).toInt ∧ (v8.toInt = -1 ∨ (m 86 3).toInt < (m 86 2).toInt) := rv8
    show PV _ _ _ _ _ _ _ 45 [.ref 86, .int 1, pv_U] [.int v8] _
    have k45 := rv8.1
    have k45b := rv8.2
    refine pv_bipush (M := mX7_readPiece) (v := 40) dX7_readPiece_45 47 rfl (by decide) ?_
    refine pv_icmp_ne (M := mX7_readPiece) (tgt := 83) dX7_readPiece_47 50 rfl (by decide) (fun c11 => ?_) (fun c11 => ?_)
    · have c11 := iv_ne (X := v8.toInt) (Y := 40) c11 rfl (by decide)
      have kn40 : tC m (m 86 3).toInt ≠ 40 := by omega
      refine pv_aload_n (M := mX7_readPiece) 0 dX7_readPiece_83 84 rfl rfl rfl ?_
      refine pv_iload_n (M := mX7_readPiece) 1 dX7_readPiece_84 85 rfl rfl rfl ?_
      have z13 : (1 : Int32).toInt = 1 := by decide
      refine pv_callv (M := mX7_readPiece) (as := [.int 1]) (st := []) (kc2 := 0) (ks2 := 0) dX7_readPiece_85 wd539 YX7_readSum ⟨wd541, wd4⟩ (mk_get (tl86 hT)) rfl rfl (s_X7_readSum_v1z g hT I R (by first | omega | assumption | exact (iv_rng _).2 | exact (iv_rng _).1 | decide) hp1 (by first | omega | assumption | exact (iv_rng _).2 | exact (iv_rng _).1 | decide)) rfl rfl (Nat.le_of_ble_eq_true rfl) (by decide) rfl rfl 88 rfl (fun rv h1 q14 => ?_)
      obtain ⟨m15, n16, v19, rfl, rfl, I17, K18, pv19, qv19, rv19⟩ := q14
      replace rv19 : (m 86 3).toInt ≤ (m15 86 3).toInt ∧ (m15 86 3).toInt ≤ (m15 86 2).toInt ∧ (m15 86 2).toInt = (m 86 2).toInt ∧ (RSX (SU (tC m) 5 (m 86 3).toInt) v19.toInt (m15 86 3).toInt (m15 86 4).toInt) ∧ (m15 lb 7).toInt = (m lb 7).toInt ∧ IFZ v19.toInt (CDS lb m m15 13 (SUD (tC m) 5 (m 86 3).toInt) ((m15 86 3).toInt - (m 86 3).toInt)) := by have q_ := rv19; (try rw [z13] at q_); exact q_
      have K18c := K18
      have K18 := Kp.trans (K18.sub (fun _ _ q => q))
      show PV _ _ _ _ _ _ _ 88 [.ref 86, .int 1, pv_U] [.int v19] _
      have k88 := rv19.2.2.2.1
      have k88z := rv19.2.2.2.2.2
      refine pv_if_ne (M := mX7_readPiece) (tgt := 93) dX7_readPiece_88 91 rfl (by decide) (fun c22 => ?_) (fun c22 => ?_)
      · have c22 := iv_ne (X := v19.toInt) (Y := 0) c22 rfl (by decide)
        have k93 := RSX_ok k88 (by omega)
        have kt93 : tC m15 = tC m := tC_fz zR2 K18
        have kA93 : (m15 86 3).toInt = (m15 86 3).toInt := rfl
        have k93z := IFZ.get k88z (by omega)
        have k93b := CDS_b k93z
        refine pv_aload_n (M := mX7_readPiece) 0 dX7_readPiece_93 94 rfl rfl rfl ?_
        refine pv_callv (M := mX7_readPiece) (as := []) (st := []) (kc2 := 0) (ks2 := 0) dX7_readPiece_94 wd527 YX7_peek ⟨wd529, wd2⟩ (mk_get (tl86 hT)) rfl rfl (s_X7_peek_vx g hT I17 R) rfl rfl (Nat.le_of_ble_eq_true rfl) (by decide) rfl rfl 97 rfl (fun rv h1 q28 => ?_)
        obtain ⟨v29, rfl, rfl, pv29, qv29, rv29⟩ := q28
        replace rv29 : v29.toInt = tC m15 (m15 86 3).toInt ∧ (v29.toInt = -1 ∨ (m15 86 3).toInt < (m15 86 2).toInt) := rv29
        show PV _ _ _ _ _ _ _ 97 [.ref 86, .int 1, pv_U] [.int v29] _
        have k97 := rv29.1
        have k97b := rv29.2
        rw [kt93] at k97
        refine pv_istore_n (M := mX7_readPiece) 2 (lo2 := [.ref 86, .int 1, .int v29]) dX7_readPiece_97 98 rfl rfl (by decide) rfl rfl ?_
        refine pv_iload_n (M := mX7_readPiece) 2 dX7_readPiece_98 99 rfl rfl rfl ?_
        refine pv_bipush (M := mX7_readPiece) (v := 60) dX7_readPiece_99 101 rfl (by decide) ?_
        refine pv_icmp_eq (M := mX7_readPiece) (tgt := 122) dX7_readPiece_101 104 rfl (by decide) (fun c33 => ?_) (fun c33 => ?_)
        · have c33 := iv_eq (X := v29.toInt) (Y := 60) c33 rfl (by decide)
          have kC : isC (tC m (m15 86 3).toInt) = true := by rw [← k97]; exact isC_y (by omega)
          refine pv_aload_n (M := mX7_readPiece) 0 dX7_readPiece_122 123 rfl rfl rfl ?_
          refine pv_dup (M := mX7_readPiece) dX7_readPiece_123 124 rfl rfl ?_
          refine iv_get (M := mX7_readPiece) (l1 := 0) (l2 := 160) dX7_readPiece_124 FX7 3 wd283 (by decide) (tl86 hT) rfl I17 rfl 127 rfl (fun v35 ev35 pv35 qv35 => ?_)
          have wv35 : v35.toInt = (m15 86 3).toInt := congrArg Int32.toInt ev35
          refine pv_iconst (M := mX7_readPiece) (v := 1) dX7_readPiece_127 128 rfl (by decide) ?_
          refine iv_iadd (M := mX7_readPiece) (X := v35.toInt) (Y := 1) dX7_readPiece_128 129 rfl rfl (by decide) (by omega) (by omega) (fun v36 ev36 => ?_)
          refine iv_put (M := mX7_readPiece) (l1 := 0) (l2 := 160) dX7_readPiece_129 FX7 3 wd283 (by decide) rfl (tl86 hT) rfl rfl rfl I17 rfl (by omega) (by omega) 132 rfl (fun m37 e40 I38 => ?_)
          have K39 := K18.set e40 (by first | rfl | decide)
          have w41 : (m37 86 3).toInt = v36.toInt := by rw [e40, up2_eq]
          have w42 : (m37 86 2).toInt = (m15 86 2).toInt := by rw [e40, up2_ne (by omega)]
          have w43 : (m37 86 4).toInt = (m15 86 4).toInt := by rw [e40, up2_ne (by omega)]
          have w44 : (m37 lb 7).toInt = (m15 lb 7).toInt := by rw [e40, up2_ne (by omega)]
          have w45 : (m37 lb 2).toInt = (m15 lb 2).toInt := by rw [e40, up2_ne (by omega)]
          have kt132 : tC m37 = tC m := tC_fz zR2 K39
          have kp132 : (m37 86 3).toInt = (m15 86 3).toInt + 1 := by omega
          have ks132 : SAML lb m15 m37 := SAML.set zR2 e40
          have kl132 : (m37 lb 2).toInt = (m15 lb 2).toInt := congrArg Int32.toInt ks132.1
          refine pv_aload_n (M := mX7_readPiece) 0 dX7_readPiece_132 133 rfl rfl rfl ?_
          refine pv_iload_n (M := mX7_readPiece) 1 dX7_readPiece_133 134 rfl rfl rfl ?_
          have z50 : (1 : Int32).toInt = 1 := by decide
          refine pv_callv (M := mX7_readPiece) (as := [.int 1]) (st := []) (kc2 := 0) (ks2 := 0) dX7_readPiece_134 wd539 YX7_readSum ⟨wd541, wd4⟩ (mk_get (tl86 hT)) rfl rfl (s_X7_readSum_v1z g hT I38 R (by first | omega | assumption | exact (iv_rng _).2 | exact (iv_rng _).1 | decide) (TBC_eq hp1 kt132) (by first | omega | assumption | exact (iv_rng _).2 | exact (iv_rng _).1 | decide)) rfl rfl (Nat.le_of_ble_eq_true rfl) (by decide) rfl rfl 137 rfl (fun rv h1 q51 => ?_)
          obtain ⟨m52, n53, v56, rfl, rfl, I54, K55, pv56, qv56, rv56⟩ := q51
          replace rv56 : (m37 86 3).toInt ≤ (m52 86 3).toInt ∧ (m52 86 3).toInt ≤ (m52 86 2).toInt ∧ (m52 86 2).toInt = (m37 86 2).toInt ∧ (RSX (SU (tC m37) 5 (m37 86 3).toInt) v56.toInt (m52 86 3).toInt (m52 86 4).toInt) ∧ (m52 lb 7).toInt = (m37 lb 7).toInt ∧ IFZ v56.toInt (CDS lb m37 m52 13 (SUD (tC m37) 5 (m37 86 3).toInt) ((m52 86 3).toInt - (m37 86 3).toInt)) := by have q_ := rv56; (try rw [z50] at q_); exact q_
          have K55c := K55
          have K55 := K39.trans (K55.sub (fun _ _ q => q))
          show PV _ _ _ _ _ _ _ 137 [.ref 86, .int 1, .int v29] [.int v56] _
          have k137 := rv56.2.2.2.1
          rw [kt132, kp132] at k137
          have k137z := rv56.2.2.2.2.2
          rw [kt132, kp132] at k137z
          refine pv_if_ne (M := mX7_readPiece) (tgt := 142) dX7_readPiece_137 140 rfl (by decide) (fun c61 => ?_) (fun c61 => ?_)
          · have c61 := iv_ne (X := v56.toInt) (Y := 0) c61 rfl (by decide)
            have k142z := IFZ.get k137z (by omega)
            have k142b := CDS_b k142z
            refine pv_aload_n (M := mX7_readPiece) 0 dX7_readPiece_142 143 rfl rfl rfl ?_
            refine mv_get (M := mX7_readPiece) (v := .ref lb) dX7_readPiece_143 FX7 1 wd281 (by decide) (tl86 hT) rfl R.2.2.2.1 146 rfl ?_
            refine pv_iload_n (M := mX7_readPiece) 2 dX7_readPiece_146 147 rfl rfl rfl ?_
            refine pv_iconst (M := mX7_readPiece) (v := 0) dX7_readPiece_147 148 rfl (by decide) ?_
            have z64 : (0 : Int32).toInt = 0 := by decide
            refine pv_callv (M := mX7_readPiece) (as := [.int v29, .int 0]) (st := []) (kc2 := 0) (ks2 := 0) dX7_readPiece_148 wd567 YX6_emit ⟨wd568, wd569⟩ (mk_get R.2.2.2.2.2.2.1) rfl rfl (s_X6_emit_vz g hT I54 lb R.2.2.2.2.2 v29 0 (by decide) (by decide)) rfl rfl (Nat.le_of_ble_eq_true rfl) (by decide) rfl rfl 151 rfl (fun rv h1 q65 => ?_)
            obtain ⟨m66, n67, rfl, rfl, I68, K69, rm66⟩ := q65
            replace rm66 : (m66 lb 7).toInt = (m52 lb 7).toInt ∧ ((m52 lb 2).toInt < 160 → EMT lb m52 m66 v29.toInt (0 : Int32)) := by have q_ := rm66; (try rw [z64] at q_); exact q_
            have K69c := K69
            have w70 : (m66 86 3).toInt = (m52 86 3).toInt := congrArg Int32.toInt (K69 86 3 (wY_out (by omega) (by omega) (by omega)))
            have w71 : (m66 86 2).toInt = (m52 86 2).toInt := congrArg Int32.toInt (K69 86 2 (wY_out (by omega) (by omega) (by omega)))
            have w72 : (m66 86 4).toInt = (m52 86 4).toInt := congrArg Int32.toInt (K69 86 4 (wY_out (by omega) (by omega) (by omega)))
            have K69 := K55.trans (K69.sub (by first | exact wZ_wY | exact wZ_86))
            show PV _ _ _ _ _ _ _ 151 [.ref 86, .int 1, .int v29] [] _
            have k151 := rm66.2 (by omega)
            refine pv_iconst (M := mX7_readPiece) (v := 1) dX7_readPiece_151 152 rfl (by decide) ?_
            have z74 : (1 : Int32).toInt = 1 := by decide
            exact pv_iret (M := mX7_readPiece) dX7_readPiece_152 rfl rfl ⟨_, _, _, rfl, rfl, I68, K69, by decide, by decide, ⟨by omega, by omega, by omega, Or.inl ⟨by decide, by rw [PI_cm kn33 kn40, CM_ok k93 kC, RSX_ok k137 (by omega), show (m52 86 3).toInt = (m66 86 3).toInt by omega]⟩, by omega, IFZ.is (by rw [PID_cm kn33 kn40, CMD_ok k93, ← k97]; exact CDS.wk (CDS.op k93z (CDS.pre ks132 k142z (Int.le_refl _)) k151 (isO_c (by rw [k97]; exact kC)) (Int.le_refl _) (by omega)) (by omega) (by omega))⟩⟩
          · have c61 := iv_eq (X := v56.toInt) (Y := 0) c61 rfl (by decide)
            refine pv_iconst (M := mX7_readPiece) (v := 0) dX7_readPiece_140 141 rfl (by decide) ?_
            have z75 : (0 : Int32).toInt = 0 := by decide
            exact pv_iret (M := mX7_readPiece) dX7_readPiece_141 rfl rfl ⟨_, _, _, rfl, rfl, I54, K55, by decide, by decide, ⟨by omega, by omega, by omega, Or.inr ⟨by decide, by rw [PI_cm kn33 kn40, CM_ok k93 kC]; exact RSX_fl k137 (by omega)⟩, by omega, IFZ.no (by first | decide | omega)⟩⟩
        · have c33 := iv_ne (X := v29.toInt) (Y := 60) c33 rfl (by decide)
          refine pv_iload_n (M := mX7_readPiece) 2 dX7_readPiece_104 105 rfl rfl rfl ?_
          refine pv_bipush (M := mX7_readPiece) (v := 62) dX7_readPiece_105 107 rfl (by decide) ?_
          refine pv_icmp_eq (M := mX7_readPiece) (tgt := 122) dX7_readPiece_107 110 rfl (by decide) (fun c76 => ?_) (fun c76 => ?_)
          · have c76 := iv_eq (X := v29.toInt) (Y := 62) c76 rfl (by decide)
            have kC : isC (tC m (m15 86 3).toInt) = true := by rw [← k97]; exact isC_y (by omega)
            refine pv_aload_n (M := mX7_readPiece) 0 dX7_readPiece_122 123 rfl rfl rfl ?_
            refine pv_dup (M := mX7_readPiece) dX7_readPiece_123 124 rfl rfl ?_
            refine iv_get (M := mX7_readPiece) (l1 := 0) (l2 := 160) dX7_readPiece_124 FX7 3 wd283 (by decide) (tl86 hT) rfl I17 rfl 127 rfl (fun v78 ev78 pv78 qv78 => ?_)
            have wv78 : v78.toInt = (m15 86 3).toInt := congrArg Int32.toInt ev78
            refine pv_iconst (M := mX7_readPiece) (v := 1) dX7_readPiece_127 128 rfl (by decide) ?_
            refine iv_iadd (M := mX7_readPiece) (X := v78.toInt) (Y := 1) dX7_readPiece_128 129 rfl rfl (by decide) (by omega) (by omega) (fun v79 ev79 => ?_)
            refine iv_put (M := mX7_readPiece) (l1 := 0) (l2 := 160) dX7_readPiece_129 FX7 3 wd283 (by decide) rfl (tl86 hT) rfl rfl rfl I17 rfl (by omega) (by omega) 132 rfl (fun m80 e83 I81 => ?_)
            have K82 := K18.set e83 (by first | rfl | decide)
            have w84 : (m80 86 3).toInt = v79.toInt := by rw [e83, up2_eq]
            have w85 : (m80 86 2).toInt = (m15 86 2).toInt := by rw [e83, up2_ne (by omega)]
            have w86 : (m80 86 4).toInt = (m15 86 4).toInt := by rw [e83, up2_ne (by omega)]
            have w87 : (m80 lb 7).toInt = (m15 lb 7).toInt := by rw [e83, up2_ne (by omega)]
            have w88 : (m80 lb 2).toInt = (m15 lb 2).toInt := by rw [e83, up2_ne (by omega)]
            have kt132 : tC m80 = tC m := tC_fz zR2 K82
            have kp132 : (m80 86 3).toInt = (m15 86 3).toInt + 1 := by omega
            have ks132 : SAML lb m15 m80 := SAML.set zR2 e83
            have kl132 : (m80 lb 2).toInt = (m15 lb 2).toInt := congrArg Int32.toInt ks132.1
            refine pv_aload_n (M := mX7_readPiece) 0 dX7_readPiece_132 133 rfl rfl rfl ?_
            refine pv_iload_n (M := mX7_readPiece) 1 dX7_readPiece_133 134 rfl rfl rfl ?_
            have z93 : (1 : Int32).toInt = 1 := by decide
            refine pv_callv (M := mX7_readPiece) (as := [.int 1]) (st := []) (kc2 := 0) (ks2 := 0) dX7_readPiece_134 wd539 YX7_readSum ⟨wd541, wd4⟩ (mk_get (tl86 hT)) rfl rfl (s_X7_readSum_v1z g hT I81 R (by first | omega | assumption | exact (iv_rng _).2 | exact (iv_rng _).1 | decide) (TBC_eq hp1 kt132) (by first | omega | assumption | exact (iv_rng _).2 | exact (iv_rng _).1 | decide)) rfl rfl (Nat.le_of_ble_eq_true rfl) (by decide) rfl rfl 137 rfl (fun rv h1 q94 => ?_)
            obtain ⟨m95, n96, v99, rfl, rfl, I97, K98, pv99, qv99, rv99⟩ := q94
            replace rv99 : (m80 86 3).toInt ≤ (m95 86 3).toInt ∧ (m95 86 3).toInt ≤ (m95 86 2).toInt ∧ (m95 86 2).toInt = (m80 86 2).toInt ∧ (RSX (SU (tC m80) 5 (m80 86 3).toInt) v99.toInt (m95 86 3).toInt (m95 86 4).toInt) ∧ (m95 lb 7).toInt = (m80 lb 7).toInt ∧ IFZ v99.toInt (CDS lb m80 m95 13 (SUD (tC m80) 5 (m80 86 3).toInt) ((m95 86 3).toInt - (m80 86 3).toInt)) := by have q_ := rv99; (try rw [z93] at q_); exact q_
            have K98c := K98
            have K98 := K82.trans (K98.sub (fun _ _ q => q))
            show PV _ _ _ _ _ _ _ 137 [.ref 86, .int 1, .int v29] [.int v99] _
            have k137 := rv99.2.2.2.1
            rw [kt132, kp132] at k137
            have k137z := rv99.2.2.2.2.2
            rw [kt132, kp132] at k137z
            refine pv_if_ne (M := mX7_readPiece) (tgt := 142) dX7_readPiece_137 140 rfl (by decide) (fun c104 => ?_) (fun c104 => ?_)
            · have c104 := iv_ne (X := v99.toInt) (Y := 0) c104 rfl (by decide)
              have k142z := IFZ.get k137z (by omega)
              have k142b := CDS_b k142z
              refine pv_aload_n (M := mX7_readPiece) 0 dX7_readPiece_142 143 rfl rfl rfl ?_
              refine mv_get (M := mX7_readPiece) (v := .ref lb) dX7_readPiece_143 FX7 1 wd281 (by decide) (tl86 hT) rfl R.2.2.2.1 146 rfl ?_
              refine pv_iload_n (M := mX7_readPiece) 2 dX7_readPiece_146 147 rfl rfl rfl ?_
              refine pv_iconst (M := mX7_readPiece) (v := 0) dX7_readPiece_147 148 rfl (by decide) ?_
              have z107 : (0 : Int32).toInt = 0 := by decide
              refine pv_callv (M := mX7_readPiece) (as := [.int v29, .int 0]) (st := []) (kc2 := 0) (ks2 := 0) dX7_readPiece_148 wd567 YX6_emit ⟨wd568, wd569⟩ (mk_get R.2.2.2.2.2.2.1) rfl rfl (s_X6_emit_vz g hT I97 lb R.2.2.2.2.2 v29 0 (by decide) (by decide)) rfl rfl (Nat.le_of_ble_eq_true rfl) (by decide) rfl rfl 151 rfl (fun rv h1 q108 => ?_)
              obtain ⟨m109, n110, rfl, rfl, I111, K112, rm109⟩ := q108
              replace rm109 : (m109 lb 7).toInt = (m95 lb 7).toInt ∧ ((m95 lb 2).toInt < 160 → EMT lb m95 m109 v29.toInt (0 : Int32)) := by have q_ := rm109; (try rw [z107] at q_); exact q_
              have K112c := K112
              have w113 : (m109 86 3).toInt = (m95 86 3).toInt := congrArg Int32.toInt (K112 86 3 (wY_out (by omega) (by omega) (by omega)))
              have w114 : (m109 86 2).toInt = (m95 86 2).toInt := congrArg Int32.toInt (K112 86 2 (wY_out (by omega) (by omega) (by omega)))
              have w115 : (m109 86 4).toInt = (m95 86 4).toInt := congrArg Int32.toInt (K112 86 4 (wY_out (by omega) (by omega) (by omega)))
              have K112 := K98.trans (K112.sub (by first | exact wZ_wY | exact wZ_86))
              show PV _ _ _ _ _ _ _ 151 [.ref 86, .int 1, .int v29] [] _
              have k151 := rm109.2 (by omega)
              refine pv_iconst (M := mX7_readPiece) (v := 1) dX7_readPiece_151 152 rfl (by decide) ?_
              have z117 : (1 : Int32).toInt = 1 := by decide
              exact pv_iret (M := mX7_readPiece) dX7_readPiece_152 rfl rfl ⟨_, _, _, rfl, rfl, I111, K112, by decide, by decide, ⟨by omega, by omega, by omega, Or.inl ⟨by decide, by rw [PI_cm kn33 kn40, CM_ok k93 kC, RSX_ok k137 (by omega), show (m95 86 3).toInt = (m109 86 3).toInt by omega]⟩, by omega, IFZ.is (by rw [PID_cm kn33 kn40, CMD_ok k93, ← k97]; exact CDS.wk (CDS.op k93z (CDS.pre ks132 k142z (Int.le_refl _)) k151 (isO_c (by rw [k97]; exact kC)) (Int.le_refl _) (by omega)) (by omega) (by omega))⟩⟩
            · have c104 := iv_eq (X := v99.toInt) (Y := 0) c104 rfl (by decide)
              refine pv_iconst (M := mX7_readPiece) (v := 0) dX7_readPiece_140 141 rfl (by decide) ?_
              have z118 : (0 : Int32).toInt = 0 := by decide
              exact pv_iret (M := mX7_readPiece) dX7_readPiece_141 rfl rfl ⟨_, _, _, rfl, rfl, I97, K98, by decide, by decide, ⟨by omega, by omega, by omega, Or.inr ⟨by decide, by rw [PI_cm kn33 kn40, CM_ok k93 kC]; exact RSX_fl k137 (by omega)⟩, by omega, IFZ.no (by first | decide | omega)⟩⟩
          · have c76 := iv_ne (X := v29.toInt) (Y := 62) c76 rfl (by decide)
            refine pv_iload_n (M := mX7_readPiece) 2 dX7_readPiece_110 111 rfl rfl rfl ?_
            refine pv_bipush (M := mX7_readPiece) (v := 61) dX7_readPiece_111 113 rfl (by decide) ?_
            refine pv_icmp_eq (M := mX7_readPiece) (tgt := 122) dX7_readPiece_113 116 rfl (by decide) (fun c119 => ?_) (fun c119 => ?_)
            · have c119 := iv_eq (X := v29.toInt) (Y := 61) c119 rfl (by decide)
              have kC : isC (tC m (m15 86 3).toInt) = true := by rw [← k97]; exact isC_y (by omega)
              refine pv_aload_n (M := mX7_readPiece) 0 dX7_readPiece_122 123 rfl rfl rfl ?_
              refine pv_dup (M := mX7_readPiece) dX7_readPiece_123 124 rfl rfl ?_
              refine iv_get (M := mX7_readPiece) (l1 := 0) (l2 := 160) dX7_readPiece_124 FX7 3 wd283 (by decide) (tl86 hT) rfl I17 rfl 127 rfl (fun v121 ev121 pv121 qv121 => ?_)
              have wv121 : v121.toInt = (m15 86 3).toInt := congrArg Int32.toInt ev121
              refine pv_iconst (M := mX7_readPiece) (v := 1) dX7_readPiece_127 128 rfl (by decide) ?_
              refine iv_iadd (M := mX7_readPiece) (X := v121.toInt) (Y := 1) dX7_readPiece_128 129 rfl rfl (by decide) (by omega) (by omega) (fun v122 ev122 => ?_)
              refine iv_put (M := mX7_readPiece) (l1 := 0) (l2 := 160) dX7_readPiece_129 FX7 3 wd283 (by decide) rfl (tl86 hT) rfl rfl rfl I17 rfl (by omega) (by omega) 132 rfl (fun m123 e126 I124 => ?_)
              have K125 := K18.set e126 (by first | rfl | decide)
              have w127 : (m123 86 3).toInt = v122.toInt := by rw [e126, up2_eq]
              have w128 : (m123 86 2).toInt = (m15 86 2).toInt := by rw [e126, up2_ne (by omega)]
              have w129 : (m123 86 4).toInt = (m15 86 4).toInt := by rw [e126, up2_ne (by omega)]
              have w130 : (m123 lb 7).toInt = (m15 lb 7).toInt := by rw [e126, up2_ne (by omega)]
              have w131 : (m123 lb 2).toInt = (m15 lb 2).toInt := by rw [e126, up2_ne (by omega)]
              have kt132 : tC m123 = tC m := tC_fz zR2 K125
              have kp132 : (m123 86 3).toInt = (m15 86 3).toInt + 1 := by omega
              have ks132 : SAML lb m15 m123 := SAML.set zR2 e126
              have kl132 : (m123 lb 2).toInt = (m15 lb 2).toInt := congrArg Int32.toInt ks132.1
              refine pv_aload_n (M := mX7_readPiece) 0 dX7_readPiece_132 133 rfl rfl rfl ?_
              refine pv_iload_n (M := mX7_readPiece) 1 dX7_readPiece_133 134 rfl rfl rfl ?_
              have z136 : (1 : Int32).toInt = 1 := by decide
              refine pv_callv (M := mX7_readPiece) (as := [.int 1]) (st := []) (kc2 := 0) (ks2 := 0) dX7_readPiece_134 wd539 YX7_readSum ⟨wd541, wd4⟩ (mk_get (tl86 hT)) rfl rfl (s_X7_readSum_v1z g hT I124 R (by first | omega | assumption | exact (iv_rng _).2 | exact (iv_rng _).1 | decide) (TBC_eq hp1 kt132) (by first | omega | assumption | exact (iv_rng _).2 | exact (iv_rng _).1 | decide)) rfl rfl (Nat.le_of_ble_eq_true rfl) (by decide) rfl rfl 137 rfl (fun rv h1 q137 => ?_)
              obtain ⟨m138, n139, v142, rfl, rfl, I140, K141, pv142, qv142, rv142⟩ := q137
              replace rv142 : (m123 86 3).toInt ≤ (m138 86 3).toInt ∧ (m138 86 3).toInt ≤ (m138 86 2).toInt ∧ (m138 86 2).toInt = (m123 86 2).toInt ∧ (RSX (SU (tC m123) 5 (m123 86 3).toInt) v142.toInt (m138 86 3).toInt (m138 86 4).toInt) ∧ (m138 lb 7).toInt = (m123 lb 7).toInt ∧ IFZ v142.toInt (CDS lb m123 m138 13 (SUD (tC m123) 5 (m123 86 3).toInt) ((m138 86 3).toInt - (m123 86 3).toInt)) := by have q_ := rv142; (try rw [z136] at q_); exact q_
              have K141c := K141
              have K141 := K125.trans (K141.sub (fun _ _ q => q))
              show PV _ _ _ _ _ _ _ 137 [.ref 86, .int 1, .int v29] [.int v142] _
              have k137 := rv142.2.2.2.1
              rw [kt132, kp132] at k137
              have k137z := rv142.2.2.2.2.2
              rw [kt132, kp132] at k137z
              refine pv_if_ne (M := mX7_readPiece) (tgt := 142) dX7_readPiece_137 140 rfl (by decide) (fun c147 => ?_) (fun c147 => ?_)
              · have c147 := iv_ne (X := v142.toInt) (Y := 0) c147 rfl (by decide)
                have k142z := IFZ.get k137z (by omega)
                have k142b := CDS_b k142z
                refine pv_aload_n (M := mX7_readPiece) 0 dX7_readPiece_142 143 rfl rfl rfl ?_
                refine mv_get (M := mX7_readPiece) (v := .ref lb) dX7_readPiece_143 FX7 1 wd281 (by decide) (tl86 hT) rfl R.2.2.2.1 146 rfl ?_
                refine pv_iload_n (M := mX7_readPiece) 2 dX7_readPiece_146 147 rfl rfl rfl ?_
                refine pv_iconst (M := mX7_readPiece) (v := 0) dX7_readPiece_147 148 rfl (by decide) ?_
                have z150 : (0 : Int32).toInt = 0 := by decide
                refine pv_callv (M := mX7_readPiece) (as := [.int v29, .int 0]) (st := []) (kc2 := 0) (ks2 := 0) dX7_readPiece_148 wd567 YX6_emit ⟨wd568, wd569⟩ (mk_get R.2.2.2.2.2.2.1) rfl rfl (s_X6_emit_vz g hT I140 lb R.2.2.2.2.2 v29 0 (by decide) (by decide)) rfl rfl (Nat.le_of_ble_eq_true rfl) (by decide) rfl rfl 151 rfl (fun rv h1 q151 => ?_)
                obtain ⟨m152, n153, rfl, rfl, I154, K155, rm152⟩ := q151
                replace rm152 : (m152 lb 7).toInt = (m138 lb 7).toInt ∧ ((m138 lb 2).toInt < 160 → EMT lb m138 m152 v29.toInt (0 : Int32)) := by have q_ := rm152; (try rw [z150] at q_); exact q_
                have K155c := K155
                have w156 : (m152 86 3).toInt = (m138 86 3).toInt := congrArg Int32.toInt (K155 86 3 (wY_out (by omega) (by omega) (by omega)))
                have w157 : (m152 86 2).toInt = (m138 86 2).toInt := congrArg Int32.toInt (K155 86 2 (wY_out (by omega) (by omega) (by omega)))
                have w158 : (m152 86 4).toInt = (m138 86 4).toInt := congrArg Int32.toInt (K155 86 4 (wY_out (by omega) (by omega) (by omega)))
                have K155 := K141.trans (K155.sub (by first | exact wZ_wY | exact wZ_86))
                show PV _ _ _ _ _ _ _ 151 [.ref 86, .int 1, .int v29] [] _
                have k151 := rm152.2 (by omega)
                refine pv_iconst (M := mX7_readPiece) (v := 1) dX7_readPiece_151 152 rfl (by decide) ?_
                have z160 : (1 : Int32).toInt = 1 := by decide
                exact pv_iret (M := mX7_readPiece) dX7_readPiece_152 rfl rfl ⟨_, _, _, rfl, rfl, I154, K155, by decide, by decide, ⟨by omega, by omega, by omega, Or.inl ⟨by decide, by rw [PI_cm kn33 kn40, CM_ok k93 kC, RSX_ok k137 (by omega), show (m138 86 3).toInt = (m152 86 3).toInt by omega]⟩, by omega, IFZ.is (by rw [PID_cm kn33 kn40, CMD_ok k93, ← k97]; exact CDS.wk (CDS.op k93z (CDS.pre ks132 k142z (Int.le_refl _)) k151 (isO_c (by rw [k97]; exact kC)) (Int.le_refl _) (by omega)) (by omega) (by omega))⟩⟩
              · have c147 := iv_eq (X := v142.toInt) (Y := 0) c147 rfl (by decide)
                refine pv_iconst (M := mX7_readPiece) (v := 0) dX7_readPiece_140 141 rfl (by decide) ?_
                have z161 : (0 : Int32).toInt = 0 := by decide
                exact pv_iret (M := mX7_readPiece) dX7_readPiece_141 rfl rfl ⟨_, _, _, rfl, rfl, I140, K141, by decide, by decide, ⟨by omega, by omega, by omega, Or.inr ⟨by decide, by rw [PI_cm kn33 kn40, CM_ok k93 kC]; exact RSX_fl k137 (by omega)⟩, by omega, IFZ.no (by first | decide | omega)⟩⟩
            · have c119 := iv_ne (X := v29.toInt) (Y := 61) c119 rfl (by decide)
              refine pv_aload_n (M := mX7_readPiece) 0 dX7_readPiece_116 117 rfl rfl rfl ?_
              refine pv_iconst (M := mX7_readPiece) (v := 1) dX7_readPiece_117 118 rfl (by decide) ?_
              have z162 : (1 : Int32).toInt = 1 := by decide
              refine pv_callv (M := mX7_readPiece) (as := [.int 1]) (st := []) (kc2 := 0) (ks2 := 0) dX7_readPiece_118 wd531 YX7_fail ⟨wd533, wd3⟩ (mk_get (tl86 hT)) rfl rfl (s_X7_fail_vz g hT I17 R 1 (by decide) (by decide) (by first | omega | assumption | exact (iv_rng _).2 | exact (iv_rng _).1 | decide)) rfl rfl (Nat.le_of_ble_eq_true rfl) (by decide) rfl rfl 121 rfl (fun rv h1 q163 => ?_)
              obtain ⟨m164, n165, v168, rfl, rfl, I166, K167, pv168, qv168, rv168⟩ := q163
              replace rv168 : (m15 86 3).toInt ≤ (m164 86 3).toInt ∧ (m164 86 3).toInt ≤ (m164 86 2).toInt ∧ (m164 86 2).toInt = (m15 86 2).toInt ∧ (v168.toInt = 0 ∧ (m164 86 3).toInt = (m15 86 3).toInt ∧ (m164 86 4).toInt = -1000 * (1 : Int) - (m15 86 3).toInt) ∧ (m164 lb 7).toInt = (m15 lb 7).toInt := by have q_ := rv168; (try rw [z162] at q_); exact q_
              have K167c := K167
              have w169 : (m164 86 2).toInt = (m15 86 2).toInt := congrArg Int32.toInt (K167 86 2 rfl)
              have K167 := K18.trans (K167.sub (by first | exact wZ_wY | exact wZ_86))
              show PV _ _ _ _ _ _ _ 121 [.ref 86, .int 1, .int v29] [.int v168] _
              exact pv_iret (M := mX7_readPiece) dX7_readPiece_121 rfl (iv_nz (by omega) (by omega)) ⟨_, _, _, rfl, rfl, I166, K167, by omega, by omega, ⟨by omega, by omega, by omega, Or.inr ⟨by omega, by rw [PI_cm kn33 kn40]; exact CM_no k93 (isC_no (by omega) (by omega) (by omega)) (by omega)⟩, by omega, IFZ.no (by first | decide | omega)⟩⟩
      · have c22 := iv_eq (X := v19.toInt) (Y := 0) c22 rfl (by decide)
        refine pv_iconst (M := mX7_readPiece) (v := 0) dX7_readPiece_91 92 rfl (by decide) ?_
        have z170 : (0 : Int32).toInt = 0 := by decide
        exact pv_iret (M := mX7_readPiece) dX7_readPiece_92 rfl rfl ⟨_, _, _, rfl, rfl, I17, K18, by decide, by decide, ⟨by omega, by omega, by omega, Or.inr ⟨by decide, by rw [PI_cm kn33 kn40]; exact CM_fl (RSX_fl k88 (by omega))⟩, by omega, IFZ.no (by first | decide | omega)⟩⟩
    · have c11 := iv_eq (X := v8.toInt) (Y := 40) c11 rfl (by decide)
      have k40 : tC m (m 86 3).toInt = 40 := by omega
      refine pv_aload_n (M := mX7_readPiece) 0 dX7_readPiece_50 51 rfl rfl rfl ?_
      refine pv_iload_n (M := mX7_readPiece) 1 dX7_readPiece_51 52 rfl rfl rfl ?_
      have z172 : (1 : Int32).toInt = 1 := by decide
      refine pv_callv (M := mX7_readPiece) (as := [.int 1]) (st := []) (kc2 := 0) (ks2 := 0) dX7_readPiece_52 wd551 YX7_open ⟨wd553, wd7⟩ (mk_get (tl86 hT)) rfl rfl (s_X7_open_vz g hT I R 1 (by decide) (by decide) (by first | omega | assumption | exact (iv_rng _).2 | exact (iv_rng _).1 | decide)) rfl rfl (Nat.le_of_ble_eq_true rfl) (by decide) rfl rfl 55 rfl (fun rv h1 q173 => ?_)
      obtain ⟨m174, n175, v178, rfl, rfl, I176, K177, pv178, qv178, rv178⟩ := q173
      replace rv178 : (v178 = 0 ∨ (1 : Int) ≤ 5) ∧ (m 86 3).toInt ≤ (m174 86 3).toInt ∧ (m174 86 3).toInt ≤ (m174 86 2).toInt ∧ (m174 86 2).toInt = (m 86 2).toInt ∧ ((v178.toInt = 1 ∧ (1 : Int) ≤ 5 ∧ (m174 86 3).toInt = (m 86 3).toInt + 1) ∨ (v178.toInt = 0 ∧ 6 ≤ (1 : Int) ∧ (m174 86 4).toInt = -5000 - (m 86 3).toInt ∧ (m174 86 3).toInt = (m 86 3).toInt)) ∧ (m174 lb 7).toInt = (m lb 7).toInt := by have q_ := rv178; (try rw [z172] at q_); exact q_
      have K177c := K177
      have w179 : (m174 86 2).toInt = (m 86 2).toInt := congrArg Int32.toInt (K177 86 2 rfl)
      have K177 := Kp.trans (K177.sub (by first | exact wZ_wY | exact wZ_86))
      show PV _ _ _ _ _ _ _ 55 [.ref 86, .int 1, pv_U] [.int v178] _
      refine pv_if_eq (M := mX7_readPiece) (tgt := 81) dX7_readPiece_55 58 rfl (by decide) (fun c180 => ?_) (fun c180 => ?_)
      · have c180 := iv_eq (X := v178.toInt) (Y := 0) c180 rfl (by decide)
        refine pv_iconst (M := mX7_readPiece) (v := 0) dX7_readPiece_81 82 rfl (by decide) ?_
        have z181 : (0 : Int32).toInt = 0 := by decide
        exact pv_iret (M := mX7_readPiece) dX7_readPiece_82 rfl rfl ⟨_, _, _, rfl, rfl, I176, K177, by decide, by decide, ⟨by omega, by omega, by omega, (by first | exact Or.inr ⟨by decide, PX_deep (Or.inr k40) (by omega)⟩ | exact Or.inr ⟨by decide, PX_cn k40 k68 (fun z => by omega) (by omega)⟩ | exact Or.inl ⟨by decide, PX_co k40 k68 (by omega) (by omega)⟩ | exact Or.inr ⟨by decide, PX_con k40 (RSX_fl k65 (by omega))⟩ | (exfalso; omega)), by omega, (by first | exact IFZ.is (by rw [PID_opn k40]; exact CDS.wk (CDS.post (CDS.pre ks58 (IFZ.get k65z (by omega)) (Int.le_refl _)) ks74) (by omega) (by omega)) | exact IFZ.no (by first | decide | omega))⟩⟩
      · have pc180 := rv178.1.resolve_left c180
        have c180 := iv_ne (X := v178.toInt) (Y := 0) c180 rfl (by decide)
        have kt58 : tC m174 = tC m := tC_fz zR2 K177
        have kp58 : (m174 86 3).toInt = (m 86 3).toInt + 1 := by omega
        have ks58 : SAML lb m m174 := SAML.fz zR2 K177c
        have kl58 : (m174 lb 2).toInt = (m lb 2).toInt := congrArg Int32.toInt ks58.1
        refine pv_aload_n (M := mX7_readPiece) 0 dX7_readPiece_58 59 rfl rfl rfl ?_
        refine pv_iload_n (M := mX7_readPiece) 1 dX7_readPiece_59 60 rfl rfl rfl ?_
        refine pv_iconst (M := mX7_readPiece) (v := 1) dX7_readPiece_60 61 rfl (by decide) ?_
        refine pv_iadd (M := mX7_readPiece) (v := 2) dX7_readPiece_61 62 rfl (by decide) ?_
        have z187 : (2 : Int32).toInt = 2 := by decide
        refine pv_callv (M := mX7_readPiece) (as := [.int 2]) (st := []) (kc2 := 0) (ks2 := 0) dX7_readPiece_62 wd662 YX7_readCondition ⟨wd664, wd12⟩ (mk_get (tl86 hT)) rfl rfl (s_X7_readCondition_v2z g hT I176 R (by first | omega | assumption | exact (iv_rng _).2 | exact (iv_rng _).1 | decide) (TBC_eq hp1 kt58) (by first | omega | assumption | exact (iv_rng _).2 | exact (iv_rng _).1 | decide)) rfl rfl (Nat.le_of_ble_eq_true rfl) (by decide) rfl rfl 65 rfl (fun rv h1 q188 => ?_)
        obtain ⟨m189, n190, v193, rfl, rfl, I191, K192, pv193, qv193, rv193⟩ := q188
        replace rv193 : (m174 86 3).toInt ≤ (m189 86 3).toInt ∧ (m189 86 3).toInt ≤ (m189 86 2).toInt ∧ (m189 86 2).toInt = (m174 86 2).toInt ∧ (RSX (CN (tC m174) 4 (m174 86 3).toInt) v193.toInt (m189 86 3).toInt (m189 86 4).toInt) ∧ (m189 lb 7).toInt = (m174 lb 7).toInt ∧ IFZ v193.toInt (CDS lb m174 m189 12 (CND_ (tC m174) 4 (m174 86 3).toInt) ((m189 86 3).toInt - (m174 86 3).toInt)) := by have q_ := rv193; (try rw [z187] at q_); exact q_
        have K192c := K192
        have K192 := K177.trans (K192.sub (fun _ _ q => q))
        show PV _ _ _ _ _ _ _ 65 [.ref 86, .int 1, pv_U] [.int v193] _
        have k65 := rv193.2.2.2.1
        rw [kt58, kp58] at k65
        have k65z := rv193.2.2.2.2.2
        rw [kt58, kp58] at k65z
        refine pv_if_eq (M := mX7_readPiece) (tgt := 81) dX7_readPiece_65 68 rfl (by decide) (fun c198 => ?_) (fun c198 => ?_)
        · have c198 := iv_eq (X := v193.toInt) (Y := 0) c198 rfl (by decide)
          refine pv_iconst (M := mX7_readPiece) (v := 0) dX7_readPiece_81 82 rfl (by decide) ?_
          have z199 : (0 : Int32).toInt = 0 := by decide
          exact pv_iret (M := mX7_readPiece) dX7_readPiece_82 rfl rfl ⟨_, _, _, rfl, rfl, I191, K192, by decide, by decide, ⟨by omega, by omega, by omega, (by first | exact Or.inr ⟨by decide, PX_deep (Or.inr k40) (by omega)⟩ | exact Or.inr ⟨by decide, PX_cn k40 k68 (fun z => by omega) (by omega)⟩ | exact Or.inl ⟨by decide, PX_co k40 k68 (by omega) (by omega)⟩ | exact Or.inr ⟨by decide, PX_con k40 (RSX_fl k65 (by omega))⟩ | (exfalso; omega)), by omega, (by first | exact IFZ.is (by rw [PID_opn k40]; exact CDS.wk (CDS.post (CDS.pre ks58 (IFZ.get k65z (by omega)) (Int.le_refl _)) ks74) (by omega) (by omega)) | exact IFZ.no (by first | decide | omega))⟩⟩
        · have c198 := iv_ne (X := v193.toInt) (Y := 0) c198 rfl (by decide)
          have k68 := RSX_ok k65 (by omega)
          have kt68 : tC m189 = tC m := tC_fz zR2 K192
          refine pv_aload_n (M := mX7_readPiece) 0 dX7_readPiece_68 69 rfl rfl rfl ?_
          refine pv_bipush (M := mX7_readPiece) (v := 41) dX7_readPiece_69 71 rfl (by decide) ?_
          have z202 : (41 : Int32).toInt = 41 := by decide
          refine pv_callv (M := mX7_readPiece) (as := [.int 41]) (st := []) (kc2 := 0) (ks2 := 0) dX7_readPiece_71 wd555 YX7_pass ⟨wd557, wd8⟩ (mk_get (tl86 hT)) rfl rfl (s_X7_pass_vz g hT I191 R 41 (by decide) (by decide) (by first | omega | assumption | exact (iv_rng _).2 | exact (iv_rng _).1 | decide)) rfl rfl (Nat.le_of_ble_eq_true rfl) (by decide) rfl rfl 74 rfl (fun rv h1 q203 => ?_)
          obtain ⟨m204, n205, v208, rfl, rfl, I206, K207, pv208, qv208, rv208⟩ := q203
          replace rv208 : (m189 86 3).toInt ≤ (m204 86 3).toInt ∧ (m204 86 3).toInt ≤ (m204 86 2).toInt ∧ (m204 86 2).toInt = (m189 86 2).toInt ∧ ((v208.toInt = 1 ∧ tC m189 (m189 86 3).toInt = (41 : Int) ∧ (m204 86 3).toInt = (m189 86 3).toInt + 1) ∨ (v208.toInt = 0 ∧ tC m189 (m189 86 3).toInt ≠ (41 : Int) ∧ (m204 86 4).toInt = -1000 - (m189 86 3).toInt ∧ (m204 86 3).toInt = (m189 86 3).toInt)) ∧ (m204 lb 7).toInt = (m189 lb 7).toInt := by have q_ := rv208; (try rw [z202] at q_); exact q_
          have K207c := K207
          have w209 : (m204 86 2).toInt = (m189 86 2).toInt := congrArg Int32.toInt (K207 86 2 rfl)
          have K207 := K192.trans (K207.sub (by first | exact wZ_wY | exact wZ_86))
          show PV _ _ _ _ _ _ _ 74 [.ref 86, .int 1, pv_U] [.int v208] _
          have k74 := rv208.2.2.2.1
          rw [kt68] at k74
          have ks74 : SAML lb m189 m204 := SAML.fz zR2 K207c
          refine pv_if_eq (M := mX7_readPiece) (tgt := 81) dX7_readPiece_74 77 rfl (by decide) (fun c213 => ?_) (fun c213 => ?_)
          · have c213 := iv_eq (X := v208.toInt) (Y := 0) c213 rfl (by decide)
            refine pv_iconst (M := mX7_readPiece) (v := 0) dX7_readPiece_81 82 rfl (by decide) ?_
            have z214 : (0 : Int32).toInt = 0 := by decide
            exact pv_iret (M := mX7_readPiece) dX7_readPiece_82 rfl rfl ⟨_, _, _, rfl, rfl, I206, K207, by decide, by decide, ⟨by omega, by omega, by omega, (by first | exact Or.inr ⟨by decide, PX_deep (Or.inr k40) (by omega)⟩ | exact Or.inr ⟨by decide, PX_cn k40 k68 (fun z => by omega) (by omega)⟩ | exact Or.inl ⟨by decide, PX_co k40 k68 (by omega) (by omega)⟩ | exact Or.inr ⟨by decide, PX_con k40 (RSX_fl k65 (by omega))⟩ | (exfalso; omega)), by omega, (by first | exact IFZ.is (by rw [PID_opn k40]; exact CDS.wk (CDS.post (CDS.pre ks58 (IFZ.get k65z (by omega)) (Int.le_refl _)) ks74) (by omega) (by omega)) | exact IFZ.no (by first | decide | omega))⟩⟩
          · have c213 := iv_ne (X := v208.toInt) (Y := 0) c213 rfl (by decide)
            refine pv_iconst (M := mX7_readPiece) (v := 1) dX7_readPiece_77 78 rfl (by decide) ?_
            refine pv_goto (M := mX7_readPiece) (tgt := 82) dX7_readPiece_78 (by decide) ?_
            have z215 : (1 : Int32).toInt = 1 := by decide
            exact pv_iret (M := mX7_readPiece) dX7_readPiece_82 rfl rfl ⟨_, _, _, rfl, rfl, I206, K207, by decide, by decide, ⟨by omega, by omega, by omega, (by first | exact Or.inr ⟨by decide, PX_deep (Or.inr k40) (by omega)⟩ | exact Or.inr ⟨by decide, PX_cn k40 k68 (fun z => by omega) (by omega)⟩ | exact Or.inl ⟨by decide, PX_co k40 k68 (by omega) (by omega)⟩ | exact Or.inr ⟨by decide, PX_con k40 (RSX_fl k65 (by omega))⟩ | (exfalso; omega)), by omega, (by first | exact IFZ.is (by rw [PID_opn k40]; exact CDS.wk (CDS.post (CDS.pre ks58 (IFZ.get k65z (by omega)) (Int.le_refl _)) ks74) (by omega) (by omega)) | exact IFZ.no (by first | decide | omega))⟩⟩
  · have c5 := iv_eq (X := v2.toInt) (Y := 33) c5 rfl (by decide)
    have k33 : tC m (m 86 3).toInt = 33 := by omega
    refine pv_aload_n (M := mX7_readPiece) 0 dX7_readPiece_9 10 rfl rfl rfl ?_
    refine pv_iload_n (M := mX7_readPiece) 1 dX7_readPiece_10 11 rfl rfl rfl ?_
    have z217 : (1 : Int32).toInt = 1 := by decide
    refine pv_callv (M := mX7_readPiece) (as := [.int 1]) (st := []) (kc2 := 0) (ks2 := 0) dX7_readPiece_11 wd551 YX7_open ⟨wd553, wd7⟩ (mk_get (tl86 hT)) rfl rfl (s_X7_open_vz g hT I R 1 (by decide) (by decide) (by first | omega | assumption | exact (iv_rng _).2 | exact (iv_rng _).1 | decide)) rfl rfl (Nat.le_of_ble_eq_true rfl) (by decide) rfl rfl 14 rfl (fun rv h1 q218 => ?_)
    obtain ⟨m219, n220, v223, rfl, rfl, I221, K222, pv223, qv223, rv223⟩ := q218
    replace rv223 : (v223 = 0 ∨ (1 : Int) ≤ 5) ∧ (m 86 3).toInt ≤ (m219 86 3).toInt ∧ (m219 86 3).toInt ≤ (m219 86 2).toInt ∧ (m219 86 2).toInt = (m 86 2).toInt ∧ ((v223.toInt = 1 ∧ (1 : Int) ≤ 5 ∧ (m219 86 3).toInt = (m 86 3).toInt + 1) ∨ (v223.toInt = 0 ∧ 6 ≤ (1 : Int) ∧ (m219 86 4).toInt = -5000 - (m 86 3).toInt ∧ (m219 86 3).toInt = (m 86 3).toInt)) ∧ (m219 lb 7).toInt = (m lb 7).toInt := by have q_ := rv223; (try rw [z217] at q_); exact q_
    have K222c := K222
    have w224 : (m219 86 2).toInt = (m 86 2).toInt := congrArg Int32.toInt (K222 86 2 rfl)
    have K222 := Kp.trans (K222.sub (by first | exact wZ_wY | exact wZ_86))
    show PV _ _ _ _ _ _ _ 14 [.ref 86, .int 1, pv_U] [.int v223] _
    refine pv_if_eq (M := mX7_readPiece) (tgt := 27) dX7_readPiece_14 17 rfl (by decide) (fun c225 => ?_) (fun c225 => ?_)
    · have c225 := iv_eq (X := v223.toInt) (Y := 0) c225 rfl (by decide)
      refine pv_iconst (M := mX7_readPiece) (v := 0) dX7_readPiece_27 28 rfl (by decide) ?_
      have z226 : (0 : Int32).toInt = 0 := by decide
      exact pv_iret (M := mX7_readPiece) dX7_readPiece_28 rfl rfl ⟨_, _, _, rfl, rfl, I221, K222, by decide, by decide, ⟨by omega, by omega, by omega, (by first | exact Or.inr ⟨by decide, PX_deep (Or.inl k33) (by omega)⟩ | exact Or.inr ⟨by decide, by rw [PI_not k33]; exact RSX_fl k24 (by omega)⟩ | (exfalso; omega)), by omega, IFZ.no (by first | decide | omega)⟩⟩
    · have pc225 := rv223.1.resolve_left c225
      have c225 := iv_ne (X := v223.toInt) (Y := 0) c225 rfl (by decide)
      have kt17 : tC m219 = tC m := tC_fz zR2 K222
      have kp17 : (m219 86 3).toInt = (m 86 3).toInt + 1 := by omega
      have ks17 : SAML lb m m219 := SAML.fz zR2 K222c
      have kl17 : (m219 lb 2).toInt = (m lb 2).toInt := congrArg Int32.toInt ks17.1
      refine pv_aload_n (M := mX7_readPiece) 0 dX7_readPiece_17 18 rfl rfl rfl ?_
      refine pv_iload_n (M := mX7_readPiece) 1 dX7_readPiece_18 19 rfl rfl rfl ?_
      refine pv_iconst (M := mX7_readPiece) (v := 1) dX7_readPiece_19 20 rfl (by decide) ?_
      refine pv_iadd (M := mX7_readPiece) (v := 2) dX7_readPiece_20 21 rfl (by decide) ?_
      have z232 : (2 : Int32).toInt = 2 := by decide
      refine pv_callv (M := mX7_readPiece) (as := [.int 2]) (st := []) (kc2 := 0) (ks2 := 0) dX7_readPiece_21 wd674 YX7_readPiece ⟨wd676, wd14⟩ (mk_get (tl86 hT)) rfl rfl (s_X7_readPiece_v2z g hT I221 R (by first | omega | assumption | exact (iv_rng _).2 | exact (iv_rng _).1 | decide) (TBC_eq hp1 kt17) (by first | omega | assumption | exact (iv_rng _).2 | exact (iv_rng _).1 | decide)) rfl rfl (Nat.le_of_ble_eq_true rfl) (by decide) rfl rfl 24 rfl (fun rv h1 q233 => ?_)
      obtain ⟨m234, n235, v238, rfl, rfl, I236, K237, pv238, qv238, rv238⟩ := q233
      replace rv238 : (m219 86 3).toInt ≤ (m234 86 3).toInt ∧ (m234 86 3).toInt ≤ (m234 86 2).toInt ∧ (m234 86 2).toInt = (m219 86 2).toInt ∧ (RSX (PI (tC m219) 4 (m219 86 3).toInt) v238.toInt (m234 86 3).toInt (m234 86 4).toInt) ∧ (m234 lb 7).toInt = (m219 lb 7).toInt ∧ IFZ v238.toInt (CDS lb m219 m234 12 (PID (tC m219) 4 (m219 86 3).toInt) ((m234 86 3).toInt - (m219 86 3).toInt)) := by have q_ := rv238; (try rw [z232] at q_); exact q_
      have K237c := K237
      have K237 := K222.trans (K237.sub (fun _ _ q => q))
      show PV _ _ _ _ _ _ _ 24 [.ref 86, .int 1, pv_U] [.int v238] _
      have k24 := rv238.2.2.2.1
      rw [kt17, kp17] at k24
      have k24z := rv238.2.2.2.2.2
      rw [kt17, kp17] at k24z
      refine pv_if_ne (M := mX7_readPiece) (tgt := 29) dX7_readPiece_24 27 rfl (by decide) (fun c243 => ?_) (fun c243 => ?_)
      · have c243 := iv_ne (X := v238.toInt) (Y := 0) c243 rfl (by decide)
        have k29z := IFZ.get k24z (by omega)
        have k29b := CDS_b k29z
        refine pv_aload_n (M := mX7_readPiece) 0 dX7_readPiece_29 30 rfl rfl rfl ?_
        refine mv_get (M := mX7_readPiece) (v := .ref lb) dX7_readPiece_30 FX7 1 wd281 (by decide) (tl86 hT) rfl R.2.2.2.1 33 rfl ?_
        refine pv_bipush (M := mX7_readPiece) (v := 33) dX7_readPiece_33 35 rfl (by decide) ?_
        refine pv_iconst (M := mX7_readPiece) (v := 0) dX7_readPiece_35 36 rfl (by decide) ?_
        have z246 : (33 : Int32).toInt = 33 := by decide
        have z247 : (0 : Int32).toInt = 0 := by decide
        refine pv_callv (M := mX7_readPiece) (as := [.int 33, .int 0]) (st := []) (kc2 := 0) (ks2 := 0) dX7_readPiece_36 wd567 YX6_emit ⟨wd568, wd569⟩ (mk_get R.2.2.2.2.2.2.1) rfl rfl (s_X6_emit_vz g hT I236 lb R.2.2.2.2.2 33 0 (by decide) (by decide)) rfl rfl (Nat.le_of_ble_eq_true rfl) (by decide) rfl rfl 39 rfl (fun rv h1 q248 => ?_)
        obtain ⟨m249, n250, rfl, rfl, I251, K252, rm249⟩ := q248
        replace rm249 : (m249 lb 7).toInt = (m234 lb 7).toInt ∧ ((m234 lb 2).toInt < 160 → EMT lb m234 m249 (33 : Int) (0 : Int32)) := by have q_ := rm249; (try rw [z246] at q_); (try rw [z247] at q_); exact q_
        have K252c := K252
        have w253 : (m249 86 3).toInt = (m234 86 3).toInt := congrArg Int32.toInt (K252 86 3 (wY_out (by omega) (by omega) (by omega)))
        have w254 : (m249 86 2).toInt = (m234 86 2).toInt := congrArg Int32.toInt (K252 86 2 (wY_out (by omega) (by omega) (by omega)))
        have w255 : (m249 86 4).toInt = (m234 86 4).toInt := congrArg Int32.toInt (K252 86 4 (wY_out (by omega) (by omega) (by omega)))
        have K252 := K237.trans (K252.sub (by first | exact wZ_wY | exact wZ_86))
        show PV _ _ _ _ _ _ _ 39 [.ref 86, .int 1, pv_U] [] _
        have k39 := rm249.2 (by omega)
        refine pv_iconst (M := mX7_readPiece) (v := 1) dX7_readPiece_39 40 rfl (by decide) ?_
        have z257 : (1 : Int32).toInt = 1 := by decide
        exact pv_iret (M := mX7_readPiece) dX7_readPiece_40 rfl rfl ⟨_, _, _, rfl, rfl, I251, K252, by decide, by decide, ⟨by omega, by omega, by omega, Or.inl ⟨by decide, by rw [PI_not k33, RSX_ok k24 (by omega), show (m234 86 3).toInt = (m249 86 3).toInt by omega]⟩, by omega, IFZ.is (by rw [PID_not k33]; exact CDS.wk (CDS.not (CDS.pre ks17 k29z (Int.le_refl _)) k39 (Int.le_refl _) (by omega)) (by omega) (by omega))⟩⟩
      · have c243 := iv_eq (X := v238.toInt) (Y := 0) c243 rfl (by decide)
        refine pv_iconst (M := mX7_readPiece) (v := 0) dX7_readPiece_27 28 rfl (by decide) ?_
        have z258 : (0 : Int32).toInt = 0 := by decide
        exact pv_iret (M := mX7_readPiece) dX7_readPiece_28 rfl rfl ⟨_, _, _, rfl, rfl, I236, K237, by decide, by decide, ⟨by omega, by omega, by omega, (by first | exact Or.inr ⟨by decide, PX_deep (Or.inl k33) (by omega)⟩ | exact Or.inr ⟨by decide, by rw [PI_not k33]; exact RSX_fl k24 (by omega)⟩ | (exfalso; omega)), by omega, IFZ.no (by first | decide | omega)⟩⟩

set_option maxHeartbeats 2000000 in
set_option maxRecDepth 20000 in
theorem s_X7_readPart_v1z (g : pv_G) {T : List mv_T} {m : Nat → Nat → Int32} {n : Nat → Nat → Int64} {r : Nat → Value} {la lb : Nat} (hT : TX T) (I : IV BB m) (R : RX T r la lb) (hp0 : (m 86 3).toInt ≤ (m 86 2).toInt) (hp1 : TBC m) (hp2 : (m lb 2).toInt ≤ (m 86 3).toInt) : PM g mX7_readPart yX7_readPart (sqI T BB (wZ lb) r m 0 1 (fun m' v => (m 86 3).toInt ≤ (m' 86 3).toInt ∧ (m' 86 3).toInt ≤ (m' 86 2).toInt ∧ (m' 86 2).toInt = (m 86 2).toInt ∧ ((v.toInt = 0 ∨ (m 86 3).toInt + 1 ≤ (m' 86 3).toInt) ∧ TRX (CN (tC m) 5 (m 86 3).toInt) (LB (tC m) 5) (fun a => tC m a ≠ 38) v.toInt (m' 86 3).toInt (m' 86 4).toInt) ∧ (m' lb 7).toInt = (m lb 7).toInt ∧ IFZ v.toInt (PTZ (tC m) 5 lb m m' (m 86 3).toInt (m' 86 3).toInt))) 24 0 0 [.ref 86, .int 1] (mk T m n r) := by
  have Kp : fr (wZ lb) m m := fr.rf
  have R0 := R
  have zR := R.2.2.2.2.1.1
  have zR2 := R.2.2.2.2.2.1
  have z104 : 0 ≤ (m 86 3).toInt ∧ (m 86 3).toInt ≤ 160 := I 86 3
  have z105 : 0 ≤ (m 86 2).toInt ∧ (m 86 2).toInt ≤ 160 := I 86 2
  refine PM.of 2 (lo := [.ref 86, .int 1, pv_U, pv_U]) rfl (by decide) rfl rfl (Nat.le_of_ble_eq_true rfl) ?_
  have kTX := TXT_C I
  refine pv_aload_n (M := mX7_readPart) 0 dX7_readPart_0 1 rfl rfl rfl ?_
  refine mv_get (M := mX7_readPart) (v := .ref lb) dX7_readPart_1 FX7 1 wd281 (by decide) (tl86 hT) rfl R.2.2.2.1 4 rfl ?_
  refine pv_callv (M := mX7_readPart) (as := []) (st := []) (kc2 := 0) (ks2 := 0) dX7_readPart_4 wd666 YX6_steps ⟨wd667, wd668⟩ (mk_get R.2.2.2.2.2.2.1) rfl rfl (s_X6_steps_vz g hT I lb R.2.2.2.2.2) rfl rfl (Nat.le_of_ble_eq_true rfl) (by decide) rfl rfl 7 rfl (fun rv h1 q2 => ?_)
  obtain ⟨v3, rfl, rfl, pv3, qv3, rv3⟩ := q2
  replace rv3 : v3 = m lb 2 := rv3
  show PV _ _ _ _ _ _ _ 7 [.ref 86, .int 1, pv_U, pv_U] [.int v3] _
  have k7 : v3.toInt = (m lb 2).toInt := congrArg Int32.toInt rv3
  refine pv_istore_n (M := mX7_readPart) 2 (lo2 := [.ref 86, .int 1, .int v3, pv_U]) dX7_readPart_7 8 rfl rfl (by decide) rfl rfl ?_
  refine pv_iconst (M := mX7_readPart) (v := 0) dX7_readPart_8 9 rfl (by decide) ?_
  refine pv_istore_n (M := mX7_readPart) 3 (lo2 := [.ref 86, .int 1, .int v3, .int 0]) dX7_readPart_9 10 rfl rfl (by decide) rfl rfl ?_
  have lp11 : ∀ (fuel10 : Nat) (y5 : Int32) (m6 : Nat → Nat → Int32) (n7 : Nat → Nat → Int64), (0 ≤ y5.toInt) → (y5.toInt ≤ 160) → ((m6 86 3).toInt ≤ (m6 86 2).toInt) → ((m6 86 2).toInt = (m 86 2).toInt) → ((m6 lb 7).toInt = (m lb 7).toInt) → ((m 86 3).toInt + 2 * y5.toInt ≤ (m6 86 3).toInt) → (CN (tC m) 5 (m 86 3).toInt = CN (tC m) 5 (m6 86 3).toInt) → (PQZ (tC m) 5 lb m m6 (m 86 3).toInt (m6 86 3).toInt) → IV BB m6 → fr (wZ lb) m m6 → ((160 - y5.toInt) : Int).toNat < fuel10 → PV none g mX7_readPart (sqI T BB (wZ lb) r m 0 1 (fun m' v => (m 86 3).toInt ≤ (m' 86 3).toInt ∧ (m' 86 3).toInt ≤ (m' 86 2).toInt ∧ (m' 86 2).toInt = (m 86 2).toInt ∧ ((v.toInt = 0 ∨ (m 86 3).toInt + 1 ≤ (m' 86 3).toInt) ∧ TRX (CN (tC m) 5 (m 86 3).toInt) (LB (tC m) 5) (fun a => tC m a ≠ 38) v.toInt (m' 86 3).toInt (m' 86 4).toInt) ∧ (m' lb 7).toInt = (m lb 7).toInt ∧ IFZ v.toInt (PTZ (tC m) 5 lb m m' (m 86 3).toInt (m' 86 3).toInt))) 24 0 0 10 [.ref 86, .int 1, .int v3, .int y5] [] (mk T m6 n7 r) := by
    intro fuel10
    induction fuel10 with
    | zero => intro y5 m6 n7 b13 b14 b15 b16 b17 b18 b19 b20 I8 K9 z21; omega
    | succ fuel10 ih12 =>
      intro y5 m6 n7 b13 b14 b15 b16 b17 b18 b19 b20 I8 K9 z21
      have z22 : 0 ≤ (m6 86 3).toInt ∧ (m6 86 3).toInt ≤ 160 := I8 86 3
      have z23 : 0 ≤ (m6 86 2).toInt ∧ (m6 86 2).toInt ≤ 160 := I8 86 2
      have kgc := (show CN (tC m) 5 (m 86 3).toInt = CN (tC m) 5 (m6 86 3).toInt by assumption)
      have kt10 : tC m6 = tC m := tC_fz zR2 K9
      have kgz := (show PQZ (tC m) 5 lb m m6 (m 86 3).toInt (m6 86 3).toInt by assumption)
      have kgl := PQZ_b kgz
      refine pv_iload_n (M := mX7_readPart) 3 dX7_readPart_10 11 rfl rfl rfl ?_
      refine pv_sipush (M := mX7_readPart) (v := 160) dX7_readPart_11 14 rfl (by decide) ?_
      refine pv_icmp_ge (M := mX7_readPart) (tgt := 65) dX7_readPart_14 17 rfl (by decide) (fun c28 => ?_) (fun c28 => ?_)
      · have c28 := iv_le (X := 160) (Y := y5.toInt) c28 (by decide) rfl
        refine pv_aload_n (M := mX7_readPart) 0 dX7_readPart_65 66 rfl rfl rfl ?_
        refine mv_get (M := mX7_readPart) (v := .ref lb) dX7_readPart_66 FX7 1 wd281 (by decide) (tl86 hT) rfl R.2.2.2.1 69 rfl ?_
        refine pv_bipush (M := mX7_readPart) (v := 38) dX7_readPart_69 71 rfl (by decide) ?_
        refine pv_iload_n (M := mX7_readPart) 2 dX7_readPart_71 72 rfl rfl rfl ?_
        have z29 : (38 : Int32).toInt = 38 := by decide
        refine pv_callv (M := mX7_readPart) (as := [.int 38, .int v3]) (st := []) (kc2 := 0) (ks2 := 0) dX7_readPart_72 wd678 YX6_aimLeaps ⟨wd679, wd680⟩ (mk_get R.2.2.2.2.2.2.1) rfl rfl (s_X6_aimLeaps_vz g hT I8 lb R.2.2.2.2.2 38 v3 (by omega) (by omega)) rfl rfl (Nat.le_of_ble_eq_true rfl) (by decide) rfl rfl 75 rfl (fun rv h1 q30 => ?_)
        obtain ⟨m31, n32, rfl, rfl, I33, K34, rm31⟩ := q30
        replace rm31 : (m31 lb 7).toInt = (m6 lb 7).toInt ∧ AIMD lb m6 m31 (38 : Int) v3.toInt := by have q_ := rm31; (try rw [z29] at q_); exact q_
        have K34c := K34
        have w35 : (m31 86 3).toInt = (m6 86 3).toInt := congrArg Int32.toInt (K34 86 3 (wY_out (by omega) (by omega) (by omega)))
        have w36 : (m31 86 2).toInt = (m6 86 2).toInt := congrArg Int32.toInt (K34 86 2 (wY_out (by omega) (by omega) (by omega)))
        have w37 : (m31 86 4).toInt = (m6 86 4).toInt := congrArg Int32.toInt (K34 86 4 (wY_out (by omega) (by omega) (by omega)))
        have K34 := K9.trans (K34.sub (by first | exact wZ_wY | exact wZ_86))
        show PV _ _ _ _ _ _ _ 75 [.ref 86, .int 1, .int v3, .int y5] [] _
        have k75 := rm31.2
        refine pv_iconst (M := mX7_readPart) (v := 1) dX7_readPart_75 76 rfl (by decide) ?_
        have z39 : (1 : Int32).toInt = 1 := by decide
        exact pv_iret (M := mX7_readPart) dX7_readPart_76 rfl rfl ⟨_, _, _, rfl, rfl, I33, K34, by decide, by decide, ⟨by omega, by omega, by omega, (by first | exact ⟨Or.inr (by omega), Or.inl ⟨by decide, by rw [kgc, k27]; congr 1; omega, by show tC m (m31 86 3).toInt ≠ 38; rw [show (m31 86 3).toInt = (m6 86 3).toInt by omega, ← k31]; omega⟩⟩ | (exfalso; omega)), by omega, (by first | exact IFZ.is (by rw [show (m31 86 3).toInt = (m6 86 3).toInt by omega]; exact PRZ_e kzz k75 (by omega)) | exact IFZ.no (by omega))⟩⟩
      · have c28 := iv_nle (X := 160) (Y := y5.toInt) c28 (by decide) rfl
        refine pv_aload_n (M := mX7_readPart) 0 dX7_readPart_17 18 rfl rfl rfl ?_
        refine pv_iload_n (M := mX7_readPart) 1 dX7_readPart_18 19 rfl rfl rfl ?_
        have z40 : (1 : Int32).toInt = 1 := by decide
        refine pv_callv (M := mX7_readPart) (as := [.int 1]) (st := []) (kc2 := 0) (ks2 := 0) dX7_readPart_19 wd674 YX7_readPiece ⟨wd676, wd14⟩ (mk_get (tl86 hT)) rfl rfl (s_X7_readPiece_v1z g hT I8 R (by first | omega | assumption | exact (iv_rng _).2 | exact (iv_rng _).1 | decide) (TBC_eq hp1 kt10) (by first | omega | assumption | exact (iv_rng _).2 | exact (iv_rng _).1 | decide)) rfl rfl (Nat.le_of_ble_eq_true rfl) (by decide) rfl rfl 22 rfl (fun rv h1 q41 => ?_)
        obtain ⟨m42, n43, v46, rfl, rfl, I44, K45, pv46, qv46, rv46⟩ := q41
        replace rv46 : (m6 86 3).toInt ≤ (m42 86 3).toInt ∧ (m42 86 3).toInt ≤ (m42 86 2).toInt ∧ (m42 86 2).toInt = (m6 86 2).toInt ∧ (RSX (PI (tC m6) 5 (m6 86 3).toInt) v46.toInt (m42 86 3).toInt (m42 86 4).toInt) ∧ (m42 lb 7).toInt = (m6 lb 7).toInt ∧ IFZ v46.toInt (CDS lb m6 m42 14 (PID (tC m6) 5 (m6 86 3).toInt) ((m42 86 3).toInt - (m6 86 3).toInt)) := by have q_ := rv46; (try rw [z40] at q_); exact q_
        have K45c := K45
        have K45 := K9.trans (K45.sub (fun _ _ q => q))
        show PV _ _ _ _ _ _ _ 22 [.ref 86, .int 1, .int v3, .int y5] [.int v46] _
        have k22 := rv46.2.2.2.1
        rw [kt10] at k22
        have k22z := rv46.2.2.2.2.2
        rw [kt10] at k22z
        refine pv_if_ne (M := mX7_readPart) (tgt := 27) dX7_readPart_22 25 rfl (by decide) (fun c51 => ?_) (fun c51 => ?_)
        · have c51 := iv_ne (X := v46.toInt) (Y := 0) c51 rfl (by decide)
          have k27o := RSX_ok k22 (by omega)
          have k27 := CN_ok k27o
          have k27p := PI_le 5 (m6 86 3).toInt (by rw [k27o])
          rw [k27o] at k27p
          have kt27 : tC m42 = tC m := tC_fz zR2 K45
          have kzz : PRZ (tC m) 5 lb m m42 (m 86 3).toInt (m42 86 3).toInt := PQZ_p kgz k27o (IFZ.get k22z (by omega))
          have kzb := PRZ_b kzz
          refine pv_aload_n (M := mX7_readPart) 0 dX7_readPart_27 28 rfl rfl rfl ?_
          refine pv_callv (M := mX7_readPart) (as := []) (st := []) (kc2 := 0) (ks2 := 0) dX7_readPart_28 wd527 YX7_peek ⟨wd529, wd2⟩ (mk_get (tl86 hT)) rfl rfl (s_X7_peek_vx g hT I44 R) rfl rfl (Nat.le_of_ble_eq_true rfl) (by decide) rfl rfl 31 rfl (fun rv h1 q59 => ?_)
          obtain ⟨v60, rfl, rfl, pv60, qv60, rv60⟩ := q59
          replace rv60 : v60.toInt = tC m42 (m42 86 3).toInt ∧ (v60.toInt = -1 ∨ (m42 86 3).toInt < (m42 86 2).toInt) := rv60
          show PV _ _ _ _ _ _ _ 31 [.ref 86, .int 1, .int v3, .int y5] [.int v60] _
          have k31 := rv60.1
          have k31b := rv60.2
          rw [kt27] at k31
          refine pv_bipush (M := mX7_readPart) (v := 38) dX7_readPart_31 33 rfl (by decide) ?_
          refine pv_icmp_eq (M := mX7_readPart) (tgt := 39) dX7_readPart_33 36 rfl (by decide) (fun c64 => ?_) (fun c64 => ?_)
          · have c64 := iv_eq (X := v60.toInt) (Y := 38) c64 rfl (by decide)
            have kB : isB (tC m (m42 86 3).toInt) = true := isB_y (by omega)
            refine pv_aload_n (M := mX7_readPart) 0 dX7_readPart_39 40 rfl rfl rfl ?_
            refine mv_get (M := mX7_readPart) (v := .ref lb) dX7_readPart_40 FX7 1 wd281 (by decide) (tl86 hT) rfl R.2.2.2.1 43 rfl ?_
            refine pv_bipush (M := mX7_readPart) (v := 38) dX7_readPart_43 45 rfl (by decide) ?_
            refine pv_iconst (M := mX7_readPart) (v := (-1)) dX7_readPart_45 46 rfl (by decide) ?_
            have z66 : (38 : Int32).toInt = 38 := by decide
            have z67 : ((-1) : Int32).toInt = (-1) := by decide
            refine pv_callv (M := mX7_readPart) (as := [.int 38, .int (-1)]) (st := []) (kc2 := 0) (ks2 := 0) dX7_readPart_46 wd567 YX6_emit ⟨wd568, wd569⟩ (mk_get R.2.2.2.2.2.2.1) rfl rfl (s_X6_emit_vz g hT I44 lb R.2.2.2.2.2 38 (-1) (by decide) (by decide)) rfl rfl (Nat.le_of_ble_eq_true rfl) (by decide) rfl rfl 49 rfl (fun rv h1 q68 => ?_)
            obtain ⟨m69, n70, rfl, rfl, I71, K72, rm69⟩ := q68
            replace rm69 : (m69 lb 7).toInt = (m42 lb 7).toInt ∧ ((m42 lb 2).toInt < 160 → EMT lb m42 m69 (38 : Int) ((-1) : Int32)) := by have q_ := rm69; (try rw [z66] at q_); (try rw [z67] at q_); exact q_
            have K72c := K72
            have w73 : (m69 86 3).toInt = (m42 86 3).toInt := congrArg Int32.toInt (K72 86 3 (wY_out (by omega) (by omega) (by omega)))
            have w74 : (m69 86 2).toInt = (m42 86 2).toInt := congrArg Int32.toInt (K72 86 2 (wY_out (by omega) (by omega) (by omega)))
            have w75 : (m69 86 4).toInt = (m42 86 4).toInt := congrArg Int32.toInt (K72 86 4 (wY_out (by omega) (by omega) (by omega)))
            have K72 := K45.trans (K72.sub (by first | exact wZ_wY | exact wZ_86))
            show PV _ _ _ _ _ _ _ 49 [.ref 86, .int 1, .int v3, .int y5] [] _
            have k49 := rm69.2 (by omega)
            refine pv_aload_n (M := mX7_readPart) 0 dX7_readPart_49 50 rfl rfl rfl ?_
            refine pv_dup (M := mX7_readPart) dX7_readPart_50 51 rfl rfl ?_
            refine iv_get (M := mX7_readPart) (l1 := 0) (l2 := 160) dX7_readPart_51 FX7 3 wd283 (by decide) (tl86 hT) rfl I71 rfl 54 rfl (fun v77 ev77 pv77 qv77 => ?_)
            have wv77 : v77.toInt = (m69 86 3).toInt := congrArg Int32.toInt ev77
            refine pv_iconst (M := mX7_readPart) (v := 1) dX7_readPart_54 55 rfl (by decide) ?_
            refine iv_iadd (M := mX7_readPart) (X := v77.toInt) (Y := 1) dX7_readPart_55 56 rfl rfl (by decide) (by omega) (by omega) (fun v78 ev78 => ?_)
            refine iv_put (M := mX7_readPart) (l1 := 0) (l2 := 160) dX7_readPart_56 FX7 3 wd283 (by decide) rfl (tl86 hT) rfl rfl rfl I71 rfl (by omega) (by omega) 59 rfl (fun m79 e82 I80 => ?_)
            have K81 := K72.set e82 (by first | rfl | decide)
            have w83 : (m79 86 3).toInt = v78.toInt := by rw [e82, up2_eq]
            have w84 : (m79 86 2).toInt = (m69 86 2).toInt := by rw [e82, up2_ne (by omega)]
            have w85 : (m79 86 4).toInt = (m69 86 4).toInt := by rw [e82, up2_ne (by omega)]
            have w86 : (m79 lb 7).toInt = (m69 lb 7).toInt := by rw [e82, up2_ne (by omega)]
            have w87 : (m79 lb 2).toInt = (m69 lb 2).toInt := by rw [e82, up2_ne (by omega)]
            refine iv_inc (M := mX7_readPart) (C := 1) dX7_readPart_59 62 rfl rfl (by decide) rfl rfl (by decide) (by omega) (by omega) (fun v88 ev88 => ?_)
            show PV _ _ _ _ _ _ _ 62 [.ref 86, .int 1, .int v3, .int v88] [] _
            refine pv_goto (M := mX7_readPart) (tgt := 10) dX7_readPart_62 (by decide) ?_
            have kbc : CN (tC m) 5 (m 86 3).toInt = CN (tC m) 5 (m79 86 3).toInt := by rw [kgc, k27, LB_cn kTX (by omega) kB]; congr 1; omega
            have kbz : PQZ (tC m) 5 lb m m79 (m 86 3).toInt (m79 86 3).toInt := PRZ_l kzz kTX (by omega) (show tC m (m42 86 3).toInt = 38 by omega) k49 (by decide) (SAML.set zR2 e82) (by omega)
            exact ih12 v88 m79 n70 (by first | omega | assumption | exact (iv_rng _).2 | exact (iv_rng _).1 | decide) (by first | omega | assumption | exact (iv_rng _).2 | exact (iv_rng _).1 | decide) (by first | omega | assumption | (show (m79 86 3).toInt ≤ (m79 86 2).toInt; omega) | decide) (by first | omega | assumption | (show (m79 86 2).toInt = (m 86 2).toInt; omega) | decide) (by first | omega | assumption | (show (m79 lb 7).toInt = (m lb 7).toInt; omega) | decide) (by first | omega | assumption | (show (m 86 3).toInt + 2 * v88.toInt ≤ (m79 86 3).toInt; omega) | decide) kbc kbz I80 K81 (by omega)
          · have c64 := iv_ne (X := v60.toInt) (Y := 38) c64 rfl (by decide)
            refine pv_goto (M := mX7_readPart) (tgt := 65) dX7_readPart_36 (by decide) ?_
            refine pv_aload_n (M := mX7_readPart) 0 dX7_readPart_65 66 rfl rfl rfl ?_
            refine mv_get (M := mX7_readPart) (v := .ref lb) dX7_readPart_66 FX7 1 wd281 (by decide) (tl86 hT) rfl R.2.2.2.1 69 rfl ?_
            refine pv_bipush (M := mX7_readPart) (v := 38) dX7_readPart_69 71 rfl (by decide) ?_
            refine pv_iload_n (M := mX7_readPart) 2 dX7_readPart_71 72 rfl rfl rfl ?_
            have z91 : (38 : Int32).toInt = 38 := by decide
            refine pv_callv (M := mX7_readPart) (as := [.int 38, .int v3]) (st := []) (kc2 := 0) (ks2 := 0) dX7_readPart_72 wd678 YX6_aimLeaps ⟨wd679, wd680⟩ (mk_get R.2.2.2.2.2.2.1) rfl rfl (s_X6_aimLeaps_vz g hT I44 lb R.2.2.2.2.2 38 v3 (by omega) (by omega)) rfl rfl (Nat.le_of_ble_eq_true rfl) (by decide) rfl rfl 75 rfl (fun rv h1 q92 => ?_)
            obtain ⟨m93, n94, rfl, rfl, I95, K96, rm93⟩ := q92
            replace rm93 : (m93 lb 7).toInt = (m42 lb 7).toInt ∧ AIMD lb m42 m93 (38 : Int) v3.toInt := by have q_ := rm93; (try rw [z91] at q_); exact q_
            have K96c := K96
            have w97 : (m93 86 3).toInt = (m42 86 3).toInt := congrArg Int32.toInt (K96 86 3 (wY_out (by omega) (by omega) (by omega)))
            have w98 : (m93 86 2).toInt = (m42 86 2).toInt := congrArg Int32.toInt (K96 86 2 (wY_out (by omega) (by omega) (by omega)))
            have w99 : (m93 86 4).toInt = (m42 86 4).toInt := congrArg Int32.toInt (K96 86 4 (wY_out (by omega) (by omega) (by omega)))
            have K96 := K45.trans (K96.sub (by first | exact wZ_wY | exact wZ_86))
            show PV _ _ _ _ _ _ _ 75 [.ref 86, .int 1, .int v3, .int y5] [] _
            have k75 := rm93.2
            refine pv_iconst (M := mX7_readPart) (v := 1) dX7_readPart_75 76 rfl (by decide) ?_
            have z101 : (1 : Int32).toInt = 1 := by decide
            exact pv_iret (M := mX7_readPart) dX7_readPart_76 rfl rfl ⟨_, _, _, rfl, rfl, I95, K96, by decide, by decide, ⟨by omega, by omega, by omega, (by first | exact ⟨Or.inr (by omega), Or.inl ⟨by decide, by rw [kgc, k27]; congr 1; omega, by show tC m (m93 86 3).toInt ≠ 38; rw [show (m93 86 3).toInt = (m42 86 3).toInt by omega, ← k31]; omega⟩⟩ | (exfalso; omega)), by omega, (by first | exact IFZ.is (by rw [show (m93 86 3).toInt = (m42 86 3).toInt by omega]; exact PRZ_e kzz k75 (by omega)) | exact IFZ.no (by omega))⟩⟩
        · have c51 := iv_eq (X := v46.toInt) (Y := 0) c51 rfl (by decide)
          refine pv_iconst (M := mX7_readPart) (v := 0) dX7_readPart_25 26 rfl (by decide) ?_
          have z102 : (0 : Int32).toInt = 0 := by decide
          exact pv_iret (M := mX7_readPart) dX7_readPart_26 rfl rfl ⟨_, _, _, rfl, rfl, I44, K45, by decide, by decide, ⟨by omega, by omega, by omega, ⟨Or.inl (by decide), Or.inr ⟨by decide, by rw [kgc]; exact CN_fl (RSX_fl k22 (by omega))⟩⟩, by omega, IFZ.no (by first | decide | omega)⟩⟩
  have z103 : (0 : Int32).toInt = 0 := by decide
  exact lp11 (((160 - 0) : Int).toNat + 1) 0 m n (by first | omega | assumption | exact (iv_rng _).2 | exact (iv_rng _).1 | decide) (by first | omega | assumption | exact (iv_rng _).2 | exact (iv_rng _).1 | decide) (by first | omega | assumption | (show (m 86 3).toInt ≤ (m 86 2).toInt; omega) | decide) (by first | omega | assumption | (show (m 86 2).toInt = (m 86 2).toInt; omega) | decide) (by first | omega | assumption | (show (m lb 7).toInt = (m lb 7).toInt; omega) | decide) (by first | omega | assumption | (show (m 86 3).toInt + 2 * 0 ≤ (m 86 3).toInt; omega) | decide) rfl (PQZ_0 (by omega)) I Kp (by omega)

set_option maxHeartbeats 2000000 in
set_option maxRecDepth 20000 in
theorem s_X7_readCondition_v1z (g : pv_G) {T : List mv_T} {m : Nat → Nat → Int32} {n : Nat → Nat → Int64} {r : Nat → Value} {la lb : Nat} (hT : TX T) (I : IV BB m) (R : RX T r la lb) (hp0 : (m 86 3).toInt ≤ (m 86 2).toInt) (hp1 : TBC m) (hp2 : (m lb 2).toInt ≤ (m 86 3).toInt) : PM g mX7_readCondition yX7_readCondition (sqI T BB (wZ lb) r m 0 1 (fun m' v => (m 86 3).toInt ≤ (m' 86 3).toInt ∧ (m' 86 3).toInt ≤ (m' 86 2).toInt ∧ (m' 86 2).toInt = (m 86 2).toInt ∧ (RSX (CN (tC m) 5 (m 86 3).toInt) v.toInt (m' 86 3).toInt (m' 86 4).toInt) ∧ (m' lb 7).toInt = (m lb 7).toInt ∧ IFZ v.toInt (CDS lb m m' 14 (CND_ (tC m) 5 (m 86 3).toInt) ((m' 86 3).toInt - (m 86 3).toInt)))) 25 0 0 [.ref 86, .int 1] (mk T m n r) := by
  have Kp : fr (wZ lb) m m := fr.rf
  have R0 := R
  have zR := R.2.2.2.2.1.1
  have zR2 := R.2.2.2.2.2.1
  have z103 : 0 ≤ (m 86 3).toInt ∧ (m 86 3).toInt ≤ 160 := I 86 3
  have z104 : 0 ≤ (m 86 2).toInt ∧ (m 86 2).toInt ≤ 160 := I 86 2
  refine PM.of 2 (lo := [.ref 86, .int 1, pv_U, pv_U]) rfl (by decide) rfl rfl (Nat.le_of_ble_eq_true rfl) ?_
  have kTX := TXT_C I
  refine pv_aload_n (M := mX7_readCondition) 0 dX7_readCondition_0 1 rfl rfl rfl ?_
  refine mv_get (M := mX7_readCondition) (v := .ref lb) dX7_readCondition_1 FX7 1 wd281 (by decide) (tl86 hT) rfl R.2.2.2.1 4 rfl ?_
  refine pv_callv (M := mX7_readCondition) (as := []) (st := []) (kc2 := 0) (ks2 := 0) dX7_readCondition_4 wd666 YX6_steps ⟨wd667, wd668⟩ (mk_get R.2.2.2.2.2.2.1) rfl rfl (s_X6_steps_vz g hT I lb R.2.2.2.2.2) rfl rfl (Nat.le_of_ble_eq_true rfl) (by decide) rfl rfl 7 rfl (fun rv h1 q2 => ?_)
  obtain ⟨v3, rfl, rfl, pv3, qv3, rv3⟩ := q2
  replace rv3 : v3 = m lb 2 := rv3
  show PV _ _ _ _ _ _ _ 7 [.ref 86, .int 1, pv_U, pv_U] [.int v3] _
  have k7 : v3.toInt = (m lb 2).toInt := congrArg Int32.toInt rv3
  refine pv_istore_n (M := mX7_readCondition) 2 (lo2 := [.ref 86, .int 1, .int v3, pv_U]) dX7_readCondition_7 8 rfl rfl (by decide) rfl rfl ?_
  refine pv_iconst (M := mX7_readCondition) (v := 0) dX7_readCondition_8 9 rfl (by decide) ?_
  refine pv_istore_n (M := mX7_readCondition) 3 (lo2 := [.ref 86, .int 1, .int v3, .int 0]) dX7_readCondition_9 10 rfl rfl (by decide) rfl rfl ?_
  have lp11 : ∀ (fuel10 : Nat) (y5 : Int32) (m6 : Nat → Nat → Int32) (n7 : Nat → Nat → Int64), (0 ≤ y5.toInt) → (y5.toInt ≤ 160) → ((m6 86 3).toInt ≤ (m6 86 2).toInt) → ((m6 86 2).toInt = (m 86 2).toInt) → ((m6 lb 7).toInt = (m lb 7).toInt) → ((m 86 3).toInt + 2 * y5.toInt ≤ (m6 86 3).toInt) → (CN (tC m) 5 (m 86 3).toInt = CN (tC m) 5 (m6 86 3).toInt) → (CQZ (tC m) 5 lb m m6 (m 86 3).toInt (m6 86 3).toInt) → IV BB m6 → fr (wZ lb) m m6 → ((160 - y5.toInt) : Int).toNat < fuel10 → PV none g mX7_readCondition (sqI T BB (wZ lb) r m 0 1 (fun m' v => (m 86 3).toInt ≤ (m' 86 3).toInt ∧ (m' 86 3).toInt ≤ (m' 86 2).toInt ∧ (m' 86 2).toInt = (m 86 2).toInt ∧ (RSX (CN (tC m) 5 (m 86 3).toInt) v.toInt (m' 86 3).toInt (m' 86 4).toInt) ∧ (m' lb 7).toInt = (m lb 7).toInt ∧ IFZ v.toInt (CDS lb m m' 14 (CND_ (tC m) 5 (m 86 3).toInt) ((m' 86 3).toInt - (m 86 3).toInt)))) 25 0 0 10 [.ref 86, .int 1, .int v3, .int y5] [] (mk T m6 n7 r) := by
    intro fuel10
    induction fuel10 with
    | zero => intro y5 m6 n7 b13 b14 b15 b16 b17 b18 b19 b20 I8 K9 z21; omega
    | succ fuel10 ih12 =>
      intro y5 m6 n7 b13 b14 b15 b16 b17 b18 b19 b20 I8 K9 z21
      have z22 : 0 ≤ (m6 86 3).toInt ∧ (m6 86 3).toInt ≤ 160 := I8 86 3
      have z23 : 0 ≤ (m6 86 2).toInt ∧ (m6 86 2).toInt ≤ 160 := I8 86 2
      have kgc := (show CN (tC m) 5 (m 86 3).toInt = CN (tC m) 5 (m6 86 3).toInt by assumption)
      have kt10 : tC m6 = tC m := tC_fz zR2 K9
      have kgz := (show CQZ (tC m) 5 lb m m6 (m 86 3).toInt (m6 86 3).toInt by assumption)
      have kgl := CQZ_b kgz
      refine pv_iload_n (M := mX7_readCondition) 3 dX7_readCondition_10 11 rfl rfl rfl ?_
      refine pv_sipush (M := mX7_readCondition) (v := 160) dX7_readCondition_11 14 rfl (by decide) ?_
      refine pv_icmp_ge (M := mX7_readCondition) (tgt := 65) dX7_readCondition_14 17 rfl (by decide) (fun c28 => ?_) (fun c28 => ?_)
      · have c28 := iv_le (X := 160) (Y := y5.toInt) c28 (by decide) rfl
        refine pv_aload_n (M := mX7_readCondition) 0 dX7_readCondition_65 66 rfl rfl rfl ?_
        refine mv_get (M := mX7_readCondition) (v := .ref lb) dX7_readCondition_66 FX7 1 wd281 (by decide) (tl86 hT) rfl R.2.2.2.1 69 rfl ?_
        refine pv_bipush (M := mX7_readCondition) (v := 124) dX7_readCondition_69 71 rfl (by decide) ?_
        refine pv_iload_n (M := mX7_readCondition) 2 dX7_readCondition_71 72 rfl rfl rfl ?_
        have z29 : (124 : Int32).toInt = 124 := by decide
        refine pv_callv (M := mX7_readCondition) (as := [.int 124, .int v3]) (st := []) (kc2 := 0) (ks2 := 0) dX7_readCondition_72 wd678 YX6_aimLeaps ⟨wd679, wd680⟩ (mk_get R.2.2.2.2.2.2.1) rfl rfl (s_X6_aimLeaps_vz g hT I8 lb R.2.2.2.2.2 124 v3 (by omega) (by omega)) rfl rfl (Nat.le_of_ble_eq_true rfl) (by decide) rfl rfl 75 rfl (fun rv h1 q30 => ?_)
        obtain ⟨m31, n32, rfl, rfl, I33, K34, rm31⟩ := q30
        replace rm31 : (m31 lb 7).toInt = (m6 lb 7).toInt ∧ AIMD lb m6 m31 (124 : Int) v3.toInt := by have q_ := rm31; (try rw [z29] at q_); exact q_
        have K34c := K34
        have w35 : (m31 86 3).toInt = (m6 86 3).toInt := congrArg Int32.toInt (K34 86 3 (wY_out (by omega) (by omega) (by omega)))
        have w36 : (m31 86 2).toInt = (m6 86 2).toInt := congrArg Int32.toInt (K34 86 2 (wY_out (by omega) (by omega) (by omega)))
        have w37 : (m31 86 4).toInt = (m6 86 4).toInt := congrArg Int32.toInt (K34 86 4 (wY_out (by omega) (by omega) (by omega)))
        have K34 := K9.trans (K34.sub (by first | exact wZ_wY | exact wZ_86))
        show PV _ _ _ _ _ _ _ 75 [.ref 86, .int 1, .int v3, .int y5] [] _
        have k75 := rm31.2
        refine pv_iconst (M := mX7_readCondition) (v := 1) dX7_readCondition_75 76 rfl (by decide) ?_
        have z39 : (1 : Int32).toInt = 1 := by decide
        exact pv_iret (M := mX7_readCondition) dX7_readCondition_76 rfl rfl ⟨_, _, _, rfl, rfl, I33, K34, by decide, by decide, ⟨by omega, by omega, by omega, (by first | exact Or.inl ⟨by decide, by rw [kgc, k27, LB_no (isB_no k27n (by rw [← k31]; omega))]; congr 1; omega⟩ | (exfalso; omega)), by omega, (by first | exact IFZ.is (by rw [show (m31 86 3).toInt = (m6 86 3).toInt by omega]; exact CRZ_e kzz (isB_no k27n (by rw [← k31]; omega)) k75 (by omega)) | exact IFZ.no (by omega))⟩⟩
      · have c28 := iv_nle (X := 160) (Y := y5.toInt) c28 (by decide) rfl
        refine pv_aload_n (M := mX7_readCondition) 0 dX7_readCondition_17 18 rfl rfl rfl ?_
        refine pv_iload_n (M := mX7_readCondition) 1 dX7_readCondition_18 19 rfl rfl rfl ?_
        have z40 : (1 : Int32).toInt = 1 := by decide
        refine pv_callv (M := mX7_readCondition) (as := [.int 1]) (st := []) (kc2 := 0) (ks2 := 0) dX7_readCondition_19 wd670 YX7_readPart ⟨wd672, wd13⟩ (mk_get (tl86 hT)) rfl rfl (s_X7_readPart_v1z g hT I8 R (by first | omega | assumption | exact (iv_rng _).2 | exact (iv_rng _).1 | decide) (TBC_eq hp1 kt10) (by first | omega | assumption | exact (iv_rng _).2 | exact (iv_rng _).1 | decide)) rfl rfl (Nat.le_of_ble_eq_true rfl) (by decide) rfl rfl 22 rfl (fun rv h1 q41 => ?_)
        obtain ⟨m42, n43, v46, rfl, rfl, I44, K45, pv46, qv46, rv46⟩ := q41
        replace rv46 : (m6 86 3).toInt ≤ (m42 86 3).toInt ∧ (m42 86 3).toInt ≤ (m42 86 2).toInt ∧ (m42 86 2).toInt = (m6 86 2).toInt ∧ ((v46.toInt = 0 ∨ (m6 86 3).toInt + 1 ≤ (m42 86 3).toInt) ∧ TRX (CN (tC m6) 5 (m6 86 3).toInt) (LB (tC m6) 5) (fun a => tC m6 a ≠ 38) v46.toInt (m42 86 3).toInt (m42 86 4).toInt) ∧ (m42 lb 7).toInt = (m6 lb 7).toInt ∧ IFZ v46.toInt (PTZ (tC m6) 5 lb m6 m42 (m6 86 3).toInt (m42 86 3).toInt) := by have q_ := rv46; (try rw [z40] at q_); exact q_
        have K45c := K45
        have K45 := K9.trans (K45.sub (fun _ _ q => q))
        show PV _ _ _ _ _ _ _ 22 [.ref 86, .int 1, .int v3, .int y5] [.int v46] _
        have k22 := rv46.2.2.2.1.2
        have k22p := rv46.2.2.2.1.1
        rw [kt10] at k22
        have k22z := rv46.2.2.2.2.2
        rw [kt10] at k22z
        refine pv_if_ne (M := mX7_readCondition) (tgt := 27) dX7_readCondition_22 25 rfl (by decide) (fun c52 => ?_) (fun c52 => ?_)
        · have c52 := iv_ne (X := v46.toInt) (Y := 0) c52 rfl (by decide)
          have k27 := (TRX_ok k22 (by omega)).1
          have k27n := (TRX_ok k22 (by omega)).2
          have kt27 : tC m42 = tC m := tC_fz zR2 K45
          have kzz : CRZ (tC m) 5 lb m m42 (m 86 3).toInt (m42 86 3).toInt := CQZ_p kgz (IFZ.get k22z (by omega))
          have kzb := CRZ_b kzz
          refine pv_aload_n (M := mX7_readCondition) 0 dX7_readCondition_27 28 rfl rfl rfl ?_
          refine pv_callv (M := mX7_readCondition) (as := []) (st := []) (kc2 := 0) (ks2 := 0) dX7_readCondition_28 wd527 YX7_peek ⟨wd529, wd2⟩ (mk_get (tl86 hT)) rfl rfl (s_X7_peek_vx g hT I44 R) rfl rfl (Nat.le_of_ble_eq_true rfl) (by decide) rfl rfl 31 rfl (fun rv h1 q58 => ?_)
          obtain ⟨v59, rfl, rfl, pv59, qv59, rv59⟩ := q58
          replace rv59 : v59.toInt = tC m42 (m42 86 3).toInt ∧ (v59.toInt = -1 ∨ (m42 86 3).toInt < (m42 86 2).toInt) := rv59
          show PV _ _ _ _ _ _ _ 31 [.ref 86, .int 1, .int v3, .int y5] [.int v59] _
          have k31 := rv59.1
          have k31b := rv59.2
          rw [kt27] at k31
          refine pv_bipush (M := mX7_readCondition) (v := 124) dX7_readCondition_31 33 rfl (by decide) ?_
          refine pv_icmp_eq (M := mX7_readCondition) (tgt := 39) dX7_readCondition_33 36 rfl (by decide) (fun c63 => ?_) (fun c63 => ?_)
          · have c63 := iv_eq (X := v59.toInt) (Y := 124) c63 rfl (by decide)
            have kB : isB (tC m (m42 86 3).toInt) = true := isB_y (by omega)
            refine pv_aload_n (M := mX7_readCondition) 0 dX7_readCondition_39 40 rfl rfl rfl ?_
            refine mv_get (M := mX7_readCondition) (v := .ref lb) dX7_readCondition_40 FX7 1 wd281 (by decide) (tl86 hT) rfl R.2.2.2.1 43 rfl ?_
            refine pv_bipush (M := mX7_readCondition) (v := 124) dX7_readCondition_43 45 rfl (by decide) ?_
            refine pv_iconst (M := mX7_readCondition) (v := (-1)) dX7_readCondition_45 46 rfl (by decide) ?_
            have z65 : (124 : Int32).toInt = 124 := by decide
            have z66 : ((-1) : Int32).toInt = (-1) := by decide
            refine pv_callv (M := mX7_readCondition) (as := [.int 124, .int (-1)]) (st := []) (kc2 := 0) (ks2 := 0) dX7_readCondition_46 wd567 YX6_emit ⟨wd568, wd569⟩ (mk_get R.2.2.2.2.2.2.1) rfl rfl (s_X6_emit_vz g hT I44 lb R.2.2.2.2.2 124 (-1) (by decide) (by decide)) rfl rfl (Nat.le_of_ble_eq_true rfl) (by decide) rfl rfl 49 rfl (fun rv h1 q67 => ?_)
            obtain ⟨m68, n69, rfl, rfl, I70, K71, rm68⟩ := q67
            replace rm68 : (m68 lb 7).toInt = (m42 lb 7).toInt ∧ ((m42 lb 2).toInt < 160 → EMT lb m42 m68 (124 : Int) ((-1) : Int32)) := by have q_ := rm68; (try rw [z65] at q_); (try rw [z66] at q_); exact q_
            have K71c := K71
            have w72 : (m68 86 3).toInt = (m42 86 3).toInt := congrArg Int32.toInt (K71 86 3 (wY_out (by omega) (by omega) (by omega)))
            have w73 : (m68 86 2).toInt = (m42 86 2).toInt := congrArg Int32.toInt (K71 86 2 (wY_out (by omega) (by omega) (by omega)))
            have w74 : (m68 86 4).toInt = (m42 86 4).toInt := congrArg Int32.toInt (K71 86 4 (wY_out (by omega) (by omega) (by omega)))
            have K71 := K45.trans (K71.sub (by first | exact wZ_wY | exact wZ_86))
            show PV _ _ _ _ _ _ _ 49 [.ref 86, .int 1, .int v3, .int y5] [] _
            have k49 := rm68.2 (by omega)
            refine pv_aload_n (M := mX7_readCondition) 0 dX7_readCondition_49 50 rfl rfl rfl ?_
            refine pv_dup (M := mX7_readCondition) dX7_readCondition_50 51 rfl rfl ?_
            refine iv_get (M := mX7_readCondition) (l1 := 0) (l2 := 160) dX7_readCondition_51 FX7 3 wd283 (by decide) (tl86 hT) rfl I70 rfl 54 rfl (fun v76 ev76 pv76 qv76 => ?_)
            have wv76 : v76.toInt = (m68 86 3).toInt := congrArg Int32.toInt ev76
            refine pv_iconst (M := mX7_readCondition) (v := 1) dX7_readCondition_54 55 rfl (by decide) ?_
            refine iv_iadd (M := mX7_readCondition) (X := v76.toInt) (Y := 1) dX7_readCondition_55 56 rfl rfl (by decide) (by omega) (by omega) (fun v77 ev77 => ?_)
            refine iv_put (M := mX7_readCondition) (l1 := 0) (l2 := 160) dX7_readCondition_56 FX7 3 wd283 (by decide) rfl (tl86 hT) rfl rfl rfl I70 rfl (by omega) (by omega) 59 rfl (fun m78 e81 I79 => ?_)
            have K80 := K71.set e81 (by first | rfl | decide)
            have w82 : (m78 86 3).toInt = v77.toInt := by rw [e81, up2_eq]
            have w83 : (m78 86 2).toInt = (m68 86 2).toInt := by rw [e81, up2_ne (by omega)]
            have w84 : (m78 86 4).toInt = (m68 86 4).toInt := by rw [e81, up2_ne (by omega)]
            have w85 : (m78 lb 7).toInt = (m68 lb 7).toInt := by rw [e81, up2_ne (by omega)]
            have w86 : (m78 lb 2).toInt = (m68 lb 2).toInt := by rw [e81, up2_ne (by omega)]
            refine iv_inc (M := mX7_readCondition) (C := 1) dX7_readCondition_59 62 rfl rfl (by decide) rfl rfl (by decide) (by omega) (by omega) (fun v87 ev87 => ?_)
            show PV _ _ _ _ _ _ _ 62 [.ref 86, .int 1, .int v3, .int v87] [] _
            refine pv_goto (M := mX7_readCondition) (tgt := 10) dX7_readCondition_62 (by decide) ?_
            have kbc : CN (tC m) 5 (m 86 3).toInt = CN (tC m) 5 (m78 86 3).toInt := by rw [kgc, k27, LB_cn kTX (by omega) kB]; congr 1; omega
            have kbz : CQZ (tC m) 5 lb m m78 (m 86 3).toInt (m78 86 3).toInt := CRZ_l kzz kTX (by omega) (show tC m (m42 86 3).toInt = 124 by omega) k49 (by decide) (SAML.set zR2 e81) (by omega)
            exact ih12 v87 m78 n69 (by first | omega | assumption | exact (iv_rng _).2 | exact (iv_rng _).1 | decide) (by first | omega | assumption | exact (iv_rng _).2 | exact (iv_rng _).1 | decide) (by first | omega | assumption | (show (m78 86 3).toInt ≤ (m78 86 2).toInt; omega) | decide) (by first | omega | assumption | (show (m78 86 2).toInt = (m 86 2).toInt; omega) | decide) (by first | omega | assumption | (show (m78 lb 7).toInt = (m lb 7).toInt; omega) | decide) (by first | omega | assumption | (show (m 86 3).toInt + 2 * v87.toInt ≤ (m78 86 3).toInt; omega) | decide) kbc kbz I79 K80 (by omega)
          · have c63 := iv_ne (X := v59.toInt) (Y := 124) c63 rfl (by decide)
            refine pv_goto (M := mX7_readCondition) (tgt := 65) dX7_readCondition_36 (by decide) ?_
            refine pv_aload_n (M := mX7_readCondition) 0 dX7_readCondition_65 66 rfl rfl rfl ?_
            refine mv_get (M := mX7_readCondition) (v := .ref lb) dX7_readCondition_66 FX7 1 wd281 (by decide) (tl86 hT) rfl R.2.2.2.1 69 rfl ?_
            refine pv_bipush (M := mX7_readCondition) (v := 124) dX7_readCondition_69 71 rfl (by decide) ?_
            refine pv_iload_n (M := mX7_readCondition) 2 dX7_readCondition_71 72 rfl rfl rfl ?_
            have z90 : (124 : Int32).toInt = 124 := by decide
            refine pv_callv (M := mX7_readCondition) (as := [.int 124, .int v3]) (st := []) (kc2 := 0) (ks2 := 0) dX7_readCondition_72 wd678 YX6_aimLeaps ⟨wd679, wd680⟩ (mk_get R.2.2.2.2.2.2.1) rfl rfl (s_X6_aimLeaps_vz g hT I44 lb R.2.2.2.2.2 124 v3 (by omega) (by omega)) rfl rfl (Nat.le_of_ble_eq_true rfl) (by decide) rfl rfl 75 rfl (fun rv h1 q91 => ?_)
            obtain ⟨m92, n93, rfl, rfl, I94, K95, rm92⟩ := q91
            replace rm92 : (m92 lb 7).toInt = (m42 lb 7).toInt ∧ AIMD lb m42 m92 (124 : Int) v3.toInt := by have q_ := rm92; (try rw [z90] at q_); exact q_
            have K95c := K95
            have w96 : (m92 86 3).toInt = (m42 86 3).toInt := congrArg Int32.toInt (K95 86 3 (wY_out (by omega) (by omega) (by omega)))
            have w97 : (m92 86 2).toInt = (m42 86 2).toInt := congrArg Int32.toInt (K95 86 2 (wY_out (by omega) (by omega) (by omega)))
            have w98 : (m92 86 4).toInt = (m42 86 4).toInt := congrArg Int32.toInt (K95 86 4 (wY_out (by omega) (by omega) (by omega)))
            have K95 := K45.trans (K95.sub (by first | exact wZ_wY | exact wZ_86))
            show PV _ _ _ _ _ _ _ 75 [.ref 86, .int 1, .int v3, .int y5] [] _
            have k75 := rm92.2
            refine pv_iconst (M := mX7_readCondition) (v := 1) dX7_readCondition_75 76 rfl (by decide) ?_
            have z100 : (1 : Int32).toInt = 1 := by decide
            exact pv_iret (M := mX7_readCondition) dX7_readCondition_76 rfl rfl ⟨_, _, _, rfl, rfl, I94, K95, by decide, by decide, ⟨by omega, by omega, by omega, (by first | exact Or.inl ⟨by decide, by rw [kgc, k27, LB_no (isB_no k27n (by rw [← k31]; omega))]; congr 1; omega⟩ | (exfalso; omega)), by omega, (by first | exact IFZ.is (by rw [show (m92 86 3).toInt = (m42 86 3).toInt by omega]; exact CRZ_e kzz (isB_no k27n (by rw [← k31]; omega)) k75 (by omega)) | exact IFZ.no (by omega))⟩⟩
        · have c52 := iv_eq (X := v46.toInt) (Y := 0) c52 rfl (by decide)
          refine pv_iconst (M := mX7_readCondition) (v := 0) dX7_readCondition_25 26 rfl (by decide) ?_
          have z101 : (0 : Int32).toInt = 0 := by decide
          exact pv_iret (M := mX7_readCondition) dX7_readCondition_26 rfl rfl ⟨_, _, _, rfl, rfl, I44, K45, by decide, by decide, ⟨by omega, by omega, by omega, Or.inr ⟨by decide, by rw [kgc]; exact TRX_fl k22 (by omega)⟩, by omega, IFZ.no (by first | decide | omega)⟩⟩
  have z102 : (0 : Int32).toInt = 0 := by decide
  exact lp11 (((160 - 0) : Int).toNat + 1) 0 m n (by first | omega | assumption | exact (iv_rng _).2 | exact (iv_rng _).1 | decide) (by first | omega | assumption | exact (iv_rng _).2 | exact (iv_rng _).1 | decide) (by first | omega | assumption | (show (m 86 3).toInt ≤ (m 86 2).toInt; omega) | decide) (by first | omega | assumption | (show (m 86 2).toInt = (m 86 2).toInt; omega) | decide) (by first | omega | assumption | (show (m lb 7).toInt = (m lb 7).toInt; omega) | decide) (by first | omega | assumption | (show (m 86 3).toInt + 2 * 0 ≤ (m 86 3).toInt; omega) | decide) rfl (CQZ_0 (by omega)) I Kp (by omega)
