set_option maxHeartbeats 2000000 in
set_option maxRecDepth 20000 in
theorem s_X7_readPiece_v6x (g : pv_G) {T : List mv_T} {m : Nat → Nat → Int32} {n : Nat → Nat → Int64} {r : Nat → Value} {la lb : Nat} (hT : TX T) (I : IV BB m) (R : RX T r la lb) (hp0 : (m 86 3).toInt ≤ (m 86 2).toInt) (hp1 : TBC m) : PM g mX7_readPiece yX7_readPiece (sqI T BB wR7 r m 0 1 (fun m' v => (m 86 3).toInt ≤ (m' 86 3).toInt ∧ (m' 86 3).toInt ≤ (m' 86 2).toInt ∧ (m' 86 2).toInt = (m 86 2).toInt ∧ (RSX (PI (tC m) 0 (m 86 3).toInt) v.toInt (m' 86 3).toInt (m' 86 4).toInt) ∧ (m' lb 7).toInt = (m lb 7).toInt)) 8 0 0 [.ref 86, .int 6] (mk T m n r) := by
  have Kp : fr wR7 m m := fr.rf
  have R0 := R
  have zR := R.2.2.2.2.1.1
  have zR2 := R.2.2.2.2.2.1
  have z163 : 0 ≤ (m 86 3).toInt ∧ (m 86 3).toInt ≤ 160 := I 86 3
  have z164 : 0 ≤ (m 86 2).toInt ∧ (m 86 2).toInt ≤ 160 := I 86 2
  refine PM.of 1 (lo := [.ref 86, .int 6, pv_U]) rfl (by decide) rfl rfl (Nat.le_of_ble_eq_true rfl) ?_
  refine pv_aload_n (M := mX7_readPiece) 0 dX7_readPiece_0 1 rfl rfl rfl ?_
  refine pv_callv (M := mX7_readPiece) (as := []) (st := []) (kc2 := 0) (ks2 := 0) dX7_readPiece_1 wd527 YX7_peek ⟨wd529, wd2⟩ (mk_get (tl86 hT)) rfl rfl (s_X7_peek_vx g hT I R) rfl rfl (Nat.le_of_ble_eq_true rfl) (by decide) rfl rfl 4 rfl (fun rv h1 q1 => ?_)
  obtain ⟨v2, rfl, rfl, pv2, qv2, rv2⟩ := q1
  replace rv2 : v2.toInt = tC m (m 86 3).toInt ∧ (v2.toInt = -1 ∨ (m 86 3).toInt < (m 86 2).toInt) := rv2
  show PV _ _ _ _ _ _ _ 4 [.ref 86, .int 6, pv_U] [.int v2] _
  have k4 := rv2.1
  have k4b := rv2.2
  refine pv_bipush (M := mX7_readPiece) (v := 33) dX7_readPiece_4 6 rfl (by decide) ?_
  refine pv_icmp_ne (M := mX7_readPiece) (tgt := 41) dX7_readPiece_6 9 rfl (by decide) (fun c5 => ?_) (fun c5 => ?_)
  · have c5 := iv_ne (X := v2.toInt) (Y := 33) c5 rfl (by decide)
    have kn33 : tC m (m 86 3).toInt ≠ 33 := by omega
    refine pv_aload_n (M := mX7_readPiece) 0 dX7_readPiece_41 42 rfl rfl rfl ?_
    refine pv_callv (M := mX7_readPiece) (as := []) (st := []) (kc2 := 0) (ks2 := 0) dX7_readPiece_42 wd527 YX7_peek ⟨wd529, wd2⟩ (mk_get (tl86 hT)) rfl rfl (s_X7_peek_vx g hT I R) rfl rfl (Nat.le_of_ble_eq_true rfl) (by decide) rfl rfl 45 rfl (fun rv h1 q7 => ?_)
    obtain ⟨v8, rfl, rfl, pv8, qv8, rv8⟩ := q7
    replace rv8 : v8.toInt = tC m (m 86 3).toInt ∧ (v8.toInt = -1 ∨ (m 86 3).toInt < (m 86 2).toInt) := rv8
    show PV _ _ _ _ _ _ _ 45 [.ref 86, .int 6, pv_U] [.int v8] _
    have k45 := rv8.1
    have k45b := rv8.2
    refine pv_bipush (M := mX7_readPiece) (v := 40) dX7_readPiece_45 47 rfl (by decide) ?_
    refine pv_icmp_ne (M := mX7_readPiece) (tgt := 83) dX7_readPiece_47 50 rfl (by decide) (fun c11 => ?_) (fun c11 => ?_)
    · have c11 := iv_ne (X := v8.toInt) (Y := 40) c11 rfl (by decide)
      have kn40 : tC m (m 86 3).toInt ≠ 40 := by omega
      refine pv_aload_n (M := mX7_readPiece) 0 dX7_readPiece_83 84 rfl rfl rfl ?_
      refine pv_iload_n (M := mX7_readPiece) 1 dX7_readPiece_84 85 rfl rfl rfl ?_
      have z13 : (6 : Int32).toInt = 6 := by decide
      refine pv_callv (M := mX7_readPiece) (as := [.int 6]) (st := []) (kc2 := 0) (ks2 := 0) dX7_readPiece_85 wd539 YX7_readSum ⟨wd541, wd4⟩ (mk_get (tl86 hT)) rfl rfl (s_X7_readSum_v6x g hT I R (by first | omega | assumption | exact (iv_rng _).2 | exact (iv_rng _).1 | decide) hp1) rfl rfl (Nat.le_of_ble_eq_true rfl) (by decide) rfl rfl 88 rfl (fun rv h1 q14 => ?_)
      obtain ⟨m15, n16, v19, rfl, rfl, I17, K18, pv19, qv19, rv19⟩ := q14
      replace rv19 : (m 86 3).toInt ≤ (m15 86 3).toInt ∧ (m15 86 3).toInt ≤ (m15 86 2).toInt ∧ (m15 86 2).toInt = (m 86 2).toInt ∧ (RSX (SU (tC m) 0 (m 86 3).toInt) v19.toInt (m15 86 3).toInt (m15 86 4).toInt) ∧ (m15 lb 7).toInt = (m lb 7).toInt := by have q_ := rv19; (try rw [z13] at q_); exact q_
      have K18c := K18
      have K18 := Kp.trans (K18.sub (fun _ _ q => q))
      show PV _ _ _ _ _ _ _ 88 [.ref 86, .int 6, pv_U] [.int v19] _
      have k88 := rv19.2.2.2.1
      refine pv_if_ne (M := mX7_readPiece) (tgt := 93) dX7_readPiece_88 91 rfl (by decide) (fun c21 => ?_) (fun c21 => ?_)
      · have c21 := iv_ne (X := v19.toInt) (Y := 0) c21 rfl (by decide)
        have k93 := RSX_ok k88 (by omega)
        have kt93 : tC m15 = tC m := tC_eq (K18 86 2 rfl) (fun j => K18 87 j rfl)
        have kA93 : (m15 86 3).toInt = (m15 86 3).toInt := rfl
        refine pv_aload_n (M := mX7_readPiece) 0 dX7_readPiece_93 94 rfl rfl rfl ?_
        refine pv_callv (M := mX7_readPiece) (as := []) (st := []) (kc2 := 0) (ks2 := 0) dX7_readPiece_94 wd527 YX7_peek ⟨wd529, wd2⟩ (mk_get (tl86 hT)) rfl rfl (s_X7_peek_vx g hT I17 R) rfl rfl (Nat.le_of_ble_eq_true rfl) (by decide) rfl rfl 97 rfl (fun rv h1 q25 => ?_)
        obtain ⟨v26, rfl, rfl, pv26, qv26, rv26⟩ := q25
        replace rv26 : v26.toInt = tC m15 (m15 86 3).toInt ∧ (v26.toInt = -1 ∨ (m15 86 3).toInt < (m15 86 2).toInt) := rv26
        show PV _ _ _ _ _ _ _ 97 [.ref 86, .int 6, pv_U] [.int v26] _
        have k97 := rv26.1
        have k97b := rv26.2
        rw [kt93] at k97
        refine pv_istore_n (M := mX7_readPiece) 2 (lo2 := [.ref 86, .int 6, .int v26]) dX7_readPiece_97 98 rfl rfl (by decide) rfl rfl ?_
        refine pv_iload_n (M := mX7_readPiece) 2 dX7_readPiece_98 99 rfl rfl rfl ?_
        refine pv_bipush (M := mX7_readPiece) (v := 60) dX7_readPiece_99 101 rfl (by decide) ?_
        refine pv_icmp_eq (M := mX7_readPiece) (tgt := 122) dX7_readPiece_101 104 rfl (by decide) (fun c30 => ?_) (fun c30 => ?_)
        · have c30 := iv_eq (X := v26.toInt) (Y := 60) c30 rfl (by decide)
          have kC : isC (tC m (m15 86 3).toInt) = true := by rw [← k97]; exact isC_y (by omega)
          refine pv_aload_n (M := mX7_readPiece) 0 dX7_readPiece_122 123 rfl rfl rfl ?_
          refine pv_dup (M := mX7_readPiece) dX7_readPiece_123 124 rfl rfl ?_
          refine iv_get (M := mX7_readPiece) (l1 := 0) (l2 := 160) dX7_readPiece_124 FX7 3 wd283 (by decide) (tl86 hT) rfl I17 rfl 127 rfl (fun v32 ev32 pv32 qv32 => ?_)
          have wv32 : v32.toInt = (m15 86 3).toInt := congrArg Int32.toInt ev32
          refine pv_iconst (M := mX7_readPiece) (v := 1) dX7_readPiece_127 128 rfl (by decide) ?_
          refine iv_iadd (M := mX7_readPiece) (X := v32.toInt) (Y := 1) dX7_readPiece_128 129 rfl rfl (by decide) (by omega) (by omega) (fun v33 ev33 => ?_)
          refine iv_put (M := mX7_readPiece) (l1 := 0) (l2 := 160) dX7_readPiece_129 FX7 3 wd283 (by decide) rfl (tl86 hT) rfl rfl rfl I17 rfl (by omega) (by omega) 132 rfl (fun m34 e37 I35 => ?_)
          have K36 := K18.set e37 (by decide)
          have w38 : (m34 86 3).toInt = v33.toInt := by rw [e37, up2_eq]
          have w39 : (m34 86 2).toInt = (m15 86 2).toInt := by rw [e37, up2_ne (by omega)]
          have w40 : (m34 86 4).toInt = (m15 86 4).toInt := by rw [e37, up2_ne (by omega)]
          have w41 : (m34 lb 7).toInt = (m15 lb 7).toInt := by rw [e37, up2_ne (by omega)]
          have kt132 : tC m34 = tC m := tC_eq (K36 86 2 rfl) (fun j => K36 87 j rfl)
          have kp132 : (m34 86 3).toInt = (m15 86 3).toInt + 1 := by omega
          refine pv_aload_n (M := mX7_readPiece) 0 dX7_readPiece_132 133 rfl rfl rfl ?_
          refine pv_iload_n (M := mX7_readPiece) 1 dX7_readPiece_133 134 rfl rfl rfl ?_
          have z44 : (6 : Int32).toInt = 6 := by decide
          refine pv_callv (M := mX7_readPiece) (as := [.int 6]) (st := []) (kc2 := 0) (ks2 := 0) dX7_readPiece_134 wd539 YX7_readSum ⟨wd541, wd4⟩ (mk_get (tl86 hT)) rfl rfl (s_X7_readSum_v6x g hT I35 R (by first | omega | assumption | exact (iv_rng _).2 | exact (iv_rng _).1 | decide) (TBC_eq hp1 kt132)) rfl rfl (Nat.le_of_ble_eq_true rfl) (by decide) rfl rfl 137 rfl (fun rv h1 q45 => ?_)
          obtain ⟨m46, n47, v50, rfl, rfl, I48, K49, pv50, qv50, rv50⟩ := q45
          replace rv50 : (m34 86 3).toInt ≤ (m46 86 3).toInt ∧ (m46 86 3).toInt ≤ (m46 86 2).toInt ∧ (m46 86 2).toInt = (m34 86 2).toInt ∧ (RSX (SU (tC m34) 0 (m34 86 3).toInt) v50.toInt (m46 86 3).toInt (m46 86 4).toInt) ∧ (m46 lb 7).toInt = (m34 lb 7).toInt := by have q_ := rv50; (try rw [z44] at q_); exact q_
          have K49c := K49
          have K49 := K36.trans (K49.sub (fun _ _ q => q))
          show PV _ _ _ _ _ _ _ 137 [.ref 86, .int 6, .int v26] [.int v50] _
          have k137 := rv50.2.2.2.1
          rw [kt132, kp132] at k137
          refine pv_if_ne (M := mX7_readPiece) (tgt := 142) dX7_readPiece_137 140 rfl (by decide) (fun c53 => ?_) (fun c53 => ?_)
          · have c53 := iv_ne (X := v50.toInt) (Y := 0) c53 rfl (by decide)
            refine pv_aload_n (M := mX7_readPiece) 0 dX7_readPiece_142 143 rfl rfl rfl ?_
            refine mv_get (M := mX7_readPiece) (v := .ref lb) dX7_readPiece_143 FX7 1 wd281 (by decide) (tl86 hT) rfl R.2.2.2.1 146 rfl ?_
            refine pv_iload_n (M := mX7_readPiece) 2 dX7_readPiece_146 147 rfl rfl rfl ?_
            refine pv_iconst (M := mX7_readPiece) (v := 0) dX7_readPiece_147 148 rfl (by decide) ?_
            have z54 : (0 : Int32).toInt = 0 := by decide
            refine pv_callv (M := mX7_readPiece) (as := [.int v26, .int 0]) (st := []) (kc2 := 0) (ks2 := 0) dX7_readPiece_148 wd567 YX6_emit ⟨wd568, wd569⟩ (mk_get R.2.2.2.2.2.2.1) rfl rfl (s_X6_emit_vx g hT I48 lb R.2.2.2.2.2 v26 0 (by decide) (by decide)) rfl rfl (Nat.le_of_ble_eq_true rfl) (by decide) rfl rfl 151 rfl (fun rv h1 q55 => ?_)
            obtain ⟨m56, n57, rfl, rfl, I58, K59, rm56⟩ := q55
            replace rm56 : (m56 lb 7).toInt = (m46 lb 7).toInt := rm56
            have K59c := K59
            have w60 : (m56 86 3).toInt = (m46 86 3).toInt := congrArg Int32.toInt (K59 86 3 (wr_out (by omega)))
            have w61 : (m56 86 2).toInt = (m46 86 2).toInt := congrArg Int32.toInt (K59 86 2 (wr_out (by omega)))
            have w62 : (m56 86 4).toInt = (m46 86 4).toInt := congrArg Int32.toInt (K59 86 4 (wr_out (by omega)))
            have K59 := K49.trans (K59.sub (by first | exact wR7_r (by omega) | exact wR7_wr))
            show PV _ _ _ _ _ _ _ 151 [.ref 86, .int 6, .int v26] [] _
            refine pv_iconst (M := mX7_readPiece) (v := 1) dX7_readPiece_151 152 rfl (by decide) ?_
            have z63 : (1 : Int32).toInt = 1 := by decide
            exact pv_iret (M := mX7_readPiece) dX7_readPiece_152 rfl rfl ⟨_, _, _, rfl, rfl, I58, K59, by decide, by decide, ⟨by omega, by omega, by omega, Or.inl ⟨by decide, by rw [PI_cm kn33 kn40, CM_ok k93 kC, RSX_ok k137 (by omega), show (m46 86 3).toInt = (m56 86 3).toInt by omega]⟩, by omega⟩⟩
          · have c53 := iv_eq (X := v50.toInt) (Y := 0) c53 rfl (by decide)
            refine pv_iconst (M := mX7_readPiece) (v := 0) dX7_readPiece_140 141 rfl (by decide) ?_
            have z64 : (0 : Int32).toInt = 0 := by decide
            exact pv_iret (M := mX7_readPiece) dX7_readPiece_141 rfl rfl ⟨_, _, _, rfl, rfl, I48, K49, by decide, by decide, ⟨by omega, by omega, by omega, Or.inr ⟨by decide, by rw [PI_cm kn33 kn40, CM_ok k93 kC]; exact RSX_fl k137 (by omega)⟩, by omega⟩⟩
        · have c30 := iv_ne (X := v26.toInt) (Y := 60) c30 rfl (by decide)
          refine pv_iload_n (M := mX7_readPiece) 2 dX7_readPiece_104 105 rfl rfl rfl ?_
          refine pv_bipush (M := mX7_readPiece) (v := 62) dX7_readPiece_105 107 rfl (by decide) ?_
          refine pv_icmp_eq (M := mX7_readPiece) (tgt := 122) dX7_readPiece_107 110 rfl (by decide) (fun c65 => ?_) (fun c65 => ?_)
          · have c65 := iv_eq (X := v26.toInt) (Y := 62) c65 rfl (by decide)
            have kC : isC (tC m (m15 86 3).toInt) = true := by rw [← k97]; exact isC_y (by omega)
            refine pv_aload_n (M := mX7_readPiece) 0 dX7_readPiece_122 123 rfl rfl rfl ?_
            refine pv_dup (M := mX7_readPiece) dX7_readPiece_123 124 rfl rfl ?_
            refine iv_get (M := mX7_readPiece) (l1 := 0) (l2 := 160) dX7_readPiece_124 FX7 3 wd283 (by decide) (tl86 hT) rfl I17 rfl 127 rfl (fun v67 ev67 pv67 qv67 => ?_)
            have wv67 : v67.toInt = (m15 86 3).toInt := congrArg Int32.toInt ev67
            refine pv_iconst (M := mX7_readPiece) (v := 1) dX7_readPiece_127 128 rfl (by decide) ?_
            refine iv_iadd (M := mX7_readPiece) (X := v67.toInt) (Y := 1) dX7_readPiece_128 129 rfl rfl (by decide) (by omega) (by omega) (fun v68 ev68 => ?_)
            refine iv_put (M := mX7_readPiece) (l1 := 0) (l2 := 160) dX7_readPiece_129 FX7 3 wd283 (by decide) rfl (tl86 hT) rfl rfl rfl I17 rfl (by omega) (by omega) 132 rfl (fun m69 e72 I70 => ?_)
            have K71 := K18.set e72 (by decide)
            have w73 : (m69 86 3).toInt = v68.toInt := by rw [e72, up2_eq]
            have w74 : (m69 86 2).toInt = (m15 86 2).toInt := by rw [e72, up2_ne (by omega)]
            have w75 : (m69 86 4).toInt = (m15 86 4).toInt := by rw [e72, up2_ne (by omega)]
            have w76 : (m69 lb 7).toInt = (m15 lb 7).toInt := by rw [e72, up2_ne (by omega)]
            have kt132 : tC m69 = tC m := tC_eq (K71 86 2 rfl) (fun j => K71 87 j rfl)
            have kp132 : (m69 86 3).toInt = (m15 86 3).toInt + 1 := by omega
            refine pv_aload_n (M := mX7_readPiece) 0 dX7_readPiece_132 133 rfl rfl rfl ?_
            refine pv_iload_n (M := mX7_readPiece) 1 dX7_readPiece_133 134 rfl rfl rfl ?_
            have z79 : (6 : Int32).toInt = 6 := by decide
            refine pv_callv (M := mX7_readPiece) (as := [.int 6]) (st := []) (kc2 := 0) (ks2 := 0) dX7_readPiece_134 wd539 YX7_readSum ⟨wd541, wd4⟩ (mk_get (tl86 hT)) rfl rfl (s_X7_readSum_v6x g hT I70 R (by first | omega | assumption | exact (iv_rng _).2 | exact (iv_rng _).1 | decide) (TBC_eq hp1 kt132)) rfl rfl (Nat.le_of_ble_eq_true rfl) (by decide) rfl rfl 137 rfl (fun rv h1 q80 => ?_)
            obtain ⟨m81, n82, v85, rfl, rfl, I83, K84, pv85, qv85, rv85⟩ := q80
            replace rv85 : (m69 86 3).toInt ≤ (m81 86 3).toInt ∧ (m81 86 3).toInt ≤ (m81 86 2).toInt ∧ (m81 86 2).toInt = (m69 86 2).toInt ∧ (RSX (SU (tC m69) 0 (m69 86 3).toInt) v85.toInt (m81 86 3).toInt (m81 86 4).toInt) ∧ (m81 lb 7).toInt = (m69 lb 7).toInt := by have q_ := rv85; (try rw [z79] at q_); exact q_
            have K84c := K84
            have K84 := K71.trans (K84.sub (fun _ _ q => q))
            show PV _ _ _ _ _ _ _ 137 [.ref 86, .int 6, .int v26] [.int v85] _
            have k137 := rv85.2.2.2.1
            rw [kt132, kp132] at k137
            refine pv_if_ne (M := mX7_readPiece) (tgt := 142) dX7_readPiece_137 140 rfl (by decide) (fun c88 => ?_) (fun c88 => ?_)
            · have c88 := iv_ne (X := v85.toInt) (Y := 0) c88 rfl (by decide)
              refine pv_aload_n (M := mX7_readPiece) 0 dX7_readPiece_142 143 rfl rfl rfl ?_
              refine mv_get (M := mX7_readPiece) (v := .ref lb) dX7_readPiece_143 FX7 1 wd281 (by decide) (tl86 hT) rfl R.2.2.2.1 146 rfl ?_
              refine pv_iload_n (M := mX7_readPiece) 2 dX7_readPiece_146 147 rfl rfl rfl ?_
              refine pv_iconst (M := mX7_readPiece) (v := 0) dX7_readPiece_147 148 rfl (by decide) ?_
              have z89 : (0 : Int32).toInt = 0 := by decide
              refine pv_callv (M := mX7_readPiece) (as := [.int v26, .int 0]) (st := []) (kc2 := 0) (ks2 := 0) dX7_readPiece_148 wd567 YX6_emit ⟨wd568, wd569⟩ (mk_get R.2.2.2.2.2.2.1) rfl rfl (s_X6_emit_vx g hT I83 lb R.2.2.2.2.2 v26 0 (by decide) (by decide)) rfl rfl (Nat.le_of_ble_eq_true rfl) (by decide) rfl rfl 151 rfl (fun rv h1 q90 => ?_)
              obtain ⟨m91, n92, rfl, rfl, I93, K94, rm91⟩ := q90
              replace rm91 : (m91 lb 7).toInt = (m81 lb 7).toInt := rm91
              have K94c := K94
              have w95 : (m91 86 3).toInt = (m81 86 3).toInt := congrArg Int32.toInt (K94 86 3 (wr_out (by omega)))
              have w96 : (m91 86 2).toInt = (m81 86 2).toInt := congrArg Int32.toInt (K94 86 2 (wr_out (by omega)))
              have w97 : (m91 86 4).toInt = (m81 86 4).toInt := congrArg Int32.toInt (K94 86 4 (wr_out (by omega)))
              have K94 := K84.trans (K94.sub (by first | exact wR7_r (by omega) | exact wR7_wr))
              show PV _ _ _ _ _ _ _ 151 [.ref 86, .int 6, .int v26] [] _
              refine pv_iconst (M := mX7_readPiece) (v := 1) dX7_readPiece_151 152 rfl (by decide) ?_
              have z98 : (1 : Int32).toInt = 1 := by decide
              exact pv_iret (M := mX7_readPiece) dX7_readPiece_152 rfl rfl ⟨_, _, _, rfl, rfl, I93, K94, by decide, by decide, ⟨by omega, by omega, by omega, Or.inl ⟨by decide, by rw [PI_cm kn33 kn40, CM_ok k93 kC, RSX_ok k137 (by omega), show (m81 86 3).toInt = (m91 86 3).toInt by omega]⟩, by omega⟩⟩
            · have c88 := iv_eq (X := v85.toInt) (Y := 0) c88 rfl (by decide)
              refine pv_iconst (M := mX7_readPiece) (v := 0) dX7_readPiece_140 141 rfl (by decide) ?_
              have z99 : (0 : Int32).toInt = 0 := by decide
              exact pv_iret (M := mX7_readPiece) dX7_readPiece_141 rfl rfl ⟨_, _, _, rfl, rfl, I83, K84, by decide, by decide, ⟨by omega, by omega, by omega, Or.inr ⟨by decide, by rw [PI_cm kn33 kn40, CM_ok k93 kC]; exact RSX_fl k137 (by omega)⟩, by omega⟩⟩
          · have c65 := iv_ne (X := v26.toInt) (Y := 62) c65 rfl (by decide)
            refine pv_iload_n (M := mX7_readPiece) 2 dX7_readPiece_110 111 rfl rfl rfl ?_
            refine pv_bipush (M := mX7_readPiece) (v := 61) dX7_readPiece_111 113 rfl (by decide) ?_
            refine pv_icmp_eq (M := mX7_readPiece) (tgt := 122) dX7_readPiece_113 116 rfl (by decide) (fun c100 => ?_) (fun c100 => ?_)
            · have c100 := iv_eq (X := v26.toInt) (Y := 61) c100 rfl (by decide)
              have kC : isC (tC m (m15 86 3).toInt) = true := by rw [← k97]; exact isC_y (by omega)
              refine pv_aload_n (M := mX7_readPiece) 0 dX7_readPiece_122 123 rfl rfl rfl ?_
              refine pv_dup (M := mX7_readPiece) dX7_readPiece_123 124 rfl rfl ?_
              refine iv_get (M := mX7_readPiece) (l1 := 0) (l2 := 160) dX7_readPiece_124 FX7 3 wd283 (by decide) (tl86 hT) rfl I17 rfl 127 rfl (fun v102 ev102 pv102 qv102 => ?_)
              have wv102 : v102.toInt = (m15 86 3).toInt := congrArg Int32.toInt ev102
              refine pv_iconst (M := mX7_readPiece) (v := 1) dX7_readPiece_127 128 rfl (by decide) ?_
              refine iv_iadd (M := mX7_readPiece) (X := v102.toInt) (Y := 1) dX7_readPiece_128 129 rfl rfl (by decide) (by omega) (by omega) (fun v103 ev103 => ?_)
              refine iv_put (M := mX7_readPiece) (l1 := 0) (l2 := 160) dX7_readPiece_129 FX7 3 wd283 (by decide) rfl (tl86 hT) rfl rfl rfl I17 rfl (by omega) (by omega) 132 rfl (fun m104 e107 I105 => ?_)
              have K106 := K18.set e107 (by decide)
              have w108 : (m104 86 3).toInt = v103.toInt := by rw [e107, up2_eq]
              have w109 : (m104 86 2).toInt = (m15 86 2).toInt := by rw [e107, up2_ne (by omega)]
              have w110 : (m104 86 4).toInt = (m15 86 4).toInt := by rw [e107, up2_ne (by omega)]
              have w111 : (m104 lb 7).toInt = (m15 lb 7).toInt := by rw [e107, up2_ne (by omega)]
              have kt132 : tC m104 = tC m := tC_eq (K106 86 2 rfl) (fun j => K106 87 j rfl)
              have kp132 : (m104 86 3).toInt = (m15 86 3).toInt + 1 := by omega
              refine pv_aload_n (M := mX7_readPiece) 0 dX7_readPiece_132 133 rfl rfl rfl ?_
              refine pv_iload_n (M := mX7_readPiece) 1 dX7_readPiece_133 134 rfl rfl rfl ?_
              have z114 : (6 : Int32).toInt = 6 := by decide
              refine pv_callv (M := mX7_readPiece) (as := [.int 6]) (st := []) (kc2 := 0) (ks2 := 0) dX7_readPiece_134 wd539 YX7_readSum ⟨wd541, wd4⟩ (mk_get (tl86 hT)) rfl rfl (s_X7_readSum_v6x g hT I105 R (by first | omega | assumption | exact (iv_rng _).2 | exact (iv_rng _).1 | decide) (TBC_eq hp1 kt132)) rfl rfl (Nat.le_of_ble_eq_true rfl) (by decide) rfl rfl 137 rfl (fun rv h1 q115 => ?_)
              obtain ⟨m116, n117, v120, rfl, rfl, I118, K119, pv120, qv120, rv120⟩ := q115
              replace rv120 : (m104 86 3).toInt ≤ (m116 86 3).toInt ∧ (m116 86 3).toInt ≤ (m116 86 2).toInt ∧ (m116 86 2).toInt = (m104 86 2).toInt ∧ (RSX (SU (tC m104) 0 (m104 86 3).toInt) v120.toInt (m116 86 3).toInt (m116 86 4).toInt) ∧ (m116 lb 7).toInt = (m104 lb 7).toInt := by have q_ := rv120; (try rw [z114] at q_); exact q_
              have K119c := K119
              have K119 := K106.trans (K119.sub (fun _ _ q => q))
              show PV _ _ _ _ _ _ _ 137 [.ref 86, .int 6, .int v26] [.int v120] _
              have k137 := rv120.2.2.2.1
              rw [kt132, kp132] at k137
              refine pv_if_ne (M := mX7_readPiece) (tgt := 142) dX7_readPiece_137 140 rfl (by decide) (fun c123 => ?_) (fun c123 => ?_)
              · have c123 := iv_ne (X := v120.toInt) (Y := 0) c123 rfl (by decide)
                refine pv_aload_n (M := mX7_readPiece) 0 dX7_readPiece_142 143 rfl rfl rfl ?_
                refine mv_get (M := mX7_readPiece) (v := .ref lb) dX7_readPiece_143 FX7 1 wd281 (by decide) (tl86 hT) rfl R.2.2.2.1 146 rfl ?_
                refine pv_iload_n (M := mX7_readPiece) 2 dX7_readPiece_146 147 rfl rfl rfl ?_
                refine pv_iconst (M := mX7_readPiece) (v := 0) dX7_readPiece_147 148 rfl (by decide) ?_
                have z124 : (0 : Int32).toInt = 0 := by decide
                refine pv_callv (M := mX7_readPiece) (as := [.int v26, .int 0]) (st := []) (kc2 := 0) (ks2 := 0) dX7_readPiece_148 wd567 YX6_emit ⟨wd568, wd569⟩ (mk_get R.2.2.2.2.2.2.1) rfl rfl (s_X6_emit_vx g hT I118 lb R.2.2.2.2.2 v26 0 (by decide) (by decide)) rfl rfl (Nat.le_of_ble_eq_true rfl) (by decide) rfl rfl 151 rfl (fun rv h1 q125 => ?_)
                obtain ⟨m126, n127, rfl, rfl, I128, K129, rm126⟩ := q125
                replace rm126 : (m126 lb 7).toInt = (m116 lb 7).toInt := rm126
                have K129c := K129
                have w130 : (m126 86 3).toInt = (m116 86 3).toInt := congrArg Int32.toInt (K129 86 3 (wr_out (by omega)))
                have w131 : (m126 86 2).toInt = (m116 86 2).toInt := congrArg Int32.toInt (K129 86 2 (wr_out (by omega)))
                have w132 : (m126 86 4).toInt = (m116 86 4).toInt := congrArg Int32.toInt (K129 86 4 (wr_out (by omega)))
                have K129 := K119.trans (K129.sub (by first | exact wR7_r (by omega) | exact wR7_wr))
                show PV _ _ _ _ _ _ _ 151 [.ref 86, .int 6, .int v26] [] _
                refine pv_iconst (M := mX7_readPiece) (v := 1) dX7_readPiece_151 152 rfl (by decide) ?_
                have z133 : (1 : Int32).toInt = 1 := by decide
                exact pv_iret (M := mX7_readPiece) dX7_readPiece_152 rfl rfl ⟨_, _, _, rfl, rfl, I128, K129, by decide, by decide, ⟨by omega, by omega, by omega, Or.inl ⟨by decide, by rw [PI_cm kn33 kn40, CM_ok k93 kC, RSX_ok k137 (by omega), show (m116 86 3).toInt = (m126 86 3).toInt by omega]⟩, by omega⟩⟩
              · have c123 := iv_eq (X := v120.toInt) (Y := 0) c123 rfl (by decide)
                refine pv_iconst (M := mX7_readPiece) (v := 0) dX7_readPiece_140 141 rfl (by decide) ?_
                have z134 : (0 : Int32).toInt = 0 := by decide
                exact pv_iret (M := mX7_readPiece) dX7_readPiece_141 rfl rfl ⟨_, _, _, rfl, rfl, I118, K119, by decide, by decide, ⟨by omega, by omega, by omega, Or.inr ⟨by decide, by rw [PI_cm kn33 kn40, CM_ok k93 kC]; exact RSX_fl k137 (by omega)⟩, by omega⟩⟩
            · have c100 := iv_ne (X := v26.toInt) (Y := 61) c100 rfl (by decide)
              refine pv_aload_n (M := mX7_readPiece) 0 dX7_readPiece_116 117 rfl rfl rfl ?_
              refine pv_iconst (M := mX7_readPiece) (v := 1) dX7_readPiece_117 118 rfl (by decide) ?_
              have z135 : (1 : Int32).toInt = 1 := by decide
              refine pv_callv (M := mX7_readPiece) (as := [.int 1]) (st := []) (kc2 := 0) (ks2 := 0) dX7_readPiece_118 wd531 YX7_fail ⟨wd533, wd3⟩ (mk_get (tl86 hT)) rfl rfl (s_X7_fail_vx g hT I17 R 1 (by decide) (by decide) (by first | omega | assumption | exact (iv_rng _).2 | exact (iv_rng _).1 | decide)) rfl rfl (Nat.le_of_ble_eq_true rfl) (by decide) rfl rfl 121 rfl (fun rv h1 q136 => ?_)
              obtain ⟨m137, n138, v141, rfl, rfl, I139, K140, pv141, qv141, rv141⟩ := q136
              replace rv141 : (m15 86 3).toInt ≤ (m137 86 3).toInt ∧ (m137 86 3).toInt ≤ (m137 86 2).toInt ∧ (m137 86 2).toInt = (m15 86 2).toInt ∧ (v141.toInt = 0 ∧ (m137 86 3).toInt = (m15 86 3).toInt ∧ (m137 86 4).toInt = -1000 * (1 : Int) - (m15 86 3).toInt) ∧ (m137 lb 7).toInt = (m15 lb 7).toInt := by have q_ := rv141; (try rw [z135] at q_); exact q_
              have K140c := K140
              have K140 := K18.trans (K140.sub (fun _ _ q => q))
              show PV _ _ _ _ _ _ _ 121 [.ref 86, .int 6, .int v26] [.int v141] _
              exact pv_iret (M := mX7_readPiece) dX7_readPiece_121 rfl (iv_nz (by omega) (by omega)) ⟨_, _, _, rfl, rfl, I139, K140, by omega, by omega, ⟨by omega, by omega, by omega, Or.inr ⟨by omega, by rw [PI_cm kn33 kn40]; exact CM_no k93 (isC_no (by omega) (by omega) (by omega)) (by omega)⟩, by omega⟩⟩
      · have c21 := iv_eq (X := v19.toInt) (Y := 0) c21 rfl (by decide)
        refine pv_iconst (M := mX7_readPiece) (v := 0) dX7_readPiece_91 92 rfl (by decide) ?_
        have z142 : (0 : Int32).toInt = 0 := by decide
        exact pv_iret (M := mX7_readPiece) dX7_readPiece_92 rfl rfl ⟨_, _, _, rfl, rfl, I17, K18, by decide, by decide, ⟨by omega, by omega, by omega, Or.inr ⟨by decide, by rw [PI_cm kn33 kn40]; exact CM_fl (RSX_fl k88 (by omega))⟩, by omega⟩⟩
    · have c11 := iv_eq (X := v8.toInt) (Y := 40) c11 rfl (by decide)
      have k40 : tC m (m 86 3).toInt = 40 := by omega
      refine pv_aload_n (M := mX7_readPiece) 0 dX7_readPiece_50 51 rfl rfl rfl ?_
      refine pv_iload_n (M := mX7_readPiece) 1 dX7_readPiece_51 52 rfl rfl rfl ?_
      have z144 : (6 : Int32).toInt = 6 := by decide
      refine pv_callv (M := mX7_readPiece) (as := [.int 6]) (st := []) (kc2 := 0) (ks2 := 0) dX7_readPiece_52 wd551 YX7_open ⟨wd553, wd7⟩ (mk_get (tl86 hT)) rfl rfl (s_X7_open_vx g hT I R 6 (by decide) (by decide) (by first | omega | assumption | exact (iv_rng _).2 | exact (iv_rng _).1 | decide)) rfl rfl (Nat.le_of_ble_eq_true rfl) (by decide) rfl rfl 55 rfl (fun rv h1 q145 => ?_)
      obtain ⟨m146, n147, v150, rfl, rfl, I148, K149, pv150, qv150, rv150⟩ := q145
      replace rv150 : (v150 = 0 ∨ (6 : Int) ≤ 5) ∧ (m 86 3).toInt ≤ (m146 86 3).toInt ∧ (m146 86 3).toInt ≤ (m146 86 2).toInt ∧ (m146 86 2).toInt = (m 86 2).toInt ∧ ((v150.toInt = 1 ∧ (6 : Int) ≤ 5 ∧ (m146 86 3).toInt = (m 86 3).toInt + 1) ∨ (v150.toInt = 0 ∧ 6 ≤ (6 : Int) ∧ (m146 86 4).toInt = -5000 - (m 86 3).toInt ∧ (m146 86 3).toInt = (m 86 3).toInt)) ∧ (m146 lb 7).toInt = (m lb 7).toInt := by have q_ := rv150; (try rw [z144] at q_); exact q_
      have K149c := K149
      have K149 := Kp.trans (K149.sub (fun _ _ q => q))
      show PV _ _ _ _ _ _ _ 55 [.ref 86, .int 6, pv_U] [.int v150] _
      refine pv_if_eq (M := mX7_readPiece) (tgt := 81) dX7_readPiece_55 58 rfl (by decide) (fun c151 => ?_) (fun c151 => ?_)
      · have c151 := iv_eq (X := v150.toInt) (Y := 0) c151 rfl (by decide)
        refine pv_iconst (M := mX7_readPiece) (v := 0) dX7_readPiece_81 82 rfl (by decide) ?_
        have z152 : (0 : Int32).toInt = 0 := by decide
        exact pv_iret (M := mX7_readPiece) dX7_readPiece_82 rfl rfl ⟨_, _, _, rfl, rfl, I148, K149, by decide, by decide, ⟨by omega, by omega, by omega, (by first | exact Or.inr ⟨by decide, PX_deep (Or.inr k40) (by omega)⟩ | exact Or.inr ⟨by decide, PX_cn k40 k68 (fun z => by omega) (by omega)⟩ | exact Or.inl ⟨by decide, PX_co k40 k68 (by omega) (by omega)⟩ | exact Or.inr ⟨by decide, PX_con k40 (RSX_fl k65 (by omega))⟩ | (exfalso; omega)), by omega⟩⟩
      · have pc151 := rv150.1.resolve_left c151
        have c151 := iv_ne (X := v150.toInt) (Y := 0) c151 rfl (by decide)
        omega
  · have c5 := iv_eq (X := v2.toInt) (Y := 33) c5 rfl (by decide)
    have k33 : tC m (m 86 3).toInt = 33 := by omega
    refine pv_aload_n (M := mX7_readPiece) 0 dX7_readPiece_9 10 rfl rfl rfl ?_
    refine pv_iload_n (M := mX7_readPiece) 1 dX7_readPiece_10 11 rfl rfl rfl ?_
    have z154 : (6 : Int32).toInt = 6 := by decide
    refine pv_callv (M := mX7_readPiece) (as := [.int 6]) (st := []) (kc2 := 0) (ks2 := 0) dX7_readPiece_11 wd551 YX7_open ⟨wd553, wd7⟩ (mk_get (tl86 hT)) rfl rfl (s_X7_open_vx g hT I R 6 (by decide) (by decide) (by first | omega | assumption | exact (iv_rng _).2 | exact (iv_rng _).1 | decide)) rfl rfl (Nat.le_of_ble_eq_true rfl) (by decide) rfl rfl 14 rfl (fun rv h1 q155 => ?_)
    obtain ⟨m156, n157, v160, rfl, rfl, I158, K159, pv160, qv160, rv160⟩ := q155
    replace rv160 : (v160 = 0 ∨ (6 : Int) ≤ 5) ∧ (m 86 3).toInt ≤ (m156 86 3).toInt ∧ (m156 86 3).toInt ≤ (m156 86 2).toInt ∧ (m156 86 2).toInt = (m 86 2).toInt ∧ ((v160.toInt = 1 ∧ (6 : Int) ≤ 5 ∧ (m156 86 3).toInt = (m 86 3).toInt + 1) ∨ (v160.toInt = 0 ∧ 6 ≤ (6 : Int) ∧ (m156 86 4).toInt = -5000 - (m 86 3).toInt ∧ (m156 86 3).toInt = (m 86 3).toInt)) ∧ (m156 lb 7).toInt = (m lb 7).toInt := by have q_ := rv160; (try rw [z154] at q_); exact q_
    have K159c := K159
    have K159 := Kp.trans (K159.sub (fun _ _ q => q))
    show PV _ _ _ _ _ _ _ 14 [.ref 86, .int 6, pv_U] [.int v160] _
    refine pv_if_eq (M := mX7_readPiece) (tgt := 27) dX7_readPiece_14 17 rfl (by decide) (fun c161 => ?_) (fun c161 => ?_)
    · have c161 := iv_eq (X := v160.toInt) (Y := 0) c161 rfl (by decide)
      refine pv_iconst (M := mX7_readPiece) (v := 0) dX7_readPiece_27 28 rfl (by decide) ?_
      have z162 : (0 : Int32).toInt = 0 := by decide
      exact pv_iret (M := mX7_readPiece) dX7_readPiece_28 rfl rfl ⟨_, _, _, rfl, rfl, I158, K159, by decide, by decide, ⟨by omega, by omega, by omega, (by first | exact Or.inr ⟨by decide, PX_deep (Or.inl k33) (by omega)⟩ | exact Or.inr ⟨by decide, by rw [PI_not k33]; exact RSX_fl k24 (by omega)⟩ | (exfalso; omega)), by omega⟩⟩
    · have pc161 := rv160.1.resolve_left c161
      have c161 := iv_ne (X := v160.toInt) (Y := 0) c161 rfl (by decide)
      omega

set_option maxHeartbeats 2000000 in
set_option maxRecDepth 20000 in
theorem s_X7_readPart_v6x (g : pv_G) {T : List mv_T} {m : Nat → Nat → Int32} {n : Nat → Nat → Int64} {r : Nat → Value} {la lb : Nat} (hT : TX T) (I : IV BB m) (R : RX T r la lb) (hp0 : (m 86 3).toInt ≤ (m 86 2).toInt) (hp1 : TBC m) : PM g mX7_readPart yX7_readPart (sqI T BB wR7 r m 0 1 (fun m' v => (m 86 3).toInt ≤ (m' 86 3).toInt ∧ (m' 86 3).toInt ≤ (m' 86 2).toInt ∧ (m' 86 2).toInt = (m 86 2).toInt ∧ ((v.toInt = 0 ∨ (m 86 3).toInt + 1 ≤ (m' 86 3).toInt) ∧ TRX (CN (tC m) 0 (m 86 3).toInt) (LB (tC m) 0) (fun a => tC m a ≠ 38) v.toInt (m' 86 3).toInt (m' 86 4).toInt) ∧ (m' lb 7).toInt = (m lb 7).toInt)) 9 0 0 [.ref 86, .int 6] (mk T m n r) := by
  have Kp : fr wR7 m m := fr.rf
  have R0 := R
  have zR := R.2.2.2.2.1.1
  have zR2 := R.2.2.2.2.2.1
  have z91 : 0 ≤ (m 86 3).toInt ∧ (m 86 3).toInt ≤ 160 := I 86 3
  have z92 : 0 ≤ (m 86 2).toInt ∧ (m 86 2).toInt ≤ 160 := I 86 2
  refine PM.of 2 (lo := [.ref 86, .int 6, pv_U, pv_U]) rfl (by decide) rfl rfl (Nat.le_of_ble_eq_true rfl) ?_
  have kTX := TXT_C I
  refine pv_aload_n (M := mX7_readPart) 0 dX7_readPart_0 1 rfl rfl rfl ?_
  refine mv_get (M := mX7_readPart) (v := .ref lb) dX7_readPart_1 FX7 1 wd281 (by decide) (tl86 hT) rfl R.2.2.2.1 4 rfl ?_
  refine pv_callv (M := mX7_readPart) (as := []) (st := []) (kc2 := 0) (ks2 := 0) dX7_readPart_4 wd666 YX6_steps ⟨wd667, wd668⟩ (mk_get R.2.2.2.2.2.2.1) rfl rfl (s_X6_steps g hT I lb R.2.2.2.2.2) rfl rfl (Nat.le_of_ble_eq_true rfl) (by decide) rfl rfl 7 rfl (fun rv h1 q2 => ?_)
  obtain ⟨v3, rfl, rfl, pv3, qv3, rv3⟩ := q2
  show PV _ _ _ _ _ _ _ 7 [.ref 86, .int 6, pv_U, pv_U] [.int v3] _
  refine pv_istore_n (M := mX7_readPart) 2 (lo2 := [.ref 86, .int 6, .int v3, pv_U]) dX7_readPart_7 8 rfl rfl (by decide) rfl rfl ?_
  refine pv_iconst (M := mX7_readPart) (v := 0) dX7_readPart_8 9 rfl (by decide) ?_
  refine pv_istore_n (M := mX7_readPart) 3 (lo2 := [.ref 86, .int 6, .int v3, .int 0]) dX7_readPart_9 10 rfl rfl (by decide) rfl rfl ?_
  have lp10 : ∀ (fuel9 : Nat) (y4 : Int32) (m5 : Nat → Nat → Int32) (n6 : Nat → Nat → Int64), (0 ≤ y4.toInt) → (y4.toInt ≤ 160) → ((m5 86 3).toInt ≤ (m5 86 2).toInt) → ((m5 86 2).toInt = (m 86 2).toInt) → ((m5 lb 7).toInt = (m lb 7).toInt) → ((m 86 3).toInt + 2 * y4.toInt ≤ (m5 86 3).toInt) → (CN (tC m) 0 (m 86 3).toInt = CN (tC m) 0 (m5 86 3).toInt) → IV BB m5 → fr wR7 m m5 → ((160 - y4.toInt) : Int).toNat < fuel9 → PV none g mX7_readPart (sqI T BB wR7 r m 0 1 (fun m' v => (m 86 3).toInt ≤ (m' 86 3).toInt ∧ (m' 86 3).toInt ≤ (m' 86 2).toInt ∧ (m' 86 2).toInt = (m 86 2).toInt ∧ ((v.toInt = 0 ∨ (m 86 3).toInt + 1 ≤ (m' 86 3).toInt) ∧ TRX (CN (tC m) 0 (m 86 3).toInt) (LB (tC m) 0) (fun a => tC m a ≠ 38) v.toInt (m' 86 3).toInt (m' 86 4).toInt) ∧ (m' lb 7).toInt = (m lb 7).toInt)) 9 0 0 10 [.ref 86, .int 6, .int v3, .int y4] [] (mk T m5 n6 r) := by
    intro fuel9
    induction fuel9 with
    | zero => intro y4 m5 n6 b12 b13 b14 b15 b16 b17 b18 I7 K8 z19; omega
    | succ fuel9 ih11 =>
      intro y4 m5 n6 b12 b13 b14 b15 b16 b17 b18 I7 K8 z19
      have z20 : 0 ≤ (m5 86 3).toInt ∧ (m5 86 3).toInt ≤ 160 := I7 86 3
      have z21 : 0 ≤ (m5 86 2).toInt ∧ (m5 86 2).toInt ≤ 160 := I7 86 2
      have kgc := (show CN (tC m) 0 (m 86 3).toInt = CN (tC m) 0 (m5 86 3).toInt by assumption)
      have kt10 : tC m5 = tC m := tC_eq (K8 86 2 rfl) (fun j => K8 87 j rfl)
      refine pv_iload_n (M := mX7_readPart) 3 dX7_readPart_10 11 rfl rfl rfl ?_
      refine pv_sipush (M := mX7_readPart) (v := 160) dX7_readPart_11 14 rfl (by decide) ?_
      refine pv_icmp_ge (M := mX7_readPart) (tgt := 65) dX7_readPart_14 17 rfl (by decide) (fun c24 => ?_) (fun c24 => ?_)
      · have c24 := iv_le (X := 160) (Y := y4.toInt) c24 (by decide) rfl
        refine pv_aload_n (M := mX7_readPart) 0 dX7_readPart_65 66 rfl rfl rfl ?_
        refine mv_get (M := mX7_readPart) (v := .ref lb) dX7_readPart_66 FX7 1 wd281 (by decide) (tl86 hT) rfl R.2.2.2.1 69 rfl ?_
        refine pv_bipush (M := mX7_readPart) (v := 38) dX7_readPart_69 71 rfl (by decide) ?_
        refine pv_iload_n (M := mX7_readPart) 2 dX7_readPart_71 72 rfl rfl rfl ?_
        have z25 : (38 : Int32).toInt = 38 := by decide
        refine pv_callv (M := mX7_readPart) (as := [.int 38, .int v3]) (st := []) (kc2 := 0) (ks2 := 0) dX7_readPart_72 wd678 YX6_aimLeaps ⟨wd679, wd680⟩ (mk_get R.2.2.2.2.2.2.1) rfl rfl (s_X6_aimLeaps_vx g hT I7 lb R.2.2.2.2.2 38 v3) rfl rfl (Nat.le_of_ble_eq_true rfl) (by decide) rfl rfl 75 rfl (fun rv h1 q26 => ?_)
        obtain ⟨m27, n28, rfl, rfl, I29, K30, rm27⟩ := q26
        replace rm27 : (m27 lb 7).toInt = (m5 lb 7).toInt := rm27
        have K30c := K30
        have w31 : (m27 86 3).toInt = (m5 86 3).toInt := congrArg Int32.toInt (K30 86 3 (wr_out (by omega)))
        have w32 : (m27 86 2).toInt = (m5 86 2).toInt := congrArg Int32.toInt (K30 86 2 (wr_out (by omega)))
        have w33 : (m27 86 4).toInt = (m5 86 4).toInt := congrArg Int32.toInt (K30 86 4 (wr_out (by omega)))
        have K30 := K8.trans (K30.sub (by first | exact wR7_r (by omega) | exact wR7_wr))
        show PV _ _ _ _ _ _ _ 75 [.ref 86, .int 6, .int v3, .int y4] [] _
        refine pv_iconst (M := mX7_readPart) (v := 1) dX7_readPart_75 76 rfl (by decide) ?_
        have z34 : (1 : Int32).toInt = 1 := by decide
        exact pv_iret (M := mX7_readPart) dX7_readPart_76 rfl rfl ⟨_, _, _, rfl, rfl, I29, K30, by decide, by decide, ⟨by omega, by omega, by omega, (by first | exact ⟨Or.inr (by omega), Or.inl ⟨by decide, by rw [kgc, k27]; congr 1; omega, by show tC m (m27 86 3).toInt ≠ 38; rw [show (m27 86 3).toInt = (m5 86 3).toInt by omega, ← k31]; omega⟩⟩ | (exfalso; omega)), by omega⟩⟩
      · have c24 := iv_nle (X := 160) (Y := y4.toInt) c24 (by decide) rfl
        refine pv_aload_n (M := mX7_readPart) 0 dX7_readPart_17 18 rfl rfl rfl ?_
        refine pv_iload_n (M := mX7_readPart) 1 dX7_readPart_18 19 rfl rfl rfl ?_
        have z35 : (6 : Int32).toInt = 6 := by decide
        refine pv_callv (M := mX7_readPart) (as := [.int 6]) (st := []) (kc2 := 0) (ks2 := 0) dX7_readPart_19 wd674 YX7_readPiece ⟨wd676, wd14⟩ (mk_get (tl86 hT)) rfl rfl (s_X7_readPiece_v6x g hT I7 R (by first | omega | assumption | exact (iv_rng _).2 | exact (iv_rng _).1 | decide) (TBC_eq hp1 kt10)) rfl rfl (Nat.le_of_ble_eq_true rfl) (by decide) rfl rfl 22 rfl (fun rv h1 q36 => ?_)
        obtain ⟨m37, n38, v41, rfl, rfl, I39, K40, pv41, qv41, rv41⟩ := q36
        replace rv41 : (m5 86 3).toInt ≤ (m37 86 3).toInt ∧ (m37 86 3).toInt ≤ (m37 86 2).toInt ∧ (m37 86 2).toInt = (m5 86 2).toInt ∧ (RSX (PI (tC m5) 0 (m5 86 3).toInt) v41.toInt (m37 86 3).toInt (m37 86 4).toInt) ∧ (m37 lb 7).toInt = (m5 lb 7).toInt := by have q_ := rv41; (try rw [z35] at q_); exact q_
        have K40c := K40
        have K40 := K8.trans (K40.sub (fun _ _ q => q))
        show PV _ _ _ _ _ _ _ 22 [.ref 86, .int 6, .int v3, .int y4] [.int v41] _
        have k22 := rv41.2.2.2.1
        rw [kt10] at k22
        refine pv_if_ne (M := mX7_readPart) (tgt := 27) dX7_readPart_22 25 rfl (by decide) (fun c44 => ?_) (fun c44 => ?_)
        · have c44 := iv_ne (X := v41.toInt) (Y := 0) c44 rfl (by decide)
          have k27o := RSX_ok k22 (by omega)
          have k27 := CN_ok k27o
          have k27p := PI_le 0 (m5 86 3).toInt (by rw [k27o])
          rw [k27o] at k27p
          have kt27 : tC m37 = tC m := tC_eq (K40 86 2 rfl) (fun j => K40 87 j rfl)
          refine pv_aload_n (M := mX7_readPart) 0 dX7_readPart_27 28 rfl rfl rfl ?_
          refine pv_callv (M := mX7_readPart) (as := []) (st := []) (kc2 := 0) (ks2 := 0) dX7_readPart_28 wd527 YX7_peek ⟨wd529, wd2⟩ (mk_get (tl86 hT)) rfl rfl (s_X7_peek_vx g hT I39 R) rfl rfl (Nat.le_of_ble_eq_true rfl) (by decide) rfl rfl 31 rfl (fun rv h1 q50 => ?_)
          obtain ⟨v51, rfl, rfl, pv51, qv51, rv51⟩ := q50
          replace rv51 : v51.toInt = tC m37 (m37 86 3).toInt ∧ (v51.toInt = -1 ∨ (m37 86 3).toInt < (m37 86 2).toInt) := rv51
          show PV _ _ _ _ _ _ _ 31 [.ref 86, .int 6, .int v3, .int y4] [.int v51] _
          have k31 := rv51.1
          have k31b := rv51.2
          rw [kt27] at k31
          refine pv_bipush (M := mX7_readPart) (v := 38) dX7_readPart_31 33 rfl (by decide) ?_
          refine pv_icmp_eq (M := mX7_readPart) (tgt := 39) dX7_readPart_33 36 rfl (by decide) (fun c55 => ?_) (fun c55 => ?_)
          · have c55 := iv_eq (X := v51.toInt) (Y := 38) c55 rfl (by decide)
            have kB : isB (tC m (m37 86 3).toInt) = true := isB_y (by omega)
            refine pv_aload_n (M := mX7_readPart) 0 dX7_readPart_39 40 rfl rfl rfl ?_
            refine mv_get (M := mX7_readPart) (v := .ref lb) dX7_readPart_40 FX7 1 wd281 (by decide) (tl86 hT) rfl R.2.2.2.1 43 rfl ?_
            refine pv_bipush (M := mX7_readPart) (v := 38) dX7_readPart_43 45 rfl (by decide) ?_
            refine pv_iconst (M := mX7_readPart) (v := (-1)) dX7_readPart_45 46 rfl (by decide) ?_
            have z57 : (38 : Int32).toInt = 38 := by decide
            have z58 : ((-1) : Int32).toInt = (-1) := by decide
            refine pv_callv (M := mX7_readPart) (as := [.int 38, .int (-1)]) (st := []) (kc2 := 0) (ks2 := 0) dX7_readPart_46 wd567 YX6_emit ⟨wd568, wd569⟩ (mk_get R.2.2.2.2.2.2.1) rfl rfl (s_X6_emit_vx g hT I39 lb R.2.2.2.2.2 38 (-1) (by decide) (by decide)) rfl rfl (Nat.le_of_ble_eq_true rfl) (by decide) rfl rfl 49 rfl (fun rv h1 q59 => ?_)
            obtain ⟨m60, n61, rfl, rfl, I62, K63, rm60⟩ := q59
            replace rm60 : (m60 lb 7).toInt = (m37 lb 7).toInt := rm60
            have K63c := K63
            have w64 : (m60 86 3).toInt = (m37 86 3).toInt := congrArg Int32.toInt (K63 86 3 (wr_out (by omega)))
            have w65 : (m60 86 2).toInt = (m37 86 2).toInt := congrArg Int32.toInt (K63 86 2 (wr_out (by omega)))
            have w66 : (m60 86 4).toInt = (m37 86 4).toInt := congrArg Int32.toInt (K63 86 4 (wr_out (by omega)))
            have K63 := K40.trans (K63.sub (by first | exact wR7_r (by omega) | exact wR7_wr))
            show PV _ _ _ _ _ _ _ 49 [.ref 86, .int 6, .int v3, .int y4] [] _
            refine pv_aload_n (M := mX7_readPart) 0 dX7_readPart_49 50 rfl rfl rfl ?_
            refine pv_dup (M := mX7_readPart) dX7_readPart_50 51 rfl rfl ?_
            refine iv_get (M := mX7_readPart) (l1 := 0) (l2 := 160) dX7_readPart_51 FX7 3 wd283 (by decide) (tl86 hT) rfl I62 rfl 54 rfl (fun v67 ev67 pv67 qv67 => ?_)
            have wv67 : v67.toInt = (m60 86 3).toInt := congrArg Int32.toInt ev67
            refine pv_iconst (M := mX7_readPart) (v := 1) dX7_readPart_54 55 rfl (by decide) ?_
            refine iv_iadd (M := mX7_readPart) (X := v67.toInt) (Y := 1) dX7_readPart_55 56 rfl rfl (by decide) (by omega) (by omega) (fun v68 ev68 => ?_)
            refine iv_put (M := mX7_readPart) (l1 := 0) (l2 := 160) dX7_readPart_56 FX7 3 wd283 (by decide) rfl (tl86 hT) rfl rfl rfl I62 rfl (by omega) (by omega) 59 rfl (fun m69 e72 I70 => ?_)
            have K71 := K63.set e72 (by decide)
            have w73 : (m69 86 3).toInt = v68.toInt := by rw [e72, up2_eq]
            have w74 : (m69 86 2).toInt = (m60 86 2).toInt := by rw [e72, up2_ne (by omega)]
            have w75 : (m69 86 4).toInt = (m60 86 4).toInt := by rw [e72, up2_ne (by omega)]
            have w76 : (m69 lb 7).toInt = (m60 lb 7).toInt := by rw [e72, up2_ne (by omega)]
            refine iv_inc (M := mX7_readPart) (C := 1) dX7_readPart_59 62 rfl rfl (by decide) rfl rfl (by decide) (by omega) (by omega) (fun v77 ev77 => ?_)
            show PV _ _ _ _ _ _ _ 62 [.ref 86, .int 6, .int v3, .int v77] [] _
            refine pv_goto (M := mX7_readPart) (tgt := 10) dX7_readPart_62 (by decide) ?_
            have kbc : CN (tC m) 0 (m 86 3).toInt = CN (tC m) 0 (m69 86 3).toInt := by rw [kgc, k27, LB_cn kTX (by omega) kB]; congr 1; omega
            exact ih11 v77 m69 n61 (by first | omega | assumption | exact (iv_rng _).2 | exact (iv_rng _).1 | decide) (by first | omega | assumption | exact (iv_rng _).2 | exact (iv_rng _).1 | decide) (by first | omega | assumption | (show (m69 86 3).toInt ≤ (m69 86 2).toInt; omega) | decide) (by first | omega | assumption | (show (m69 86 2).toInt = (m 86 2).toInt; omega) | decide) (by first | omega | assumption | (show (m69 lb 7).toInt = (m lb 7).toInt; omega) | decide) (by first | omega | assumption | (show (m 86 3).toInt + 2 * v77.toInt ≤ (m69 86 3).toInt; omega) | decide) kbc I70 K71 (by omega)
          · have c55 := iv_ne (X := v51.toInt) (Y := 38) c55 rfl (by decide)
            refine pv_goto (M := mX7_readPart) (tgt := 65) dX7_readPart_36 (by decide) ?_
            refine pv_aload_n (M := mX7_readPart) 0 dX7_readPart_65 66 rfl rfl rfl ?_
            refine mv_get (M := mX7_readPart) (v := .ref lb) dX7_readPart_66 FX7 1 wd281 (by decide) (tl86 hT) rfl R.2.2.2.1 69 rfl ?_
            refine pv_bipush (M := mX7_readPart) (v := 38) dX7_readPart_69 71 rfl (by decide) ?_
            refine pv_iload_n (M := mX7_readPart) 2 dX7_readPart_71 72 rfl rfl rfl ?_
            have z79 : (38 : Int32).toInt = 38 := by decide
            refine pv_callv (M := mX7_readPart) (as := [.int 38, .int v3]) (st := []) (kc2 := 0) (ks2 := 0) dX7_readPart_72 wd678 YX6_aimLeaps ⟨wd679, wd680⟩ (mk_get R.2.2.2.2.2.2.1) rfl rfl (s_X6_aimLeaps_vx g hT I39 lb R.2.2.2.2.2 38 v3) rfl rfl (Nat.le_of_ble_eq_true rfl) (by decide) rfl rfl 75 rfl (fun rv h1 q80 => ?_)
            obtain ⟨m81, n82, rfl, rfl, I83, K84, rm81⟩ := q80
            replace rm81 : (m81 lb 7).toInt = (m37 lb 7).toInt := rm81
            have K84c := K84
            have w85 : (m81 86 3).toInt = (m37 86 3).toInt := congrArg Int32.toInt (K84 86 3 (wr_out (by omega)))
            have w86 : (m81 86 2).toInt = (m37 86 2).toInt := congrArg Int32.toInt (K84 86 2 (wr_out (by omega)))
            have w87 : (m81 86 4).toInt = (m37 86 4).toInt := congrArg Int32.toInt (K84 86 4 (wr_out (by omega)))
            have K84 := K40.trans (K84.sub (by first | exact wR7_r (by omega) | exact wR7_wr))
            show PV _ _ _ _ _ _ _ 75 [.ref 86, .int 6, .int v3, .int y4] [] _
            refine pv_iconst (M := mX7_readPart) (v := 1) dX7_readPart_75 76 rfl (by decide) ?_
            have z88 : (1 : Int32).toInt = 1 := by decide
            exact pv_iret (M := mX7_readPart) dX7_readPart_76 rfl rfl ⟨_, _, _, rfl, rfl, I83, K84, by decide, by decide, ⟨by omega, by omega, by omega, (by first | exact ⟨Or.inr (by omega), Or.inl ⟨by decide, by rw [kgc, k27]; congr 1; omega, by show tC m (m81 86 3).toInt ≠ 38; rw [show (m81 86 3).toInt = (m37 86 3).toInt by omega, ← k31]; omega⟩⟩ | (exfalso; omega)), by omega⟩⟩
        · have c44 := iv_eq (X := v41.toInt) (Y := 0) c44 rfl (by decide)
          refine pv_iconst (M := mX7_readPart) (v := 0) dX7_readPart_25 26 rfl (by decide) ?_
          have z89 : (0 : Int32).toInt = 0 := by decide
          exact pv_iret (M := mX7_readPart) dX7_readPart_26 rfl rfl ⟨_, _, _, rfl, rfl, I39, K40, by decide, by decide, ⟨by omega, by omega, by omega, ⟨Or.inl (by decide), Or.inr ⟨by decide, by rw [kgc]; exact CN_fl (RSX_fl k22 (by omega))⟩⟩, by omega⟩⟩
  have z90 : (0 : Int32).toInt = 0 := by decide
  exact lp10 (((160 - 0) : Int).toNat + 1) 0 m n (by first | omega | assumption | exact (iv_rng _).2 | exact (iv_rng _).1 | decide) (by first | omega | assumption | exact (iv_rng _).2 | exact (iv_rng _).1 | decide) (by first | omega | assumption | (show (m 86 3).toInt ≤ (m 86 2).toInt; omega) | decide) (by first | omega | assumption | (show (m 86 2).toInt = (m 86 2).toInt; omega) | decide) (by first | omega | assumption | (show (m lb 7).toInt = (m lb 7).toInt; omega) | decide) (by first | omega | assumption | (show (m 86 3).toInt + 2 * 0 ≤ (m 86 3).toInt; omega) | decide) rfl I Kp (by omega)

set_option maxHeartbeats 2000000 in
set_option maxRecDepth 20000 in
theorem s_X7_readCondition_v6x (g : pv_G) {T : List mv_T} {m : Nat → Nat → Int32} {n : Nat → Nat → Int64} {r : Nat → Value} {la lb : Nat} (hT : TX T) (I : IV BB m) (R : RX T r la lb) (hp0 : (m 86 3).toInt ≤ (m 86 2).toInt) (hp1 : TBC m) : PM g mX7_readCondition yX7_readCondition (sqI T BB wR7 r m 0 1 (fun m' v => (m 86 3).toInt ≤ (m' 86 3).toInt ∧ (m' 86 3).toInt ≤ (m' 86 2).toInt ∧ (m' 86 2).toInt = (m 86 2).toInt ∧ (RSX (CN (tC m) 0 (m 86 3).toInt) v.toInt (m' 86 3).toInt (m' 86 4).toInt) ∧ (m' lb 7).toInt = (m lb 7).toInt)) 10 0 0 [.ref 86, .int 6] (mk T m n r) := by
  have Kp : fr wR7 m m := fr.rf
  have R0 := R
  have zR := R.2.2.2.2.1.1
  have zR2 := R.2.2.2.2.2.1
  have z90 : 0 ≤ (m 86 3).toInt ∧ (m 86 3).toInt ≤ 160 := I 86 3
  have z91 : 0 ≤ (m 86 2).toInt ∧ (m 86 2).toInt ≤ 160 := I 86 2
  refine PM.of 2 (lo := [.ref 86, .int 6, pv_U, pv_U]) rfl (by decide) rfl rfl (Nat.le_of_ble_eq_true rfl) ?_
  have kTX := TXT_C I
  refine pv_aload_n (M := mX7_readCondition) 0 dX7_readCondition_0 1 rfl rfl rfl ?_
  refine mv_get (M := mX7_readCondition) (v := .ref lb) dX7_readCondition_1 FX7 1 wd281 (by decide) (tl86 hT) rfl R.2.2.2.1 4 rfl ?_
  refine pv_callv (M := mX7_readCondition) (as := []) (st := []) (kc2 := 0) (ks2 := 0) dX7_readCondition_4 wd666 YX6_steps ⟨wd667, wd668⟩ (mk_get R.2.2.2.2.2.2.1) rfl rfl (s_X6_steps g hT I lb R.2.2.2.2.2) rfl rfl (Nat.le_of_ble_eq_true rfl) (by decide) rfl rfl 7 rfl (fun rv h1 q2 => ?_)
  obtain ⟨v3, rfl, rfl, pv3, qv3, rv3⟩ := q2
  show PV _ _ _ _ _ _ _ 7 [.ref 86, .int 6, pv_U, pv_U] [.int v3] _
  refine pv_istore_n (M := mX7_readCondition) 2 (lo2 := [.ref 86, .int 6, .int v3, pv_U]) dX7_readCondition_7 8 rfl rfl (by decide) rfl rfl ?_
  refine pv_iconst (M := mX7_readCondition) (v := 0) dX7_readCondition_8 9 rfl (by decide) ?_
  refine pv_istore_n (M := mX7_readCondition) 3 (lo2 := [.ref 86, .int 6, .int v3, .int 0]) dX7_readCondition_9 10 rfl rfl (by decide) rfl rfl ?_
  have lp10 : ∀ (fuel9 : Nat) (y4 : Int32) (m5 : Nat → Nat → Int32) (n6 : Nat → Nat → Int64), (0 ≤ y4.toInt) → (y4.toInt ≤ 160) → ((m5 86 3).toInt ≤ (m5 86 2).toInt) → ((m5 86 2).toInt = (m 86 2).toInt) → ((m5 lb 7).toInt = (m lb 7).toInt) → ((m 86 3).toInt + 2 * y4.toInt ≤ (m5 86 3).toInt) → (CN (tC m) 0 (m 86 3).toInt = CN (tC m) 0 (m5 86 3).toInt) → IV BB m5 → fr wR7 m m5 → ((160 - y4.toInt) : Int).toNat < fuel9 → PV none g mX7_readCondition (sqI T BB wR7 r m 0 1 (fun m' v => (m 86 3).toInt ≤ (m' 86 3).toInt ∧ (m' 86 3).toInt ≤ (m' 86 2).toInt ∧ (m' 86 2).toInt = (m 86 2).toInt ∧ (RSX (CN (tC m) 0 (m 86 3).toInt) v.toInt (m' 86 3).toInt (m' 86 4).toInt) ∧ (m' lb 7).toInt = (m lb 7).toInt)) 10 0 0 10 [.ref 86, .int 6, .int v3, .int y4] [] (mk T m5 n6 r) := by
    intro fuel9
    induction fuel9 with
    | zero => intro y4 m5 n6 b12 b13 b14 b15 b16 b17 b18 I7 K8 z19; omega
    | succ fuel9 ih11 =>
      intro y4 m5 n6 b12 b13 b14 b15 b16 b17 b18 I7 K8 z19
      have z20 : 0 ≤ (m5 86 3).toInt ∧ (m5 86 3).toInt ≤ 160 := I7 86 3
      have z21 : 0 ≤ (m5 86 2).toInt ∧ (m5 86 2).toInt ≤ 160 := I7 86 2
      have kgc := (show CN (tC m) 0 (m 86 3).toInt = CN (tC m) 0 (m5 86 3).toInt by assumption)
      have kt10 : tC m5 = tC m := tC_eq (K8 86 2 rfl) (fun j => K8 87 j rfl)
      refine pv_iload_n (M := mX7_readCondition) 3 dX7_readCondition_10 11 rfl rfl rfl ?_
      refine pv_sipush (M := mX7_readCondition) (v := 160) dX7_readCondition_11 14 rfl (by decide) ?_
      refine pv_icmp_ge (M := mX7_readCondition) (tgt := 65) dX7_readCondition_14 17 rfl (by decide) (fun c24 => ?_) (fun c24 => ?_)
      · have c24 := iv_le (X := 160) (Y := y4.toInt) c24 (by decide) rfl
        refine pv_aload_n (M := mX7_readCondition) 0 dX7_readCondition_65 66 rfl rfl rfl ?_
        refine mv_get (M := mX7_readCondition) (v := .ref lb) dX7_readCondition_66 FX7 1 wd281 (by decide) (tl86 hT) rfl R.2.2.2.1 69 rfl ?_
        refine pv_bipush (M := mX7_readCondition) (v := 124) dX7_readCondition_69 71 rfl (by decide) ?_
        refine pv_iload_n (M := mX7_readCondition) 2 dX7_readCondition_71 72 rfl rfl rfl ?_
        have z25 : (124 : Int32).toInt = 124 := by decide
        refine pv_callv (M := mX7_readCondition) (as := [.int 124, .int v3]) (st := []) (kc2 := 0) (ks2 := 0) dX7_readCondition_72 wd678 YX6_aimLeaps ⟨wd679, wd680⟩ (mk_get R.2.2.2.2.2.2.1) rfl rfl (s_X6_aimLeaps_vx g hT I7 lb R.2.2.2.2.2 124 v3) rfl rfl (Nat.le_of_ble_eq_true rfl) (by decide) rfl rfl 75 rfl (fun rv h1 q26 => ?_)
        obtain ⟨m27, n28, rfl, rfl, I29, K30, rm27⟩ := q26
        replace rm27 : (m27 lb 7).toInt = (m5 lb 7).toInt := rm27
        have K30c := K30
        have w31 : (m27 86 3).toInt = (m5 86 3).toInt := congrArg Int32.toInt (K30 86 3 (wr_out (by omega)))
        have w32 : (m27 86 2).toInt = (m5 86 2).toInt := congrArg Int32.toInt (K30 86 2 (wr_out (by omega)))
        have w33 : (m27 86 4).toInt = (m5 86 4).toInt := congrArg Int32.toInt (K30 86 4 (wr_out (by omega)))
        have K30 := K8.trans (K30.sub (by first | exact wR7_r (by omega) | exact wR7_wr))
        show PV _ _ _ _ _ _ _ 75 [.ref 86, .int 6, .int v3, .int y4] [] _
        refine pv_iconst (M := mX7_readCondition) (v := 1) dX7_readCondition_75 76 rfl (by decide) ?_
        have z34 : (1 : Int32).toInt = 1 := by decide
        exact pv_iret (M := mX7_readCondition) dX7_readCondition_76 rfl rfl ⟨_, _, _, rfl, rfl, I29, K30, by decide, by decide, ⟨by omega, by omega, by omega, (by first | exact Or.inl ⟨by decide, by rw [kgc, k27, LB_no (isB_no k27n (by rw [← k31]; omega))]; congr 1; omega⟩ | (exfalso; omega)), by omega⟩⟩
      · have c24 := iv_nle (X := 160) (Y := y4.toInt) c24 (by decide) rfl
        refine pv_aload_n (M := mX7_readCondition) 0 dX7_readCondition_17 18 rfl rfl rfl ?_
        refine pv_iload_n (M := mX7_readCondition) 1 dX7_readCondition_18 19 rfl rfl rfl ?_
        have z35 : (6 : Int32).toInt = 6 := by decide
        refine pv_callv (M := mX7_readCondition) (as := [.int 6]) (st := []) (kc2 := 0) (ks2 := 0) dX7_readCondition_19 wd670 YX7_readPart ⟨wd672, wd13⟩ (mk_get (tl86 hT)) rfl rfl (s_X7_readPart_v6x g hT I7 R (by first | omega | assumption | exact (iv_rng _).2 | exact (iv_rng _).1 | decide) (TBC_eq hp1 kt10)) rfl rfl (Nat.le_of_ble_eq_true rfl) (by decide) rfl rfl 22 rfl (fun rv h1 q36 => ?_)
        obtain ⟨m37, n38, v41, rfl, rfl, I39, K40, pv41, qv41, rv41⟩ := q36
        replace rv41 : (m5 86 3).toInt ≤ (m37 86 3).toInt ∧ (m37 86 3).toInt ≤ (m37 86 2).toInt ∧ (m37 86 2).toInt = (m5 86 2).toInt ∧ ((v41.toInt = 0 ∨ (m5 86 3).toInt + 1 ≤ (m37 86 3).toInt) ∧ TRX (CN (tC m5) 0 (m5 86 3).toInt) (LB (tC m5) 0) (fun a => tC m5 a ≠ 38) v41.toInt (m37 86 3).toInt (m37 86 4).toInt) ∧ (m37 lb 7).toInt = (m5 lb 7).toInt := by have q_ := rv41; (try rw [z35] at q_); exact q_
        have K40c := K40
        have K40 := K8.trans (K40.sub (fun _ _ q => q))
        show PV _ _ _ _ _ _ _ 22 [.ref 86, .int 6, .int v3, .int y4] [.int v41] _
        have k22 := rv41.2.2.2.1.2
        have k22p := rv41.2.2.2.1.1
        rw [kt10] at k22
        refine pv_if_ne (M := mX7_readCondition) (tgt := 27) dX7_readCondition_22 25 rfl (by decide) (fun c45 => ?_) (fun c45 => ?_)
        · have c45 := iv_ne (X := v41.toInt) (Y := 0) c45 rfl (by decide)
          have k27 := (TRX_ok k22 (by omega)).1
          have k27n := (TRX_ok k22 (by omega)).2
          have kt27 : tC m37 = tC m := tC_eq (K40 86 2 rfl) (fun j => K40 87 j rfl)
          refine pv_aload_n (M := mX7_readCondition) 0 dX7_readCondition_27 28 rfl rfl rfl ?_
          refine pv_callv (M := mX7_readCondition) (as := []) (st := []) (kc2 := 0) (ks2 := 0) dX7_readCondition_28 wd527 YX7_peek ⟨wd529, wd2⟩ (mk_get (tl86 hT)) rfl rfl (s_X7_peek_vx g hT I39 R) rfl rfl (Nat.le_of_ble_eq_true rfl) (by decide) rfl rfl 31 rfl (fun rv h1 q49 => ?_)
          obtain ⟨v50, rfl, rfl, pv50, qv50, rv50⟩ := q49
          replace rv50 : v50.toInt = tC m37 (m37 86 3).toInt ∧ (v50.toInt = -1 ∨ (m37 86 3).toInt < (m37 86 2).toInt) := rv50
          show PV _ _ _ _ _ _ _ 31 [.ref 86, .int 6, .int v3, .int y4] [.int v50] _
          have k31 := rv50.1
          have k31b := rv50.2
          rw [kt27] at k31
          refine pv_bipush (M := mX7_readCondition) (v := 124) dX7_readCondition_31 33 rfl (by decide) ?_
          refine pv_icmp_eq (M := mX7_readCondition) (tgt := 39) dX7_readCondition_33 36 rfl (by decide) (fun c54 => ?_) (fun c54 => ?_)
          · have c54 := iv_eq (X := v50.toInt) (Y := 124) c54 rfl (by decide)
            have kB : isB (tC m (m37 86 3).toInt) = true := isB_y (by omega)
            refine pv_aload_n (M := mX7_readCondition) 0 dX7_readCondition_39 40 rfl rfl rfl ?_
            refine mv_get (M := mX7_readCondition) (v := .ref lb) dX7_readCondition_40 FX7 1 wd281 (by decide) (tl86 hT) rfl R.2.2.2.1 43 rfl ?_
            refine pv_bipush (M := mX7_readCondition) (v := 124) dX7_readCondition_43 45 rfl (by decide) ?_
            refine pv_iconst (M := mX7_readCondition) (v := (-1)) dX7_readCondition_45 46 rfl (by decide) ?_
            have z56 : (124 : Int32).toInt = 124 := by decide
            have z57 : ((-1) : Int32).toInt = (-1) := by decide
            refine pv_callv (M := mX7_readCondition) (as := [.int 124, .int (-1)]) (st := []) (kc2 := 0) (ks2 := 0) dX7_readCondition_46 wd567 YX6_emit ⟨wd568, wd569⟩ (mk_get R.2.2.2.2.2.2.1) rfl rfl (s_X6_emit_vx g hT I39 lb R.2.2.2.2.2 124 (-1) (by decide) (by decide)) rfl rfl (Nat.le_of_ble_eq_true rfl) (by decide) rfl rfl 49 rfl (fun rv h1 q58 => ?_)
            obtain ⟨m59, n60, rfl, rfl, I61, K62, rm59⟩ := q58
            replace rm59 : (m59 lb 7).toInt = (m37 lb 7).toInt := rm59
            have K62c := K62
            have w63 : (m59 86 3).toInt = (m37 86 3).toInt := congrArg Int32.toInt (K62 86 3 (wr_out (by omega)))
            have w64 : (m59 86 2).toInt = (m37 86 2).toInt := congrArg Int32.toInt (K62 86 2 (wr_out (by omega)))
            have w65 : (m59 86 4).toInt = (m37 86 4).toInt := congrArg Int32.toInt (K62 86 4 (wr_out (by omega)))
            have K62 := K40.trans (K62.sub (by first | exact wR7_r (by omega) | exact wR7_wr))
            show PV _ _ _ _ _ _ _ 49 [.ref 86, .int 6, .int v3, .int y4] [] _
            refine pv_aload_n (M := mX7_readCondition) 0 dX7_readCondition_49 50 rfl rfl rfl ?_
            refine pv_dup (M := mX7_readCondition) dX7_readCondition_50 51 rfl rfl ?_
            refine iv_get (M := mX7_readCondition) (l1 := 0) (l2 := 160) dX7_readCondition_51 FX7 3 wd283 (by decide) (tl86 hT) rfl I61 rfl 54 rfl (fun v66 ev66 pv66 qv66 => ?_)
            have wv66 : v66.toInt = (m59 86 3).toInt := congrArg Int32.toInt ev66
            refine pv_iconst (M := mX7_readCondition) (v := 1) dX7_readCondition_54 55 rfl (by decide) ?_
            refine iv_iadd (M := mX7_readCondition) (X := v66.toInt) (Y := 1) dX7_readCondition_55 56 rfl rfl (by decide) (by omega) (by omega) (fun v67 ev67 => ?_)
            refine iv_put (M := mX7_readCondition) (l1 := 0) (l2 := 160) dX7_readCondition_56 FX7 3 wd283 (by decide) rfl (tl86 hT) rfl rfl rfl I61 rfl (by omega) (by omega) 59 rfl (fun m68 e71 I69 => ?_)
            have K70 := K62.set e71 (by decide)
            have w72 : (m68 86 3).toInt = v67.toInt := by rw [e71, up2_eq]
            have w73 : (m68 86 2).toInt = (m59 86 2).toInt := by rw [e71, up2_ne (by omega)]
            have w74 : (m68 86 4).toInt = (m59 86 4).toInt := by rw [e71, up2_ne (by omega)]
            have w75 : (m68 lb 7).toInt = (m59 lb 7).toInt := by rw [e71, up2_ne (by omega)]
            refine iv_inc (M := mX7_readCondition) (C := 1) dX7_readCondition_59 62 rfl rfl (by decide) rfl rfl (by decide) (by omega) (by omega) (fun v76 ev76 => ?_)
            show PV _ _ _ _ _ _ _ 62 [.ref 86, .int 6, .int v3, .int v76] [] _
            refine pv_goto (M := mX7_readCondition) (tgt := 10) dX7_readCondition_62 (by decide) ?_
            have kbc : CN (tC m) 0 (m 86 3).toInt = CN (tC m) 0 (m68 86 3).toInt := by rw [kgc, k27, LB_cn kTX (by omega) kB]; congr 1; omega
            exact ih11 v76 m68 n60 (by first | omega | assumption | exact (iv_rng _).2 | exact (iv_rng _).1 | decide) (by first | omega | assumption | exact (iv_rng _).2 | exact (iv_rng _).1 | decide) (by first | omega | assumption | (show (m68 86 3).toInt ≤ (m68 86 2).toInt; omega) | decide) (by first | omega | assumption | (show (m68 86 2).toInt = (m 86 2).toInt; omega) | decide) (by first | omega | assumption | (show (m68 lb 7).toInt = (m lb 7).toInt; omega) | decide) (by first | omega | assumption | (show (m 86 3).toInt + 2 * v76.toInt ≤ (m68 86 3).toInt; omega) | decide) kbc I69 K70 (by omega)
          · have c54 := iv_ne (X := v50.toInt) (Y := 124) c54 rfl (by decide)
            refine pv_goto (M := mX7_readCondition) (tgt := 65) dX7_readCondition_36 (by decide) ?_
            refine pv_aload_n (M := mX7_readCondition) 0 dX7_readCondition_65 66 rfl rfl rfl ?_
            refine mv_get (M := mX7_readCondition) (v := .ref lb) dX7_readCondition_66 FX7 1 wd281 (by decide) (tl86 hT) rfl R.2.2.2.1 69 rfl ?_
            refine pv_bipush (M := mX7_readCondition) (v := 124) dX7_readCondition_69 71 rfl (by decide) ?_
            refine pv_iload_n (M := mX7_readCondition) 2 dX7_readCondition_71 72 rfl rfl rfl ?_
            have z78 : (124 : Int32).toInt = 124 := by decide
            refine pv_callv (M := mX7_readCondition) (as := [.int 124, .int v3]) (st := []) (kc2 := 0) (ks2 := 0) dX7_readCondition_72 wd678 YX6_aimLeaps ⟨wd679, wd680⟩ (mk_get R.2.2.2.2.2.2.1) rfl rfl (s_X6_aimLeaps_vx g hT I39 lb R.2.2.2.2.2 124 v3) rfl rfl (Nat.le_of_ble_eq_true rfl) (by decide) rfl rfl 75 rfl (fun rv h1 q79 => ?_)
            obtain ⟨m80, n81, rfl, rfl, I82, K83, rm80⟩ := q79
            replace rm80 : (m80 lb 7).toInt = (m37 lb 7).toInt := rm80
            have K83c := K83
            have w84 : (m80 86 3).toInt = (m37 86 3).toInt := congrArg Int32.toInt (K83 86 3 (wr_out (by omega)))
            have w85 : (m80 86 2).toInt = (m37 86 2).toInt := congrArg Int32.toInt (K83 86 2 (wr_out (by omega)))
            have w86 : (m80 86 4).toInt = (m37 86 4).toInt := congrArg Int32.toInt (K83 86 4 (wr_out (by omega)))
            have K83 := K40.trans (K83.sub (by first | exact wR7_r (by omega) | exact wR7_wr))
            show PV _ _ _ _ _ _ _ 75 [.ref 86, .int 6, .int v3, .int y4] [] _
            refine pv_iconst (M := mX7_readCondition) (v := 1) dX7_readCondition_75 76 rfl (by decide) ?_
            have z87 : (1 : Int32).toInt = 1 := by decide
            exact pv_iret (M := mX7_readCondition) dX7_readCondition_76 rfl rfl ⟨_, _, _, rfl, rfl, I82, K83, by decide, by decide, ⟨by omega, by omega, by omega, (by first | exact Or.inl ⟨by decide, by rw [kgc, k27, LB_no (isB_no k27n (by rw [← k31]; omega))]; congr 1; omega⟩ | (exfalso; omega)), by omega⟩⟩
        · have c45 := iv_eq (X := v41.toInt) (Y := 0) c45 rfl (by decide)
          refine pv_iconst (M := mX7_readCondition) (v := 0) dX7_readCondition_25 26 rfl (by decide) ?_
          have z88 : (0 : Int32).toInt = 0 := by decide
          exact pv_iret (M := mX7_readCondition) dX7_readCondition_26 rfl rfl ⟨_, _, _, rfl, rfl, I39, K40, by decide, by decide, ⟨by omega, by omega, by omega, Or.inr ⟨by decide, by rw [kgc]; exact TRX_fl k22 (by omega)⟩, by omega⟩⟩
  have z89 : (0 : Int32).toInt = 0 := by decide
  exact lp10 (((160 - 0) : Int).toNat + 1) 0 m n (by first | omega | assumption | exact (iv_rng _).2 | exact (iv_rng _).1 | decide) (by first | omega | assumption | exact (iv_rng _).2 | exact (iv_rng _).1 | decide) (by first | omega | assumption | (show (m 86 3).toInt ≤ (m 86 2).toInt; omega) | decide) (by first | omega | assumption | (show (m 86 2).toInt = (m 86 2).toInt; omega) | decide) (by first | omega | assumption | (show (m lb 7).toInt = (m lb 7).toInt; omega) | decide) (by first | omega | assumption | (show (m 86 3).toInt + 2 * 0 ≤ (m 86 3).toInt; omega) | decide) rfl I Kp (by omega)

set_option maxHeartbeats 2000000 in
set_option maxRecDepth 20000 in
theorem s_X7_readPiece_v5x (g : pv_G) {T : List mv_T} {m : Nat → Nat → Int32} {n : Nat → Nat → Int64} {r : Nat → Value} {la lb : Nat} (hT : TX T) (I : IV BB m) (R : RX T r la lb) (hp0 : (m 86 3).toInt ≤ (m 86 2).toInt) (hp1 : TBC m) : PM g mX7_readPiece yX7_readPiece (sqI T BB wR7 r m 0 1 (fun m' v => (m 86 3).toInt ≤ (m' 86 3).toInt ∧ (m' 86 3).toInt ≤ (m' 86 2).toInt ∧ (m' 86 2).toInt = (m 86 2).toInt ∧ (RSX (PI (tC m) 1 (m 86 3).toInt) v.toInt (m' 86 3).toInt (m' 86 4).toInt) ∧ (m' lb 7).toInt = (m lb 7).toInt)) 11 0 0 [.ref 86, .int 5] (mk T m n r) := by
  have Kp : fr wR7 m m := fr.rf
  have R0 := R
  have zR := R.2.2.2.2.1.1
  have zR2 := R.2.2.2.2.2.1
  have z216 : 0 ≤ (m 86 3).toInt ∧ (m 86 3).toInt ≤ 160 := I 86 3
  have z217 : 0 ≤ (m 86 2).toInt ∧ (m 86 2).toInt ≤ 160 := I 86 2
  refine PM.of 1 (lo := [.ref 86, .int 5, pv_U]) rfl (by decide) rfl rfl (Nat.le_of_ble_eq_true rfl) ?_
  refine pv_aload_n (M := mX7_readPiece) 0 dX7_readPiece_0 1 rfl rfl rfl ?_
  refine pv_callv (M := mX7_readPiece) (as := []) (st := []) (kc2 := 0) (ks2 := 0) dX7_readPiece_1 wd527 YX7_peek ⟨wd529, wd2⟩ (mk_get (tl86 hT)) rfl rfl (s_X7_peek_vx g hT I R) rfl rfl (Nat.le_of_ble_eq_true rfl) (by decide) rfl rfl 4 rfl (fun rv h1 q1 => ?_)
  obtain ⟨v2, rfl, rfl, pv2, qv2, rv2⟩ := q1
  replace rv2 : v2.toInt = tC m (m 86 3).toInt ∧ (v2.toInt = -1 ∨ (m 86 3).toInt < (m 86 2).toInt) := rv2
  show PV _ _ _ _ _ _ _ 4 [.ref 86, .int 5, pv_U] [.int v2] _
  have k4 := rv2.1
  have k4b := rv2.2
  refine pv_bipush (M := mX7_readPiece) (v := 33) dX7_readPiece_4 6 rfl (by decide) ?_
  refine pv_icmp_ne (M := mX7_readPiece) (tgt := 41) dX7_readPiece_6 9 rfl (by decide) (fun c5 => ?_) (fun c5 => ?_)
  · have c5 := iv_ne (X := v2.toInt) (Y := 33) c5 rfl (by decide)
    have kn33 : tC m (m 86 3).toInt ≠ 33 := by omega
    refine pv_aload_n (M := mX7_readPiece) 0 dX7_readPiece_41 42 rfl rfl rfl ?_
    refine pv_callv (M := mX7_readPiece) (as := []) (st := []) (kc2 := 0) (ks2 := 0) dX7_readPiece_42 wd527 YX7_peek ⟨wd529, wd2⟩ (mk_get (tl86 hT)) rfl rfl (s_X7_peek_vx g hT I R) rfl rfl (Nat.le_of_ble_eq_true rfl) (by decide) rfl rfl 45 rfl (fun rv h1 q7 => ?_)
    obtain ⟨v8, rfl, rfl, pv8, qv8, rv8⟩ := q7
    replace rv8 : v8.toInt = tC m (m 86 3).toInt ∧ (v8.toInt = -1 ∨ (m 86 3).toInt < (m 86 2).toInt) := rv8
    show PV _ _ _ _ _ _ _ 45 [.ref 86, .int 5, pv_U] [.int v8] _
    have k45 := rv8.1
    have k45b := rv8.2
    refine pv_bipush (M := mX7_readPiece) (v := 40) dX7_readPiece_45 47 rfl (by decide) ?_
    refine pv_icmp_ne (M := mX7_readPiece) (tgt := 83) dX7_readPiece_47 50 rfl (by decide) (fun c11 => ?_) (fun c11 => ?_)
    · have c11 := iv_ne (X := v8.toInt) (Y := 40) c11 rfl (by decide)
      have kn40 : tC m (m 86 3).toInt ≠ 40 := by omega
      refine pv_aload_n (M := mX7_readPiece) 0 dX7_readPiece_83 84 rfl rfl rfl ?_
      refine pv_iload_n (M := mX7_readPiece) 1 dX7_readPiece_84 85 rfl rfl rfl ?_
      have z13 : (5 : Int32).toInt = 5 := by decide
      refine pv_callv (M := mX7_readPiece) (as := [.int 5]) (st := []) (kc2 := 0) (ks2 := 0) dX7_readPiece_85 wd539 YX7_readSum ⟨wd541, wd4⟩ (mk_get (tl86 hT)) rfl rfl (s_X7_readSum_v5x g hT I R (by first | omega | assumption | exact (iv_rng _).2 | exact (iv_rng _).1 | decide) hp1) rfl rfl (Nat.le_of_ble_eq_true rfl) (by decide) rfl rfl 88 rfl (fun rv h1 q14 => ?_)
      obtain ⟨m15, n16, v19, rfl, rfl, I17, K18, pv19, qv19, rv19⟩ := q14
      replace rv19 : (m 86 3).toInt ≤ (m15 86 3).toInt ∧ (m15 86 3).toInt ≤ (m15 86 2).toInt ∧ (m15 86 2).toInt = (m 86 2).toInt ∧ (RSX (SU (tC m) 1 (m 86 3).toInt) v19.toInt (m15 86 3).toInt (m15 86 4).toInt) ∧ (m15 lb 7).toInt = (m lb 7).toInt := by have q_ := rv19; (try rw [z13] at q_); exact q_
      have K18c := K18
      have K18 := Kp.trans (K18.sub (fun _ _ q => q))
      show PV _ _ _ _ _ _ _ 88 [.ref 86, .int 5, pv_U] [.int v19] _
      have k88 := rv19.2.2.2.1
      refine pv_if_ne (M := mX7_readPiece) (tgt := 93) dX7_readPiece_88 91 rfl (by decide) (fun c21 => ?_) (fun c21 => ?_)
      · have c21 := iv_ne (X := v19.toInt) (Y := 0) c21 rfl (by decide)
        have k93 := RSX_ok k88 (by omega)
        have kt93 : tC m15 = tC m := tC_eq (K18 86 2 rfl) (fun j => K18 87 j rfl)
        have kA93 : (m15 86 3).toInt = (m15 86 3).toInt := rfl
        refine pv_aload_n (M := mX7_readPiece) 0 dX7_readPiece_93 94 rfl rfl rfl ?_
        refine pv_callv (M := mX7_readPiece) (as := []) (st := []) (kc2 := 0) (ks2 := 0) dX7_readPiece_94 wd527 YX7_peek ⟨wd529, wd2⟩ (mk_get (tl86 hT)) rfl rfl (s_X7_peek_vx g hT I17 R) rfl rfl (Nat.le_of_ble_eq_true rfl) (by decide) rfl rfl 97 rfl (fun rv h1 q25 => ?_)
        obtain ⟨v26, rfl, rfl, pv26, qv26, rv26⟩ := q25
        replace rv26 : v26.toInt = tC m15 (m15 86 3).toInt ∧ (v26.toInt = -1 ∨ (m15 86 3).toInt < (m15 86 2).toInt) := rv26
        show PV _ _ _ _ _ _ _ 97 [.ref 86, .int 5, pv_U] [.int v26] _
        have k97 := rv26.1
        have k97b := rv26.2
        rw [kt93] at k97
        refine pv_istore_n (M := mX7_readPiece) 2 (lo2 := [.ref 86, .int 5, .int v26]) dX7_readPiece_97 98 rfl rfl (by decide) rfl rfl ?_
        refine pv_iload_n (M := mX7_readPiece) 2 dX7_readPiece_98 99 rfl rfl rfl ?_
        refine pv_bipush (M := mX7_readPiece) (v := 60) dX7_readPiece_99 101 rfl (by decide) ?_
        refine pv_icmp_eq (M := mX7_readPiece) (tgt := 122) dX7_readPiece_101 104 rfl (by decide) (fun c30 => ?_) (fun c30 => ?_)
        · have c30 := iv_eq (X := v26.toInt) (Y := 60) c30 rfl (by decide)
          have kC : isC (tC m (m15 86 3).toInt) = true := by rw [← k97]; exact isC_y (by omega)
          refine pv_aload_n (M := mX7_readPiece) 0 dX7_readPiece_122 123 rfl rfl rfl ?_
          refine pv_dup (M := mX7_readPiece) dX7_readPiece_123 124 rfl rfl ?_
          refine iv_get (M := mX7_readPiece) (l1 := 0) (l2 := 160) dX7_readPiece_124 FX7 3 wd283 (by decide) (tl86 hT) rfl I17 rfl 127 rfl (fun v32 ev32 pv32 qv32 => ?_)
          have wv32 : v32.toInt = (m15 86 3).toInt := congrArg Int32.toInt ev32
          refine pv_iconst (M := mX7_readPiece) (v := 1) dX7_readPiece_127 128 rfl (by decide) ?_
          refine iv_iadd (M := mX7_readPiece) (X := v32.toInt) (Y := 1) dX7_readPiece_128 129 rfl rfl (by decide) (by omega) (by omega) (fun v33 ev33 => ?_)
          refine iv_put (M := mX7_readPiece) (l1 := 0) (l2 := 160) dX7_readPiece_129 FX7 3 wd283 (by decide) rfl (tl86 hT) rfl rfl rfl I17 rfl (by omega) (by omega) 132 rfl (fun m34 e37 I35 => ?_)
          have K36 := K18.set e37 (by decide)
          have w38 : (m34 86 3).toInt = v33.toInt := by rw [e37, up2_eq]
          have w39 : (m34 86 2).toInt = (m15 86 2).toInt := by rw [e37, up2_ne (by omega)]
          have w40 : (m34 86 4).toInt = (m15 86 4).toInt := by rw [e37, up2_ne (by omega)]
          have w41 : (m34 lb 7).toInt = (m15 lb 7).toInt := by rw [e37, up2_ne (by omega)]
          have kt132 : tC m34 = tC m := tC_eq (K36 86 2 rfl) (fun j => K36 87 j rfl)
          have kp132 : (m34 86 3).toInt = (m15 86 3).toInt + 1 := by omega
          refine pv_aload_n (M := mX7_readPiece) 0 dX7_readPiece_132 133 rfl rfl rfl ?_
          refine pv_iload_n (M := mX7_readPiece) 1 dX7_readPiece_133 134 rfl rfl rfl ?_
          have z44 : (5 : Int32).toInt = 5 := by decide
          refine pv_callv (M := mX7_readPiece) (as := [.int 5]) (st := []) (kc2 := 0) (ks2 := 0) dX7_readPiece_134 wd539 YX7_readSum ⟨wd541, wd4⟩ (mk_get (tl86 hT)) rfl rfl (s_X7_readSum_v5x g hT I35 R (by first | omega | assumption | exact (iv_rng _).2 | exact (iv_rng _).1 | decide) (TBC_eq hp1 kt132)) rfl rfl (Nat.le_of_ble_eq_true rfl) (by decide) rfl rfl 137 rfl (fun rv h1 q45 => ?_)
          obtain ⟨m46, n47, v50, rfl, rfl, I48, K49, pv50, qv50, rv50⟩ := q45
          replace rv50 : (m34 86 3).toInt ≤ (m46 86 3).toInt ∧ (m46 86 3).toInt ≤ (m46 86 2).toInt ∧ (m46 86 2).toInt = (m34 86 2).toInt ∧ (RSX (SU (tC m34) 1 (m34 86 3).toInt) v50.toInt (m46 86 3).toInt (m46 86 4).toInt) ∧ (m46 lb 7).toInt = (m34 lb 7).toInt := by have q_ := rv50; (try rw [z44] at q_); exact q_
          have K49c := K49
          have K49 := K36.trans (K49.sub (fun _ _ q => q))
          show PV _ _ _ _ _ _ _ 137 [.ref 86, .int 5, .int v26] [.int v50] _
          have k137 := rv50.2.2.2.1
          rw [kt132, kp132] at k137
          refine pv_if_ne (M := mX7_readPiece) (tgt := 142) dX7_readPiece_137 140 rfl (by decide) (fun c53 => ?_) (fun c53 => ?_)
          · have c53 := iv_ne (X := v50.toInt) (Y := 0) c53 rfl (by decide)
            refine pv_aload_n (M := mX7_readPiece) 0 dX7_readPiece_142 143 rfl rfl rfl ?_
            refine mv_get (M := mX7_readPiece) (v := .ref lb) dX7_readPiece_143 FX7 1 wd281 (by decide) (tl86 hT) rfl R.2.2.2.1 146 rfl ?_
            refine pv_iload_n (M := mX7_readPiece) 2 dX7_readPiece_146 147 rfl rfl rfl ?_
            refine pv_iconst (M := mX7_readPiece) (v := 0) dX7_readPiece_147 148 rfl (by decide) ?_
            have z54 : (0 : Int32).toInt = 0 := by decide
            refine pv_callv (M := mX7_readPiece) (as := [.int v26, .int 0]) (st := []) (kc2 := 0) (ks2 := 0) dX7_readPiece_148 wd567 YX6_emit ⟨wd568, wd569⟩ (mk_get R.2.2.2.2.2.2.1) rfl rfl (s_X6_emit_vx g hT I48 lb R.2.2.2.2.2 v26 0 (by decide) (by decide)) rfl rfl (Nat.le_of_ble_eq_true rfl) (by decide) rfl rfl 151 rfl (fun rv h1 q55 => ?_)
            obtain ⟨m56, n57, rfl, rfl, I58, K59, rm56⟩ := q55
            replace rm56 : (m56 lb 7).toInt = (m46 lb 7).toInt := rm56
            have K59c := K59
            have w60 : (m56 86 3).toInt = (m46 86 3).toInt := congrArg Int32.toInt (K59 86 3 (wr_out (by omega)))
            have w61 : (m56 86 2).toInt = (m46 86 2).toInt := congrArg Int32.toInt (K59 86 2 (wr_out (by omega)))
            have w62 : (m56 86 4).toInt = (m46 86 4).toInt := congrArg Int32.toInt (K59 86 4 (wr_out (by omega)))
            have K59 := K49.trans (K59.sub (by first | exact wR7_r (by omega) | exact wR7_wr))
            show PV _ _ _ _ _ _ _ 151 [.ref 86, .int 5, .int v26] [] _
            refine pv_iconst (M := mX7_readPiece) (v := 1) dX7_readPiece_151 152 rfl (by decide) ?_
            have z63 : (1 : Int32).toInt = 1 := by decide
            exact pv_iret (M := mX7_readPiece) dX7_readPiece_152 rfl rfl ⟨_, _, _, rfl, rfl, I58, K59, by decide, by decide, ⟨by omega, by omega, by omega, Or.inl ⟨by decide, by rw [PI_cm kn33 kn40, CM_ok k93 kC, RSX_ok k137 (by omega), show (m46 86 3).toInt = (m56 86 3).toInt by omega]⟩, by omega⟩⟩
          · have c53 := iv_eq (X := v50.toInt) (Y := 0) c53 rfl (by decide)
            refine pv_iconst (M := mX7_readPiece) (v := 0) dX7_readPiece_140 141 rfl (by decide) ?_
            have z64 : (0 : Int32).toInt = 0 := by decide
            exact pv_iret (M := mX7_readPiece) dX7_readPiece_141 rfl rfl ⟨_, _, _, rfl, rfl, I48, K49, by decide, by decide, ⟨by omega, by omega, by omega, Or.inr ⟨by decide, by rw [PI_cm kn33 kn40, CM_ok k93 kC]; exact RSX_fl k137 (by omega)⟩, by omega⟩⟩
        · have c30 := iv_ne (X := v26.toInt) (Y := 60) c30 rfl (by decide)
          refine pv_iload_n (M := mX7_readPiece) 2 dX7_readPiece_104 105 rfl rfl rfl ?_
          refine pv_bipush (M := mX7_readPiece) (v := 62) dX7_readPiece_105 107 rfl (by decide) ?_
          refine pv_icmp_eq (M := mX7_readPiece) (tgt := 122) dX7_readPiece_107 110 rfl (by decide) (fun c65 => ?_) (fun c65 => ?_)
          · have c65 := iv_eq (X := v26.toInt) (Y := 62) c65 rfl (by decide)
            have kC : isC (tC m (m15 86 3).toInt) = true := by rw [← k97]; exact isC_y (by omega)
            refine pv_aload_n (M := mX7_readPiece) 0 dX7_readPiece_122 123 rfl rfl rfl ?_
            refine pv_dup (M := mX7_readPiece) dX7_readPiece_123 124 rfl rfl ?_
            refine iv_get (M := mX7_readPiece) (l1 := 0) (l2 := 160) dX7_readPiece_124 FX7 3 wd283 (by decide) (tl86 hT) rfl I17 rfl 127 rfl (fun v67 ev67 pv67 qv67 => ?_)
            have wv67 : v67.toInt = (m15 86 3).toInt := congrArg Int32.toInt ev67
            refine pv_iconst (M := mX7_readPiece) (v := 1) dX7_readPiece_127 128 rfl (by decide) ?_
            refine iv_iadd (M := mX7_readPiece) (X := v67.toInt) (Y := 1) dX7_readPiece_128 129 rfl rfl (by decide) (by omega) (by omega) (fun v68 ev68 => ?_)
            refine iv_put (M := mX7_readPiece) (l1 := 0) (l2 := 160) dX7_readPiece_129 FX7 3 wd283 (by decide) rfl (tl86 hT) rfl rfl rfl I17 rfl (by omega) (by omega) 132 rfl (fun m69 e72 I70 => ?_)
            have K71 := K18.set e72 (by decide)
            have w73 : (m69 86 3).toInt = v68.toInt := by rw [e72, up2_eq]
            have w74 : (m69 86 2).toInt = (m15 86 2).toInt := by rw [e72, up2_ne (by omega)]
            have w75 : (m69 86 4).toInt = (m15 86 4).toInt := by rw [e72, up2_ne (by omega)]
            have w76 : (m69 lb 7).toInt = (m15 lb 7).toInt := by rw [e72, up2_ne (by omega)]
            have kt132 : tC m69 = tC m := tC_eq (K71 86 2 rfl) (fun j => K71 87 j rfl)
            have kp132 : (m69 86 3).toInt = (m15 86 3).toInt + 1 := by omega
            refine pv_aload_n (M := mX7_readPiece) 0 dX7_readPiece_132 133 rfl rfl rfl ?_
            refine pv_iload_n (M := mX7_readPiece) 1 dX7_readPiece_133 134 rfl rfl rfl ?_
            have z79 : (5 : Int32).toInt = 5 := by decide
            refine pv_callv (M := mX7_readPiece) (as := [.int 5]) (st := []) (kc2 := 0) (ks2 := 0) dX7_readPiece_134 wd539 YX7_readSum ⟨wd541, wd4⟩ (mk_get (tl86 hT)) rfl rfl (s_X7_readSum_v5x g hT I70 R (by first | omega | assumption | exact (iv_rng _).2 | exact (iv_rng _).1 | decide) (TBC_eq hp1 kt132)) rfl rfl (Nat.le_of_ble_eq_true rfl) (by decide) rfl rfl 137 rfl (fun rv h1 q80 => ?_)
            obtain ⟨m81, n82, v85, rfl, rfl, I83, K84, pv85, qv85, rv85⟩ := q80
            replace rv85 : (m69 86 3).toInt ≤ (m81 86 3).toInt ∧ (m81 86 3).toInt ≤ (m81 86 2).toInt ∧ (m81 86 2).toInt = (m69 86 2).toInt ∧ (RSX (SU (tC m69) 1 (m69 86 3).toInt) v85.toInt (m81 86 3).toInt (m81 86 4).toInt) ∧ (m81 lb 7).toInt = (m69 lb 7).toInt := by have q_ := rv85; (try rw [z79] at q_); exact q_
            have K84c := K84
            have K84 := K71.trans (K84.sub (fun _ _ q => q))
            show PV _ _ _ _ _ _ _ 137 [.ref 86, .int 5, .int v26] [.int v85] _
            have k137 := rv85.2.2.2.1
            rw [kt132, kp132] at k137
            refine pv_if_ne (M := mX7_readPiece) (tgt := 142) dX7_readPiece_137 140 rfl (by decide) (fun c88 => ?_) (fun c88 => ?_)
            · have c88 := iv_ne (X := v85.toInt) (Y := 0) c88 rfl (by decide)
              refine pv_aload_n (M := mX7_readPiece) 0 dX7_readPiece_142 143 rfl rfl rfl ?_
              refine mv_get (M := mX7_readPiece) (v := .ref lb) dX7_readPiece_143 FX7 1 wd281 (by decide) (tl86 hT) rfl R.2.2.2.1 146 rfl ?_
              refine pv_iload_n (M := mX7_readPiece) 2 dX7_readPiece_146 147 rfl rfl rfl ?_
              refine pv_iconst (M := mX7_readPiece) (v := 0) dX7_readPiece_147 148 rfl (by decide) ?_
              have z89 : (0 : Int32).toInt = 0 := by decide
              refine pv_callv (M := mX7_readPiece) (as := [.int v26, .int 0]) (st := []) (kc2 := 0) (ks2 := 0) dX7_readPiece_148 wd567 YX6_emit ⟨wd568, wd569⟩ (mk_get R.2.2.2.2.2.2.1) rfl rfl (s_X6_emit_vx g hT I83 lb R.2.2.2.2.2 v26 0 (by decide) (by decide)) rfl rfl (Nat.le_of_ble_eq_true rfl) (by decide) rfl rfl 151 rfl (fun rv h1 q90 => ?_)
              obtain ⟨m91, n92, rfl, rfl, I93, K94, rm91⟩ := q90
              replace rm91 : (m91 lb 7).toInt = (m81 lb 7).toInt := rm91
              have K94c := K94
              have w95 : (m91 86 3).toInt = (m81 86 3).toInt := congrArg Int32.toInt (K94 86 3 (wr_out (by omega)))
              have w96 : (m91 86 2).toInt = (m81 86 2).toInt := congrArg Int32.toInt (K94 86 2 (wr_out (by omega)))
              have w97 : (m91 86 4).toInt = (m81 86 4).toInt := congrArg Int32.toInt (K94 86 4 (wr_out (by omega)))
              have K94 := K84.trans (K94.sub (by first | exact wR7_r (by omega) | exact wR7_wr))
              show PV _ _ _ _ _ _ _ 151 [.ref 86, .int 5, .int v26] [] _
              refine pv_iconst (M := mX7_readPiece) (v := 1) dX7_readPiece_151 152 rfl (by decide) ?_
              have z98 : (1 : Int32).toInt = 1 := by decide
              exact pv_iret (M := mX7_readPiece) dX7_readPiece_152 rfl rfl ⟨_, _, _, rfl, rfl, I93, K94, by decide, by decide, ⟨by omega, by omega, by omega, Or.inl ⟨by decide, by rw [PI_cm kn33 kn40, CM_ok k93 kC, RSX_ok k137 (by omega), show (m81 86 3).toInt = (m91 86 3).toInt by omega]⟩, by omega⟩⟩
            · have c88 := iv_eq (X := v85.toInt) (Y := 0) c88 rfl (by decide)
              refine pv_iconst (M := mX7_readPiece) (v := 0) dX7_readPiece_140 141 rfl (by decide) ?_
              have z99 : (0 : Int32).toInt = 0 := by decide
              exact pv_iret (M := mX7_readPiece) dX7_readPiece_141 rfl rfl ⟨_, _, _, rfl, rfl, I83, K84, by decide, by decide, ⟨by omega, by omega, by omega, Or.inr ⟨by decide, by rw [PI_cm kn33 kn40, CM_ok k93 kC]; exact RSX_fl k137 (by omega)⟩, by omega⟩⟩
          · have c65 := iv_ne (X := v26.toInt) (Y := 62) c65 rfl (by decide)
            refine pv_iload_n (M := mX7_readPiece) 2 dX7_readPiece_110 111 rfl rfl rfl ?_
            refine pv_bipush (M := mX7_readPiece) (v := 61) dX7_readPiece_111 113 rfl (by decide) ?_
            refine pv_icmp_eq (M := mX7_readPiece) (tgt := 122) dX7_readPiece_113 116 rfl (by decide) (fun c100 => ?_) (fun c100 => ?_)
            · have c100 := iv_eq (X := v26.toInt) (Y := 61) c100 rfl (by decide)
              have kC : isC (tC m (m15 86 3).toInt) = true := by rw [← k97]; exact isC_y (by omega)
              refine pv_aload_n (M := mX7_readPiece) 0 dX7_readPiece_122 123 rfl rfl rfl ?_
              refine pv_dup (M := mX7_readPiece) dX7_readPiece_123 124 rfl rfl ?_
              refine iv_get (M := mX7_readPiece) (l1 := 0) (l2 := 160) dX7_readPiece_124 FX7 3 wd283 (by decide) (tl86 hT) rfl I17 rfl 127 rfl (fun v102 ev102 pv102 qv102 => ?_)
              have wv102 : v102.toInt = (m15 86 3).toInt := congrArg Int32.toInt ev102
              refine pv_iconst (M := mX7_readPiece) (v := 1) dX7_readPiece_127 128 rfl (by decide) ?_
              refine iv_iadd (M := mX7_readPiece) (X := v102.toInt) (Y := 1) dX7_readPiece_128 129 rfl rfl (by decide) (by omega) (by omega) (fun v103 ev103 => ?_)
              refine iv_put (M := mX7_readPiece) (l1 := 0) (l2 := 160) dX7_readPiece_129 FX7 3 wd283 (by decide) rfl (tl86 hT) rfl rfl rfl I17 rfl (by omega) (by omega) 132 rfl (fun m104 e107 I105 => ?_)
              have K106 := K18.set e107 (by decide)
              have w108 : (m104 86 3).toInt = v103.toInt := by rw [e107, up2_eq]
              have w109 : (m104 86 2).toInt = (m15 86 2).toInt := by rw [e107, up2_ne (by omega)]
              have w110 : (m104 86 4).toInt = (m15 86 4).toInt := by rw [e107, up2_ne (by omega)]
              have w111 : (m104 lb 7).toInt = (m15 lb 7).toInt := by rw [e107, up2_ne (by omega)]
              have kt132 : tC m104 = tC m := tC_eq (K106 86 2 rfl) (fun j => K106 87 j rfl)
              have kp132 : (m104 86 3).toInt = (m15 86 3).toInt + 1 := by omega
              refine pv_aload_n (M := mX7_readPiece) 0 dX7_readPiece_132 133 rfl rfl rfl ?_
              refine pv_iload_n (M := mX7_readPiece) 1 dX7_readPiece_133 134 rfl rfl rfl ?_
              have z114 : (5 : Int32).toInt = 5 := by decide
              refine pv_callv (M := mX7_readPiece) (as := [.int 5]) (st := []) (kc2 := 0) (ks2 := 0) dX7_readPiece_134 wd539 YX7_readSum ⟨wd541, wd4⟩ (mk_get (tl86 hT)) rfl rfl (s_X7_readSum_v5x g hT I105 R (by first | omega | assumption | exact (iv_rng _).2 | exact (iv_rng _).1 | decide) (TBC_eq hp1 kt132)) rfl rfl (Nat.le_of_ble_eq_true rfl) (by decide) rfl rfl 137 rfl (fun rv h1 q115 => ?_)
              obtain ⟨m116, n117, v120, rfl, rfl, I118, K119, pv120, qv120, rv120⟩ := q115
              replace rv120 : (m104 86 3).toInt ≤ (m116 86 3).toInt ∧ (m116 86 3).toInt ≤ (m116 86 2).toInt ∧ (m116 86 2).toInt = (m104 86 2).toInt ∧ (RSX (SU (tC m104) 1 (m104 86 3).toInt) v120.toInt (m116 86 3).toInt (m116 86 4).toInt) ∧ (m116 lb 7).toInt = (m104 lb 7).toInt := by have q_ := rv120; (try rw [z114] at q_); exact q_
              have K119c := K119
              have K119 := K106.trans (K119.sub (fun _ _ q => q))
              show PV _ _ _ _ _ _ _ 137 [.ref 86, .int 5, .int v26] [.int v120] _
              have k137 := rv120.2.2.2.1
              rw [kt132, kp132] at k137
              refine pv_if_ne (M := mX7_readPiece) (tgt := 142) dX7_readPiece_137 140 rfl (by decide) (fun c123 => ?_) (fun c123 => ?_)
              · have c123 := iv_ne (X := v120.toInt) (Y := 0) c123 rfl (by decide)
                refine pv_aload_n (M := mX7_readPiece) 0 dX7_readPiece_142 143 rfl rfl rfl ?_
                refine mv_get (M := mX7_readPiece) (v := .ref lb) dX7_readPiece_143 FX7 1 wd281 (by decide) (tl86 hT) rfl R.2.2.2.1 146 rfl ?_
                refine pv_iload_n (M := mX7_readPiece) 2 dX7_readPiece_146 147 rfl rfl rfl ?_
                refine pv_iconst (M := mX7_readPiece) (v := 0) dX7_readPiece_147 148 rfl (by decide) ?_
                have z124 : (0 : Int32).toInt = 0 := by decide
                refine pv_callv (M := mX7_readPiece) (as := [.int v26, .int 0]) (st := []) (kc2 := 0) (ks2 := 0) dX7_readPiece_148 wd567 YX6_emit ⟨wd568, wd569⟩ (mk_get R.2.2.2.2.2.2.1) rfl rfl (s_X6_emit_vx g hT I118 lb R.2.2.2.2.2 v26 0 (by decide) (by decide)) rfl rfl (Nat.le_of_ble_eq_true rfl) (by decide) rfl rfl 151 rfl (fun rv h1 q125 => ?_)
                obtain ⟨m126, n127, rfl, rfl, I128, K129, rm126⟩ := q125
                replace rm126 : (m126 lb 7).toInt = (m116 lb 7).toInt := rm126
                have K129c := K129
                have w130 : (m126 86 3).toInt = (m116 86 3).toInt := congrArg Int32.toInt (K129 86 3 (wr_out (by omega)))
                have w131 : (m126 86 2).toInt = (m116 86 2).toInt := congrArg Int32.toInt (K129 86 2 (wr_out (by omega)))
                have w132 : (m126 86 4).toInt = (m116 86 4).toInt := congrArg Int32.toInt (K129 86 4 (wr_out (by omega)))
                have K129 := K119.trans (K129.sub (by first | exact wR7_r (by omega) | exact wR7_wr))
                show PV _ _ _ _ _ _ _ 151 [.ref 86, .int 5, .int v26] [] _
                refine pv_iconst (M := mX7_readPiece) (v := 1) dX7_readPiece_151 152 rfl (by decide) ?_
                have z133 : (1 : Int32).toInt = 1 := by decide
                exact pv_iret (M := mX7_readPiece) dX7_readPiece_152 rfl rfl ⟨_, _, _, rfl, rfl, I128, K129, by decide, by decide, ⟨by omega, by omega, by omega, Or.inl ⟨by decide, by rw [PI_cm kn33 kn40, CM_ok k93 kC, RSX_ok k137 (by omega), show (m116 86 3).toInt = (m126 86 3).toInt by omega]⟩, by omega⟩⟩
              · have c123 := iv_eq (X := v120.toInt) (Y := 0) c123 rfl (by decide)
                refine pv_iconst (M := mX7_readPiece) (v := 0) dX7_readPiece_140 141 rfl (by decide) ?_
                have z134 : (0 : Int32).toInt = 0 := by decide
                exact pv_iret (M := mX7_readPiece) dX7_readPiece_141 rfl rfl ⟨_, _, _, rfl, rfl, I118, K119, by decide, by decide, ⟨by omega, by omega, by omega, Or.inr ⟨by decide, by rw [PI_cm kn33 kn40, CM_ok k93 kC]; exact RSX_fl k137 (by omega)⟩, by omega⟩⟩
            · have c100 := iv_ne (X := v26.toInt) (Y := 61) c100 rfl (by decide)
              refine pv_aload_n (M := mX7_readPiece) 0 dX7_readPiece_116 117 rfl rfl rfl ?_
              refine pv_iconst (M := mX7_readPiece) (v := 1) dX7_readPiece_117 118 rfl (by decide) ?_
              have z135 : (1 : Int32).toInt = 1 := by decide
              refine pv_callv (M := mX7_readPiece) (as := [.int 1]) (st := []) (kc2 := 0) (ks2 := 0) dX7_readPiece_118 wd531 YX7_fail ⟨wd533, wd3⟩ (mk_get (tl86 hT)) rfl rfl (s_X7_fail_vx g hT I17 R 1 (by decide) (by decide) (by first | omega | assumption | exact (iv_rng _).2 | exact (iv_rng _).1 | decide)) rfl rfl (Nat.le_of_ble_eq_true rfl) (by decide) rfl rfl 121 rfl (fun rv h1 q136 => ?_)
              obtain ⟨m137, n138, v141, rfl, rfl, I139, K140, pv141, qv141, rv141⟩ := q136
              replace rv141 : (m15 86 3).toInt ≤ (m137 86 3).toInt ∧ (m137 86 3).toInt ≤ (m137 86 2).toInt ∧ (m137 86 2).toInt = (m15 86 2).toInt ∧ (v141.toInt = 0 ∧ (m137 86 3).toInt = (m15 86 3).toInt ∧ (m137 86 4).toInt = -1000 * (1 : Int) - (m15 86 3).toInt) ∧ (m137 lb 7).toInt = (m15 lb 7).toInt := by have q_ := rv141; (try rw [z135] at q_); exact q_
              have K140c := K140
              have K140 := K18.trans (K140.sub (fun _ _ q => q))
              show PV _ _ _ _ _ _ _ 121 [.ref 86, .int 5, .int v26] [.int v141] _
              exact pv_iret (M := mX7_readPiece) dX7_readPiece_121 rfl (iv_nz (by omega) (by omega)) ⟨_, _, _, rfl, rfl, I139, K140, by omega, by omega, ⟨by omega, by omega, by omega, Or.inr ⟨by omega, by rw [PI_cm kn33 kn40]; exact CM_no k93 (isC_no (by omega) (by omega) (by omega)) (by omega)⟩, by omega⟩⟩
      · have c21 := iv_eq (X := v19.toInt) (Y := 0) c21 rfl (by decide)
        refine pv_iconst (M := mX7_readPiece) (v := 0) dX7_readPiece_91 92 rfl (by decide) ?_
        have z142 : (0 : Int32).toInt = 0 := by decide
        exact pv_iret (M := mX7_readPiece) dX7_readPiece_92 rfl rfl ⟨_, _, _, rfl, rfl, I17, K18, by decide, by decide, ⟨by omega, by omega, by omega, Or.inr ⟨by decide, by rw [PI_cm kn33 kn40]; exact CM_fl (RSX_fl k88 (by omega))⟩, by omega⟩⟩
    · have c11 := iv_eq (X := v8.toInt) (Y := 40) c11 rfl (by decide)
      have k40 : tC m (m 86 3).toInt = 40 := by omega
      refine pv_aload_n (M := mX7_readPiece) 0 dX7_readPiece_50 51 rfl rfl rfl ?_
      refine pv_iload_n (M := mX7_readPiece) 1 dX7_readPiece_51 52 rfl rfl rfl ?_
      have z144 : (5 : Int32).toInt = 5 := by decide
      refine pv_callv (M := mX7_readPiece) (as := [.int 5]) (st := []) (kc2 := 0) (ks2 := 0) dX7_readPiece_52 wd551 YX7_open ⟨wd553, wd7⟩ (mk_get (tl86 hT)) rfl rfl (s_X7_open_vx g hT I R 5 (by decide) (by decide) (by first | omega | assumption | exact (iv_rng _).2 | exact (iv_rng _).1 | decide)) rfl rfl (Nat.le_of_ble_eq_true rfl) (by decide) rfl rfl 55 rfl (fun rv h1 q145 => ?_)
      obtain ⟨m146, n147, v150, rfl, rfl, I148, K149, pv150, qv150, rv150⟩ := q145
      replace rv150 : (v150 = 0 ∨ (5 : Int) ≤ 5) ∧ (m 86 3).toInt ≤ (m146 86 3).toInt ∧ (m146 86 3).toInt ≤ (m146 86 2).toInt ∧ (m146 86 2).toInt = (m 86 2).toInt ∧ ((v150.toInt = 1 ∧ (5 : Int) ≤ 5 ∧ (m146 86 3).toInt = (m 86 3).toInt + 1) ∨ (v150.toInt = 0 ∧ 6 ≤ (5 : Int) ∧ (m146 86 4).toInt = -5000 - (m 86 3).toInt ∧ (m146 86 3).toInt = (m 86 3).toInt)) ∧ (m146 lb 7).toInt = (m lb 7).toInt := by have q_ := rv150; (try rw [z144] at q_); exact q_
      have K149c := K149
      have K149 := Kp.trans (K149.sub (fun _ _ q => q))
      show PV _ _ _ _ _ _ _ 55 [.ref 86, .int 5, pv_U] [.int v150] _
      refine pv_if_eq (M := mX7_readPiece) (tgt := 81) dX7_readPiece_55 58 rfl (by decide) (fun c151 => ?_) (fun c151 => ?_)
      · have c151 := iv_eq (X := v150.toInt) (Y := 0) c151 rfl (by decide)
        refine pv_iconst (M := mX7_readPiece) (v := 0) dX7_readPiece_81 82 rfl (by decide) ?_
        have z152 : (0 : Int32).toInt = 0 := by decide
        exact pv_iret (M := mX7_readPiece) dX7_readPiece_82 rfl rfl ⟨_, _, _, rfl, rfl, I148, K149, by decide, by decide, ⟨by omega, by omega, by omega, (by first | exact Or.inr ⟨by decide, PX_deep (Or.inr k40) (by omega)⟩ | exact Or.inr ⟨by decide, PX_cn k40 k68 (fun z => by omega) (by omega)⟩ | exact Or.inl ⟨by decide, PX_co k40 k68 (by omega) (by omega)⟩ | exact Or.inr ⟨by decide, PX_con k40 (RSX_fl k65 (by omega))⟩ | (exfalso; omega)), by omega⟩⟩
      · have pc151 := rv150.1.resolve_left c151
        have c151 := iv_ne (X := v150.toInt) (Y := 0) c151 rfl (by decide)
        have kt58 : tC m146 = tC m := tC_eq (K149 86 2 rfl) (fun j => K149 87 j rfl)
        have kp58 : (m146 86 3).toInt = (m 86 3).toInt + 1 := by omega
        refine pv_aload_n (M := mX7_readPiece) 0 dX7_readPiece_58 59 rfl rfl rfl ?_
        refine pv_iload_n (M := mX7_readPiece) 1 dX7_readPiece_59 60 rfl rfl rfl ?_
        refine pv_iconst (M := mX7_readPiece) (v := 1) dX7_readPiece_60 61 rfl (by decide) ?_
        refine pv_iadd (M := mX7_readPiece) (v := 6) dX7_readPiece_61 62 rfl (by decide) ?_
        have z156 : (6 : Int32).toInt = 6 := by decide
        refine pv_callv (M := mX7_readPiece) (as := [.int 6]) (st := []) (kc2 := 0) (ks2 := 0) dX7_readPiece_62 wd662 YX7_readCondition ⟨wd664, wd12⟩ (mk_get (tl86 hT)) rfl rfl (s_X7_readCondition_v6x g hT I148 R (by first | omega | assumption | exact (iv_rng _).2 | exact (iv_rng _).1 | decide) (TBC_eq hp1 kt58)) rfl rfl (Nat.le_of_ble_eq_true rfl) (by decide) rfl rfl 65 rfl (fun rv h1 q157 => ?_)
        obtain ⟨m158, n159, v162, rfl, rfl, I160, K161, pv162, qv162, rv162⟩ := q157
        replace rv162 : (m146 86 3).toInt ≤ (m158 86 3).toInt ∧ (m158 86 3).toInt ≤ (m158 86 2).toInt ∧ (m158 86 2).toInt = (m146 86 2).toInt ∧ (RSX (CN (tC m146) 0 (m146 86 3).toInt) v162.toInt (m158 86 3).toInt (m158 86 4).toInt) ∧ (m158 lb 7).toInt = (m146 lb 7).toInt := by have q_ := rv162; (try rw [z156] at q_); exact q_
        have K161c := K161
        have K161 := K149.trans (K161.sub (fun _ _ q => q))
        show PV _ _ _ _ _ _ _ 65 [.ref 86, .int 5, pv_U] [.int v162] _
        have k65 := rv162.2.2.2.1
        rw [kt58, kp58] at k65
        refine pv_if_eq (M := mX7_readPiece) (tgt := 81) dX7_readPiece_65 68 rfl (by decide) (fun c165 => ?_) (fun c165 => ?_)
        · have c165 := iv_eq (X := v162.toInt) (Y := 0) c165 rfl (by decide)
          refine pv_iconst (M := mX7_readPiece) (v := 0) dX7_readPiece_81 82 rfl (by decide) ?_
          have z166 : (0 : Int32).toInt = 0 := by decide
          exact pv_iret (M := mX7_readPiece) dX7_readPiece_82 rfl rfl ⟨_, _, _, rfl, rfl, I160, K161, by decide, by decide, ⟨by omega, by omega, by omega, (by first | exact Or.inr ⟨by decide, PX_deep (Or.inr k40) (by omega)⟩ | exact Or.inr ⟨by decide, PX_cn k40 k68 (fun z => by omega) (by omega)⟩ | exact Or.inl ⟨by decide, PX_co k40 k68 (by omega) (by omega)⟩ | exact Or.inr ⟨by decide, PX_con k40 (RSX_fl k65 (by omega))⟩ | (exfalso; omega)), by omega⟩⟩
        · have c165 := iv_ne (X := v162.toInt) (Y := 0) c165 rfl (by decide)
          have k68 := RSX_ok k65 (by omega)
          have kt68 : tC m158 = tC m := tC_eq (K161 86 2 rfl) (fun j => K161 87 j rfl)
          refine pv_aload_n (M := mX7_readPiece) 0 dX7_readPiece_68 69 rfl rfl rfl ?_
          refine pv_bipush (M := mX7_readPiece) (v := 41) dX7_readPiece_69 71 rfl (by decide) ?_
          have z169 : (41 : Int32).toInt = 41 := by decide
          refine pv_callv (M := mX7_readPiece) (as := [.int 41]) (st := []) (kc2 := 0) (ks2 := 0) dX7_readPiece_71 wd555 YX7_pass ⟨wd557, wd8⟩ (mk_get (tl86 hT)) rfl rfl (s_X7_pass_vx g hT I160 R 41 (by decide) (by decide) (by first | omega | assumption | exact (iv_rng _).2 | exact (iv_rng _).1 | decide)) rfl rfl (Nat.le_of_ble_eq_true rfl) (by decide) rfl rfl 74 rfl (fun rv h1 q170 => ?_)
          obtain ⟨m171, n172, v175, rfl, rfl, I173, K174, pv175, qv175, rv175⟩ := q170
          replace rv175 : (m158 86 3).toInt ≤ (m171 86 3).toInt ∧ (m171 86 3).toInt ≤ (m171 86 2).toInt ∧ (m171 86 2).toInt = (m158 86 2).toInt ∧ ((v175.toInt = 1 ∧ tC m158 (m158 86 3).toInt = (41 : Int) ∧ (m171 86 3).toInt = (m158 86 3).toInt + 1) ∨ (v175.toInt = 0 ∧ tC m158 (m158 86 3).toInt ≠ (41 : Int) ∧ (m171 86 4).toInt = -1000 - (m158 86 3).toInt ∧ (m171 86 3).toInt = (m158 86 3).toInt)) ∧ (m171 lb 7).toInt = (m158 lb 7).toInt := by have q_ := rv175; (try rw [z169] at q_); exact q_
          have K174c := K174
          have K174 := K161.trans (K174.sub (fun _ _ q => q))
          show PV _ _ _ _ _ _ _ 74 [.ref 86, .int 5, pv_U] [.int v175] _
          have k74 := rv175.2.2.2.1
          rw [kt68] at k74
          refine pv_if_eq (M := mX7_readPiece) (tgt := 81) dX7_readPiece_74 77 rfl (by decide) (fun c178 => ?_) (fun c178 => ?_)
          · have c178 := iv_eq (X := v175.toInt) (Y := 0) c178 rfl (by decide)
            refine pv_iconst (M := mX7_readPiece) (v := 0) dX7_readPiece_81 82 rfl (by decide) ?_
            have z179 : (0 : Int32).toInt = 0 := by decide
            exact pv_iret (M := mX7_readPiece) dX7_readPiece_82 rfl rfl ⟨_, _, _, rfl, rfl, I173, K174, by decide, by decide, ⟨by omega, by omega, by omega, (by first | exact Or.inr ⟨by decide, PX_deep (Or.inr k40) (by omega)⟩ | exact Or.inr ⟨by decide, PX_cn k40 k68 (fun z => by omega) (by omega)⟩ | exact Or.inl ⟨by decide, PX_co k40 k68 (by omega) (by omega)⟩ | exact Or.inr ⟨by decide, PX_con k40 (RSX_fl k65 (by omega))⟩ | (exfalso; omega)), by omega⟩⟩
          · have c178 := iv_ne (X := v175.toInt) (Y := 0) c178 rfl (by decide)
            refine pv_iconst (M := mX7_readPiece) (v := 1) dX7_readPiece_77 78 rfl (by decide) ?_
            refine pv_goto (M := mX7_readPiece) (tgt := 82) dX7_readPiece_78 (by decide) ?_
            have z180 : (1 : Int32).toInt = 1 := by decide
            exact pv_iret (M := mX7_readPiece) dX7_readPiece_82 rfl rfl ⟨_, _, _, rfl, rfl, I173, K174, by decide, by decide, ⟨by omega, by omega, by omega, (by first | exact Or.inr ⟨by decide, PX_deep (Or.inr k40) (by omega)⟩ | exact Or.inr ⟨by decide, PX_cn k40 k68 (fun z => by omega) (by omega)⟩ | exact Or.inl ⟨by decide, PX_co k40 k68 (by omega) (by omega)⟩ | exact Or.inr ⟨by decide, PX_con k40 (RSX_fl k65 (by omega))⟩ | (exfalso; omega)), by omega⟩⟩
  · have c5 := iv_eq (X := v2.toInt) (Y := 33) c5 rfl (by decide)
    have k33 : tC m (m 86 3).toInt = 33 := by omega
    refine pv_aload_n (M := mX7_readPiece) 0 dX7_readPiece_9 10 rfl rfl rfl ?_
    refine pv_iload_n (M := mX7_readPiece) 1 dX7_readPiece_10 11 rfl rfl rfl ?_
    have z182 : (5 : Int32).toInt = 5 := by decide
    refine pv_callv (M := mX7_readPiece) (as := [.int 5]) (st := []) (kc2 := 0) (ks2 := 0) dX7_readPiece_11 wd551 YX7_open ⟨wd553, wd7⟩ (mk_get (tl86 hT)) rfl rfl (s_X7_open_vx g hT I R 5 (by decide) (by decide) (by first | omega | assumption | exact (iv_rng _).2 | exact (iv_rng _).1 | decide)) rfl rfl (Nat.le_of_ble_eq_true rfl) (by decide) rfl rfl 14 rfl (fun rv h1 q183 => ?_)
    obtain ⟨m184, n185, v188, rfl, rfl, I186, K187, pv188, qv188, rv188⟩ := q183
    replace rv188 : (v188 = 0 ∨ (5 : Int) ≤ 5) ∧ (m 86 3).toInt ≤ (m184 86 3).toInt ∧ (m184 86 3).toInt ≤ (m184 86 2).toInt ∧ (m184 86 2).toInt = (m 86 2).toInt ∧ ((v188.toInt = 1 ∧ (5 : Int) ≤ 5 ∧ (m184 86 3).toInt = (m 86 3).toInt + 1) ∨ (v188.toInt = 0 ∧ 6 ≤ (5 : Int) ∧ (m184 86 4).toInt = -5000 - (m 86 3).toInt ∧ (m184 86 3).toInt = (m 86 3).toInt)) ∧ (m184 lb 7).toInt = (m lb 7).toInt := by have q_ := rv188; (try rw [z182] at q_); exact q_
    have K187c := K187
    have K187 := Kp.trans (K187.sub (fun _ _ q => q))
    show PV _ _ _ _ _ _ _ 14 [.ref 86, .int 5, pv_U] [.int v188] _
    refine pv_if_eq (M := mX7_readPiece) (tgt := 27) dX7_readPiece_14 17 rfl (by decide) (fun c189 => ?_) (fun c189 => ?_)
    · have c189 := iv_eq (X := v188.toInt) (Y := 0) c189 rfl (by decide)
      refine pv_iconst (M := mX7_readPiece) (v := 0) dX7_readPiece_27 28 rfl (by decide) ?_
      have z190 : (0 : Int32).toInt = 0 := by decide
      exact pv_iret (M := mX7_readPiece) dX7_readPiece_28 rfl rfl ⟨_, _, _, rfl, rfl, I186, K187, by decide, by decide, ⟨by omega, by omega, by omega, (by first | exact Or.inr ⟨by decide, PX_deep (Or.inl k33) (by omega)⟩ | exact Or.inr ⟨by decide, by rw [PI_not k33]; exact RSX_fl k24 (by omega)⟩ | (exfalso; omega)), by omega⟩⟩
    · have pc189 := rv188.1.resolve_left c189
      have c189 := iv_ne (X := v188.toInt) (Y := 0) c189 rfl (by decide)
      have kt17 : tC m184 = tC m := tC_eq (K187 86 2 rfl) (fun j => K187 87 j rfl)
      have kp17 : (m184 86 3).toInt = (m 86 3).toInt + 1 := by omega
      refine pv_aload_n (M := mX7_readPiece) 0 dX7_readPiece_17 18 rfl rfl rfl ?_
      refine pv_iload_n (M := mX7_readPiece) 1 dX7_readPiece_18 19 rfl rfl rfl ?_
      refine pv_iconst (M := mX7_readPiece) (v := 1) dX7_readPiece_19 20 rfl (by decide) ?_
      refine pv_iadd (M := mX7_readPiece) (v := 6) dX7_readPiece_20 21 rfl (by decide) ?_
      have z194 : (6 : Int32).toInt = 6 := by decide
      refine pv_callv (M := mX7_readPiece) (as := [.int 6]) (st := []) (kc2 := 0) (ks2 := 0) dX7_readPiece_21 wd674 YX7_readPiece ⟨wd676, wd14⟩ (mk_get (tl86 hT)) rfl rfl (s_X7_readPiece_v6x g hT I186 R (by first | omega | assumption | exact (iv_rng _).2 | exact (iv_rng _).1 | decide) (TBC_eq hp1 kt17)) rfl rfl (Nat.le_of_ble_eq_true rfl) (by decide) rfl rfl 24 rfl (fun rv h1 q195 => ?_)
      obtain ⟨m196, n197, v200, rfl, rfl, I198, K199, pv200, qv200, rv200⟩ := q195
      replace rv200 : (m184 86 3).toInt ≤ (m196 86 3).toInt ∧ (m196 86 3).toInt ≤ (m196 86 2).toInt ∧ (m196 86 2).toInt = (m184 86 2).toInt ∧ (RSX (PI (tC m184) 0 (m184 86 3).toInt) v200.toInt (m196 86 3).toInt (m196 86 4).toInt) ∧ (m196 lb 7).toInt = (m184 lb 7).toInt := by have q_ := rv200; (try rw [z194] at q_); exact q_
      have K199c := K199
      have K199 := K187.trans (K199.sub (fun _ _ q => q))
      show PV _ _ _ _ _ _ _ 24 [.ref 86, .int 5, pv_U] [.int v200] _
      have k24 := rv200.2.2.2.1
      rw [kt17, kp17] at k24
      refine pv_if_ne (M := mX7_readPiece) (tgt := 29) dX7_readPiece_24 27 rfl (by decide) (fun c203 => ?_) (fun c203 => ?_)
      · have c203 := iv_ne (X := v200.toInt) (Y := 0) c203 rfl (by decide)
        refine pv_aload_n (M := mX7_readPiece) 0 dX7_readPiece_29 30 rfl rfl rfl ?_
        refine mv_get (M := mX7_readPiece) (v := .ref lb) dX7_readPiece_30 FX7 1 wd281 (by decide) (tl86 hT) rfl R.2.2.2.1 33 rfl ?_
        refine pv_bipush (M := mX7_readPiece) (v := 33) dX7_readPiece_33 35 rfl (by decide) ?_
        refine pv_iconst (M := mX7_readPiece) (v := 0) dX7_readPiece_35 36 rfl (by decide) ?_
        have z204 : (33 : Int32).toInt = 33 := by decide
        have z205 : (0 : Int32).toInt = 0 := by decide
        refine pv_callv (M := mX7_readPiece) (as := [.int 33, .int 0]) (st := []) (kc2 := 0) (ks2 := 0) dX7_readPiece_36 wd567 YX6_emit ⟨wd568, wd569⟩ (mk_get R.2.2.2.2.2.2.1) rfl rfl (s_X6_emit_vx g hT I198 lb R.2.2.2.2.2 33 0 (by decide) (by decide)) rfl rfl (Nat.le_of_ble_eq_true rfl) (by decide) rfl rfl 39 rfl (fun rv h1 q206 => ?_)
        obtain ⟨m207, n208, rfl, rfl, I209, K210, rm207⟩ := q206
        replace rm207 : (m207 lb 7).toInt = (m196 lb 7).toInt := rm207
        have K210c := K210
        have w211 : (m207 86 3).toInt = (m196 86 3).toInt := congrArg Int32.toInt (K210 86 3 (wr_out (by omega)))
        have w212 : (m207 86 2).toInt = (m196 86 2).toInt := congrArg Int32.toInt (K210 86 2 (wr_out (by omega)))
        have w213 : (m207 86 4).toInt = (m196 86 4).toInt := congrArg Int32.toInt (K210 86 4 (wr_out (by omega)))
        have K210 := K199.trans (K210.sub (by first | exact wR7_r (by omega) | exact wR7_wr))
        show PV _ _ _ _ _ _ _ 39 [.ref 86, .int 5, pv_U] [] _
        refine pv_iconst (M := mX7_readPiece) (v := 1) dX7_readPiece_39 40 rfl (by decide) ?_
        have z214 : (1 : Int32).toInt = 1 := by decide
        exact pv_iret (M := mX7_readPiece) dX7_readPiece_40 rfl rfl ⟨_, _, _, rfl, rfl, I209, K210, by decide, by decide, ⟨by omega, by omega, by omega, Or.inl ⟨by decide, by rw [PI_not k33, RSX_ok k24 (by omega), show (m196 86 3).toInt = (m207 86 3).toInt by omega]⟩, by omega⟩⟩
      · have c203 := iv_eq (X := v200.toInt) (Y := 0) c203 rfl (by decide)
        refine pv_iconst (M := mX7_readPiece) (v := 0) dX7_readPiece_27 28 rfl (by decide) ?_
        have z215 : (0 : Int32).toInt = 0 := by decide
        exact pv_iret (M := mX7_readPiece) dX7_readPiece_28 rfl rfl ⟨_, _, _, rfl, rfl, I198, K199, by decide, by decide, ⟨by omega, by omega, by omega, (by first | exact Or.inr ⟨by decide, PX_deep (Or.inl k33) (by omega)⟩ | exact Or.inr ⟨by decide, by rw [PI_not k33]; exact RSX_fl k24 (by omega)⟩ | (exfalso; omega)), by omega⟩⟩

set_option maxHeartbeats 2000000 in
set_option maxRecDepth 20000 in
theorem s_X7_readPart_v5x (g : pv_G) {T : List mv_T} {m : Nat → Nat → Int32} {n : Nat → Nat → Int64} {r : Nat → Value} {la lb : Nat} (hT : TX T) (I : IV BB m) (R : RX T r la lb) (hp0 : (m 86 3).toInt ≤ (m 86 2).toInt) (hp1 : TBC m) : PM g mX7_readPart yX7_readPart (sqI T BB wR7 r m 0 1 (fun m' v => (m 86 3).toInt ≤ (m' 86 3).toInt ∧ (m' 86 3).toInt ≤ (m' 86 2).toInt ∧ (m' 86 2).toInt = (m 86 2).toInt ∧ ((v.toInt = 0 ∨ (m 86 3).toInt + 1 ≤ (m' 86 3).toInt) ∧ TRX (CN (tC m) 1 (m 86 3).toInt) (LB (tC m) 1) (fun a => tC m a ≠ 38) v.toInt (m' 86 3).toInt (m' 86 4).toInt) ∧ (m' lb 7).toInt = (m lb 7).toInt)) 12 0 0 [.ref 86, .int 5] (mk T m n r) := by
  have Kp : fr wR7 m m := fr.rf
  have R0 := R
  have zR := R.2.2.2.2.1.1
  have zR2 := R.2.2.2.2.2.1
  have z91 : 0 ≤ (m 86 3).toInt ∧ (m 86 3).toInt ≤ 160 := I 86 3
  have z92 : 0 ≤ (m 86 2).toInt ∧ (m 86 2).toInt ≤ 160 := I 86 2
  refine PM.of 2 (lo := [.ref 86, .int 5, pv_U, pv_U]) rfl (by decide) rfl rfl (Nat.le_of_ble_eq_true rfl) ?_
  have kTX := TXT_C I
  refine pv_aload_n (M := mX7_readPart) 0 dX7_readPart_0 1 rfl rfl rfl ?_
  refine mv_get (M := mX7_readPart) (v := .ref lb) dX7_readPart_1 FX7 1 wd281 (by decide) (tl86 hT) rfl R.2.2.2.1 4 rfl ?_
  refine pv_callv (M := mX7_readPart) (as := []) (st := []) (kc2 := 0) (ks2 := 0) dX7_readPart_4 wd666 YX6_steps ⟨wd667, wd668⟩ (mk_get R.2.2.2.2.2.2.1) rfl rfl (s_X6_steps g hT I lb R.2.2.2.2.2) rfl rfl (Nat.le_of_ble_eq_true rfl) (by decide) rfl rfl 7 rfl (fun rv h1 q2 => ?_)
  obtain ⟨v3, rfl, rfl, pv3, qv3, rv3⟩ := q2
  show PV _ _ _ _ _ _ _ 7 [.ref 86, .int 5, pv_U, pv_U] [.int v3] _
  refine pv_istore_n (M := mX7_readPart) 2 (lo2 := [.ref 86, .int 5, .int v3, pv_U]) dX7_readPart_7 8 rfl rfl (by decide) rfl rfl ?_
  refine pv_iconst (M := mX7_readPart) (v := 0) dX7_readPart_8 9 rfl (by decide) ?_
  refine pv_istore_n (M := mX7_readPart) 3 (lo2 := [.ref 86, .int 5, .int v3, .int 0]) dX7_readPart_9 10 rfl rfl (by decide) rfl rfl ?_
  have lp10 : ∀ (fuel9 : Nat) (y4 : Int32) (m5 : Nat → Nat → Int32) (n6 : Nat → Nat → Int64), (0 ≤ y4.toInt) → (y4.toInt ≤ 160) → ((m5 86 3).toInt ≤ (m5 86 2).toInt) → ((m5 86 2).toInt = (m 86 2).toInt) → ((m5 lb 7).toInt = (m lb 7).toInt) → ((m 86 3).toInt + 2 * y4.toInt ≤ (m5 86 3).toInt) → (CN (tC m) 1 (m 86 3).toInt = CN (tC m) 1 (m5 86 3).toInt) → IV BB m5 → fr wR7 m m5 → ((160 - y4.toInt) : Int).toNat < fuel9 → PV none g mX7_readPart (sqI T BB wR7 r m 0 1 (fun m' v => (m 86 3).toInt ≤ (m' 86 3).toInt ∧ (m' 86 3).toInt ≤ (m' 86 2).toInt ∧ (m' 86 2).toInt = (m 86 2).toInt ∧ ((v.toInt = 0 ∨ (m 86 3).toInt + 1 ≤ (m' 86 3).toInt) ∧ TRX (CN (tC m) 1 (m 86 3).toInt) (LB (tC m) 1) (fun a => tC m a ≠ 38) v.toInt (m' 86 3).toInt (m' 86 4).toInt) ∧ (m' lb 7).toInt = (m lb 7).toInt)) 12 0 0 10 [.ref 86, .int 5, .int v3, .int y4] [] (mk T m5 n6 r) := by
    intro fuel9
    induction fuel9 with
    | zero => intro y4 m5 n6 b12 b13 b14 b15 b16 b17 b18 I7 K8 z19; omega
    | succ fuel9 ih11 =>
      intro y4 m5 n6 b12 b13 b14 b15 b16 b17 b18 I7 K8 z19
      have z20 : 0 ≤ (m5 86 3).toInt ∧ (m5 86 3).toInt ≤ 160 := I7 86 3
      have z21 : 0 ≤ (m5 86 2).toInt ∧ (m5 86 2).toInt ≤ 160 := I7 86 2
      have kgc := (show CN (tC m) 1 (m 86 3).toInt = CN (tC m) 1 (m5 86 3).toInt by assumption)
      have kt10 : tC m5 = tC m := tC_eq (K8 86 2 rfl) (fun j => K8 87 j rfl)
      refine pv_iload_n (M := mX7_readPart) 3 dX7_readPart_10 11 rfl rfl rfl ?_
      refine pv_sipush (M := mX7_readPart) (v := 160) dX7_readPart_11 14 rfl (by decide) ?_
      refine pv_icmp_ge (M := mX7_readPart) (tgt := 65) dX7_readPart_14 17 rfl (by decide) (fun c24 => ?_) (fun c24 => ?_)
      · have c24 := iv_le (X := 160) (Y := y4.toInt) c24 (by decide) rfl
        refine pv_aload_n (M := mX7_readPart) 0 dX7_readPart_65 66 rfl rfl rfl ?_
        refine mv_get (M := mX7_readPart) (v := .ref lb) dX7_readPart_66 FX7 1 wd281 (by decide) (tl86 hT) rfl R.2.2.2.1 69 rfl ?_
        refine pv_bipush (M := mX7_readPart) (v := 38) dX7_readPart_69 71 rfl (by decide) ?_
        refine pv_iload_n (M := mX7_readPart) 2 dX7_readPart_71 72 rfl rfl rfl ?_
        have z25 : (38 : Int32).toInt = 38 := by decide
        refine pv_callv (M := mX7_readPart) (as := [.int 38, .int v3]) (st := []) (kc2 := 0) (ks2 := 0) dX7_readPart_72 wd678 YX6_aimLeaps ⟨wd679, wd680⟩ (mk_get R.2.2.2.2.2.2.1) rfl rfl (s_X6_aimLeaps_vx g hT I7 lb R.2.2.2.2.2 38 v3) rfl rfl (Nat.le_of_ble_eq_true rfl) (by decide) rfl rfl 75 rfl (fun rv h1 q26 => ?_)
        obtain ⟨m27, n28, rfl, rfl, I29, K30, rm27⟩ := q26
        replace rm27 : (m27 lb 7).toInt = (m5 lb 7).toInt := rm27
        have K30c := K30
        have w31 : (m27 86 3).toInt = (m5 86 3).toInt := congrArg Int32.toInt (K30 86 3 (wr_out (by omega)))
        have w32 : (m27 86 2).toInt = (m5 86 2).toInt := congrArg Int32.toInt (K30 86 2 (wr_out (by omega)))
        have w33 : (m27 86 4).toInt = (m5 86 4).toInt := congrArg Int32.toInt (K30 86 4 (wr_out (by omega)))
        have K30 := K8.trans (K30.sub (by first | exact wR7_r (by omega) | exact wR7_wr))
        show PV _ _ _ _ _ _ _ 75 [.ref 86, .int 5, .int v3, .int y4] [] _
        refine pv_iconst (M := mX7_readPart) (v := 1) dX7_readPart_75 76 rfl (by decide) ?_
        have z34 : (1 : Int32).toInt = 1 := by decide
        exact pv_iret (M := mX7_readPart) dX7_readPart_76 rfl rfl ⟨_, _, _, rfl, rfl, I29, K30, by decide, by decide, ⟨by omega, by omega, by omega, (by first | exact ⟨Or.inr (by omega), Or.inl ⟨by decide, by rw [kgc, k27]; congr 1; omega, by show tC m (m27 86 3).toInt ≠ 38; rw [show (m27 86 3).toInt = (m5 86 3).toInt by omega, ← k31]; omega⟩⟩ | (exfalso; omega)), by omega⟩⟩
      · have c24 := iv_nle (X := 160) (Y := y4.toInt) c24 (by decide) rfl
        refine pv_aload_n (M := mX7_readPart) 0 dX7_readPart_17 18 rfl rfl rfl ?_
        refine pv_iload_n (M := mX7_readPart) 1 dX7_readPart_18 19 rfl rfl rfl ?_
        have z35 : (5 : Int32).toInt = 5 := by decide
        refine pv_callv (M := mX7_readPart) (as := [.int 5]) (st := []) (kc2 := 0) (ks2 := 0) dX7_readPart_19 wd674 YX7_readPiece ⟨wd676, wd14⟩ (mk_get (tl86 hT)) rfl rfl (s_X7_readPiece_v5x g hT I7 R (by first | omega | assumption | exact (iv_rng _).2 | exact (iv_rng _).1 | decide) (TBC_eq hp1 kt10)) rfl rfl (Nat.le_of_ble_eq_true rfl) (by decide) rfl rfl 22 rfl (fun rv h1 q36 => ?_)
        obtain ⟨m37, n38, v41, rfl, rfl, I39, K40, pv41, qv41, rv41⟩ := q36
        replace rv41 : (m5 86 3).toInt ≤ (m37 86 3).toInt ∧ (m37 86 3).toInt ≤ (m37 86 2).toInt ∧ (m37 86 2).toInt = (m5 86 2).toInt ∧ (RSX (PI (tC m5) 1 (m5 86 3).toInt) v41.toInt (m37 86 3).toInt (m37 86 4).toInt) ∧ (m37 lb 7).toInt = (m5 lb 7).toInt := by have q_ := rv41; (try rw [z35] at q_); exact q_
        have K40c := K40
        have K40 := K8.trans (K40.sub (fun _ _ q => q))
        show PV _ _ _ _ _ _ _ 22 [.ref 86, .int 5, .int v3, .int y4] [.int v41] _
        have k22 := rv41.2.2.2.1
        rw [kt10] at k22
        refine pv_if_ne (M := mX7_readPart) (tgt := 27) dX7_readPart_22 25 rfl (by decide) (fun c44 => ?_) (fun c44 => ?_)
        · have c44 := iv_ne (X := v41.toInt) (Y := 0) c44 rfl (by decide)
          have k27o := RSX_ok k22 (by omega)
          have k27 := CN_ok k27o
          have k27p := PI_le 1 (m5 86 3).toInt (by rw [k27o])
          rw [k27o] at k27p
          have kt27 : tC m37 = tC m := tC_eq (K40 86 2 rfl) (fun j => K40 87 j rfl)
          refine pv_aload_n (M := mX7_readPart) 0 dX7_readPart_27 28 rfl rfl rfl ?_
          refine pv_callv (M := mX7_readPart) (as := []) (st := []) (kc2 := 0) (ks2 := 0) dX7_readPart_28 wd527 YX7_peek ⟨wd529, wd2⟩ (mk_get (tl86 hT)) rfl rfl (s_X7_peek_vx g hT I39 R) rfl rfl (Nat.le_of_ble_eq_true rfl) (by decide) rfl rfl 31 rfl (fun rv h1 q50 => ?_)
          obtain ⟨v51, rfl, rfl, pv51, qv51, rv51⟩ := q50
          replace rv51 : v51.toInt = tC m37 (m37 86 3).toInt ∧ (v51.toInt = -1 ∨ (m37 86 3).toInt < (m37 86 2).toInt) := rv51
          show PV _ _ _ _ _ _ _ 31 [.ref 86, .int 5, .int v3, .int y4] [.int v51] _
          have k31 := rv51.1
          have k31b := rv51.2
          rw [kt27] at k31
          refine pv_bipush (M := mX7_readPart) (v := 38) dX7_readPart_31 33 rfl (by decide) ?_
          refine pv_icmp_eq (M := mX7_readPart) (tgt := 39) dX7_readPart_33 36 rfl (by decide) (fun c55 => ?_) (fun c55 => ?_)
          · have c55 := iv_eq (X := v51.toInt) (Y := 38) c55 rfl (by decide)
            have kB : isB (tC m (m37 86 3).toInt) = true := isB_y (by omega)
            refine pv_aload_n (M := mX7_readPart) 0 dX7_readPart_39 40 rfl rfl rfl ?_
            refine mv_get (M := mX7_readPart) (v := .ref lb) dX7_readPart_40 FX7 1 wd281 (by decide) (tl86 hT) rfl R.2.2.2.1 43 rfl ?_
            refine pv_bipush (M := mX7_readPart) (v := 38) dX7_readPart_43 45 rfl (by decide) ?_
            refine pv_iconst (M := mX7_readPart) (v := (-1)) dX7_readPart_45 46 rfl (by decide) ?_
            have z57 : (38 : Int32).toInt = 38 := by decide
            have z58 : ((-1) : Int32).toInt = (-1) := by decide
            refine pv_callv (M := mX7_readPart) (as := [.int 38, .int (-1)]) (st := []) (kc2 := 0) (ks2 := 0) dX7_readPart_46 wd567 YX6_emit ⟨wd568, wd569⟩ (mk_get R.2.2.2.2.2.2.1) rfl rfl (s_X6_emit_vx g hT I39 lb R.2.2.2.2.2 38 (-1) (by decide) (by decide)) rfl rfl (Nat.le_of_ble_eq_true rfl) (by decide) rfl rfl 49 rfl (fun rv h1 q59 => ?_)
            obtain ⟨m60, n61, rfl, rfl, I62, K63, rm60⟩ := q59
            replace rm60 : (m60 lb 7).toInt = (m37 lb 7).toInt := rm60
            have K63c := K63
            have w64 : (m60 86 3).toInt = (m37 86 3).toInt := congrArg Int32.toInt (K63 86 3 (wr_out (by omega)))
            have w65 : (m60 86 2).toInt = (m37 86 2).toInt := congrArg Int32.toInt (K63 86 2 (wr_out (by omega)))
            have w66 : (m60 86 4).toInt = (m37 86 4).toInt := congrArg Int32.toInt (K63 86 4 (wr_out (by omega)))
            have K63 := K40.trans (K63.sub (by first | exact wR7_r (by omega) | exact wR7_wr))
            show PV _ _ _ _ _ _ _ 49 [.ref 86, .int 5, .int v3, .int y4] [] _
            refine pv_aload_n (M := mX7_readPart) 0 dX7_readPart_49 50 rfl rfl rfl ?_
            refine pv_dup (M := mX7_readPart) dX7_readPart_50 51 rfl rfl ?_
            refine iv_get (M := mX7_readPart) (l1 := 0) (l2 := 160) dX7_readPart_51 FX7 3 wd283 (by decide) (tl86 hT) rfl I62 rfl 54 rfl (fun v67 ev67 pv67 qv67 => ?_)
            have wv67 : v67.toInt = (m60 86 3).toInt := congrArg Int32.toInt ev67
            refine pv_iconst (M := mX7_readPart) (v := 1) dX7_readPart_54 55 rfl (by decide) ?_
            refine iv_iadd (M := mX7_readPart) (X := v67.toInt) (Y := 1) dX7_readPart_55 56 rfl rfl (by decide) (by omega) (by omega) (fun v68 ev68 => ?_)
            refine iv_put (M := mX7_readPart) (l1 := 0) (l2 := 160) dX7_readPart_56 FX7 3 wd283 (by decide) rfl (tl86 hT) rfl rfl rfl I62 rfl (by omega) (by omega) 59 rfl (fun m69 e72 I70 => ?_)
            have K71 := K63.set e72 (by decide)
            have w73 : (m69 86 3).toInt = v68.toInt := by rw [e72, up2_eq]
            have w74 : (m69 86 2).toInt = (m60 86 2).toInt := by rw [e72, up2_ne (by omega)]
            have w75 : (m69 86 4).toInt = (m60 86 4).toInt := by rw [e72, up2_ne (by omega)]
            have w76 : (m69 lb 7).toInt = (m60 lb 7).toInt := by rw [e72, up2_ne (by omega)]
            refine iv_inc (M := mX7_readPart) (C := 1) dX7_readPart_59 62 rfl rfl (by decide) rfl rfl (by decide) (by omega) (by omega) (fun v77 ev77 => ?_)
            show PV _ _ _ _ _ _ _ 62 [.ref 86, .int 5, .int v3, .int v77] [] _
            refine pv_goto (M := mX7_readPart) (tgt := 10) dX7_readPart_62 (by decide) ?_
            have kbc : CN (tC m) 1 (m 86 3).toInt = CN (tC m) 1 (m69 86 3).toInt := by rw [kgc, k27, LB_cn kTX (by omega) kB]; congr 1; omega
            exact ih11 v77 m69 n61 (by first | omega | assumption | exact (iv_rng _).2 | exact (iv_rng _).1 | decide) (by first | omega | assumption | exact (iv_rng _).2 | exact (iv_rng _).1 | decide) (by first | omega | assumption | (show (m69 86 3).toInt ≤ (m69 86 2).toInt; omega) | decide) (by first | omega | assumption | (show (m69 86 2).toInt = (m 86 2).toInt; omega) | decide) (by first | omega | assumption | (show (m69 lb 7).toInt = (m lb 7).toInt; omega) | decide) (by first | omega | assumption | (show (m 86 3).toInt + 2 * v77.toInt ≤ (m69 86 3).toInt; omega) | decide) kbc I70 K71 (by omega)
          · have c55 := iv_ne (X := v51.toInt) (Y := 38) c55 rfl (by decide)
            refine pv_goto (M := mX7_readPart) (tgt := 65) dX7_readPart_36 (by decide) ?_
            refine pv_aload_n (M := mX7_readPart) 0 dX7_readPart_65 66 rfl rfl rfl ?_
            refine mv_get (M := mX7_readPart) (v := .ref lb) dX7_readPart_66 FX7 1 wd281 (by decide) (tl86 hT) rfl R.2.2.2.1 69 rfl ?_
            refine pv_bipush (M := mX7_readPart) (v := 38) dX7_readPart_69 71 rfl (by decide) ?_
            refine pv_iload_n (M := mX7_readPart) 2 dX7_readPart_71 72 rfl rfl rfl ?_
            have z79 : (38 : Int32).toInt = 38 := by decide
            refine pv_callv (M := mX7_readPart) (as := [.int 38, .int v3]) (st := []) (kc2 := 0) (ks2 := 0) dX7_readPart_72 wd678 YX6_aimLeaps ⟨wd679, wd680⟩ (mk_get R.2.2.2.2.2.2.1) rfl rfl (s_X6_aimLeaps_vx g hT I39 lb R.2.2.2.2.2 38 v3) rfl rfl (Nat.le_of_ble_eq_true rfl) (by decide) rfl rfl 75 rfl (fun rv h1 q80 => ?_)
            obtain ⟨m81, n82, rfl, rfl, I83, K84, rm81⟩ := q80
            replace rm81 : (m81 lb 7).toInt = (m37 lb 7).toInt := rm81
            have K84c := K84
            have w85 : (m81 86 3).toInt = (m37 86 3).toInt := congrArg Int32.toInt (K84 86 3 (wr_out (by omega)))
            have w86 : (m81 86 2).toInt = (m37 86 2).toInt := congrArg Int32.toInt (K84 86 2 (wr_out (by omega)))
            have w87 : (m81 86 4).toInt = (m37 86 4).toInt := congrArg Int32.toInt (K84 86 4 (wr_out (by omega)))
            have K84 := K40.trans (K84.sub (by first | exact wR7_r (by omega) | exact wR7_wr))
            show PV _ _ _ _ _ _ _ 75 [.ref 86, .int 5, .int v3, .int y4] [] _
            refine pv_iconst (M := mX7_readPart) (v := 1) dX7_readPart_75 76 rfl (by decide) ?_
            have z88 : (1 : Int32).toInt = 1 := by decide
            exact pv_iret (M := mX7_readPart) dX7_readPart_76 rfl rfl ⟨_, _, _, rfl, rfl, I83, K84, by decide, by decide, ⟨by omega, by omega, by omega, (by first | exact ⟨Or.inr (by omega), Or.inl ⟨by decide, by rw [kgc, k27]; congr 1; omega, by show tC m (m81 86 3).toInt ≠ 38; rw [show (m81 86 3).toInt = (m37 86 3).toInt by omega, ← k31]; omega⟩⟩ | (exfalso; omega)), by omega⟩⟩
        · have c44 := iv_eq (X := v41.toInt) (Y := 0) c44 rfl (by decide)
          refine pv_iconst (M := mX7_readPart) (v := 0) dX7_readPart_25 26 rfl (by decide) ?_
          have z89 : (0 : Int32).toInt = 0 := by decide
          exact pv_iret (M := mX7_readPart) dX7_readPart_26 rfl rfl ⟨_, _, _, rfl, rfl, I39, K40, by decide, by decide, ⟨by omega, by omega, by omega, ⟨Or.inl (by decide), Or.inr ⟨by decide, by rw [kgc]; exact CN_fl (RSX_fl k22 (by omega))⟩⟩, by omega⟩⟩
  have z90 : (0 : Int32).toInt = 0 := by decide
  exact lp10 (((160 - 0) : Int).toNat + 1) 0 m n (by first | omega | assumption | exact (iv_rng _).2 | exact (iv_rng _).1 | decide) (by first | omega | assumption | exact (iv_rng _).2 | exact (iv_rng _).1 | decide) (by first | omega | assumption | (show (m 86 3).toInt ≤ (m 86 2).toInt; omega) | decide) (by first | omega | assumption | (show (m 86 2).toInt = (m 86 2).toInt; omega) | decide) (by first | omega | assumption | (show (m lb 7).toInt = (m lb 7).toInt; omega) | decide) (by first | omega | assumption | (show (m 86 3).toInt + 2 * 0 ≤ (m 86 3).toInt; omega) | decide) rfl I Kp (by omega)

set_option maxHeartbeats 2000000 in
set_option maxRecDepth 20000 in
theorem s_X7_readCondition_v5x (g : pv_G) {T : List mv_T} {m : Nat → Nat → Int32} {n : Nat → Nat → Int64} {r : Nat → Value} {la lb : Nat} (hT : TX T) (I : IV BB m) (R : RX T r la lb) (hp0 : (m 86 3).toInt ≤ (m 86 2).toInt) (hp1 : TBC m) : PM g mX7_readCondition yX7_readCondition (sqI T BB wR7 r m 0 1 (fun m' v => (m 86 3).toInt ≤ (m' 86 3).toInt ∧ (m' 86 3).toInt ≤ (m' 86 2).toInt ∧ (m' 86 2).toInt = (m 86 2).toInt ∧ (RSX (CN (tC m) 1 (m 86 3).toInt) v.toInt (m' 86 3).toInt (m' 86 4).toInt) ∧ (m' lb 7).toInt = (m lb 7).toInt)) 13 0 0 [.ref 86, .int 5] (mk T m n r) := by
  have Kp : fr wR7 m m := fr.rf
  have R0 := R
  have zR := R.2.2.2.2.1.1
  have zR2 := R.2.2.2.2.2.1
  have z90 : 0 ≤ (m 86 3).toInt ∧ (m 86 3).toInt ≤ 160 := I 86 3
  have z91 : 0 ≤ (m 86 2).toInt ∧ (m 86 2).toInt ≤ 160 := I 86 2
  refine PM.of 2 (lo := [.ref 86, .int 5, pv_U, pv_U]) rfl (by decide) rfl rfl (Nat.le_of_ble_eq_true rfl) ?_
  have kTX := TXT_C I
  refine pv_aload_n (M := mX7_readCondition) 0 dX7_readCondition_0 1 rfl rfl rfl ?_
  refine mv_get (M := mX7_readCondition) (v := .ref lb) dX7_readCondition_1 FX7 1 wd281 (by decide) (tl86 hT) rfl R.2.2.2.1 4 rfl ?_
  refine pv_callv (M := mX7_readCondition) (as := []) (st := []) (kc2 := 0) (ks2 := 0) dX7_readCondition_4 wd666 YX6_steps ⟨wd667, wd668⟩ (mk_get R.2.2.2.2.2.2.1) rfl rfl (s_X6_steps g hT I lb R.2.2.2.2.2) rfl rfl (Nat.le_of_ble_eq_true rfl) (by decide) rfl rfl 7 rfl (fun rv h1 q2 => ?_)
  obtain ⟨v3, rfl, rfl, pv3, qv3, rv3⟩ := q2
  show PV _ _ _ _ _ _ _ 7 [.ref 86, .int 5, pv_U, pv_U] [.int v3] _
  refine pv_istore_n (M := mX7_readCondition) 2 (lo2 := [.ref 86, .int 5, .int v3, pv_U]) dX7_readCondition_7 8 rfl rfl (by decide) rfl rfl ?_
  refine pv_iconst (M := mX7_readCondition) (v := 0) dX7_readCondition_8 9 rfl (by decide) ?_
  refine pv_istore_n (M := mX7_readCondition) 3 (lo2 := [.ref 86, .int 5, .int v3, .int 0]) dX7_readCondition_9 10 rfl rfl (by decide) rfl rfl ?_
  have lp10 : ∀ (fuel9 : Nat) (y4 : Int32) (m5 : Nat → Nat → Int32) (n6 : Nat → Nat → Int64), (0 ≤ y4.toInt) → (y4.toInt ≤ 160) → ((m5 86 3).toInt ≤ (m5 86 2).toInt) → ((m5 86 2).toInt = (m 86 2).toInt) → ((m5 lb 7).toInt = (m lb 7).toInt) → ((m 86 3).toInt + 2 * y4.toInt ≤ (m5 86 3).toInt) → (CN (tC m) 1 (m 86 3).toInt = CN (tC m) 1 (m5 86 3).toInt) → IV BB m5 → fr wR7 m m5 → ((160 - y4.toInt) : Int).toNat < fuel9 → PV none g mX7_readCondition (sqI T BB wR7 r m 0 1 (fun m' v => (m 86 3).toInt ≤ (m' 86 3).toInt ∧ (m' 86 3).toInt ≤ (m' 86 2).toInt ∧ (m' 86 2).toInt = (m 86 2).toInt ∧ (RSX (CN (tC m) 1 (m 86 3).toInt) v.toInt (m' 86 3).toInt (m' 86 4).toInt) ∧ (m' lb 7).toInt = (m lb 7).toInt)) 13 0 0 10 [.ref 86, .int 5, .int v3, .int y4] [] (mk T m5 n6 r) := by
    intro fuel9
    induction fuel9 with
    | zero => intro y4 m5 n6 b12 b13 b14 b15 b16 b17 b18 I7 K8 z19; omega
    | succ fuel9 ih11 =>
      intro y4 m5 n6 b12 b13 b14 b15 b16 b17 b18 I7 K8 z19
      have z20 : 0 ≤ (m5 86 3).toInt ∧ (m5 86 3).toInt ≤ 160 := I7 86 3
      have z21 : 0 ≤ (m5 86 2).toInt ∧ (m5 86 2).toInt ≤ 160 := I7 86 2
      have kgc := (show CN (tC m) 1 (m 86 3).toInt = CN (tC m) 1 (m5 86 3).toInt by assumption)
      have kt10 : tC m5 = tC m := tC_eq (K8 86 2 rfl) (fun j => K8 87 j rfl)
      refine pv_iload_n (M := mX7_readCondition) 3 dX7_readCondition_10 11 rfl rfl rfl ?_
      refine pv_sipush (M := mX7_readCondition) (v := 160) dX7_readCondition_11 14 rfl (by decide) ?_
      refine pv_icmp_ge (M := mX7_readCondition) (tgt := 65) dX7_readCondition_14 17 rfl (by decide) (fun c24 => ?_) (fun c24 => ?_)
      · have c24 := iv_le (X := 160) (Y := y4.toInt) c24 (by decide) rfl
        refine pv_aload_n (M := mX7_readCondition) 0 dX7_readCondition_65 66 rfl rfl rfl ?_
        refine mv_get (M := mX7_readCondition) (v := .ref lb) dX7_readCondition_66 FX7 1 wd281 (by decide) (tl86 hT) rfl R.2.2.2.1 69 rfl ?_
        refine pv_bipush (M := mX7_readCondition) (v := 124) dX7_readCondition_69 71 rfl (by decide) ?_
        refine pv_iload_n (M := mX7_readCondition) 2 dX7_readCondition_71 72 rfl rfl rfl ?_
        have z25 : (124 : Int32).toInt = 124 := by decide
        refine pv_callv (M := mX7_readCondition) (as := [.int 124, .int v3]) (st := []) (kc2 := 0) (ks2 := 0) dX7_readCondition_72 wd678 YX6_aimLeaps ⟨wd679, wd680⟩ (mk_get R.2.2.2.2.2.2.1) rfl rfl (s_X6_aimLeaps_vx g hT I7 lb R.2.2.2.2.2 124 v3) rfl rfl (Nat.le_of_ble_eq_true rfl) (by decide) rfl rfl 75 rfl (fun rv h1 q26 => ?_)
        obtain ⟨m27, n28, rfl, rfl, I29, K30, rm27⟩ := q26
        replace rm27 : (m27 lb 7).toInt = (m5 lb 7).toInt := rm27
        have K30c := K30
        have w31 : (m27 86 3).toInt = (m5 86 3).toInt := congrArg Int32.toInt (K30 86 3 (wr_out (by omega)))
        have w32 : (m27 86 2).toInt = (m5 86 2).toInt := congrArg Int32.toInt (K30 86 2 (wr_out (by omega)))
        have w33 : (m27 86 4).toInt = (m5 86 4).toInt := congrArg Int32.toInt (K30 86 4 (wr_out (by omega)))
        have K30 := K8.trans (K30.sub (by first | exact wR7_r (by omega) | exact wR7_wr))
        show PV _ _ _ _ _ _ _ 75 [.ref 86, .int 5, .int v3, .int y4] [] _
        refine pv_iconst (M := mX7_readCondition) (v := 1) dX7_readCondition_75 76 rfl (by decide) ?_
        have z34 : (1 : Int32).toInt = 1 := by decide
        exact pv_iret (M := mX7_readCondition) dX7_readCondition_76 rfl rfl ⟨_, _, _, rfl, rfl, I29, K30, by decide, by decide, ⟨by omega, by omega, by omega, (by first | exact Or.inl ⟨by decide, by rw [kgc, k27, LB_no (isB_no k27n (by rw [← k31]; omega))]; congr 1; omega⟩ | (exfalso; omega)), by omega⟩⟩
      · have c24 := iv_nle (X := 160) (Y := y4.toInt) c24 (by decide) rfl
        refine pv_aload_n (M := mX7_readCondition) 0 dX7_readCondition_17 18 rfl rfl rfl ?_
        refine pv_iload_n (M := mX7_readCondition) 1 dX7_readCondition_18 19 rfl rfl rfl ?_
        have z35 : (5 : Int32).toInt = 5 := by decide
        refine pv_callv (M := mX7_readCondition) (as := [.int 5]) (st := []) (kc2 := 0) (ks2 := 0) dX7_readCondition_19 wd670 YX7_readPart ⟨wd672, wd13⟩ (mk_get (tl86 hT)) rfl rfl (s_X7_readPart_v5x g hT I7 R (by first | omega | assumption | exact (iv_rng _).2 | exact (iv_rng _).1 | decide) (TBC_eq hp1 kt10)) rfl rfl (Nat.le_of_ble_eq_true rfl) (by decide) rfl rfl 22 rfl (fun rv h1 q36 => ?_)
        obtain ⟨m37, n38, v41, rfl, rfl, I39, K40, pv41, qv41, rv41⟩ := q36
        replace rv41 : (m5 86 3).toInt ≤ (m37 86 3).toInt ∧ (m37 86 3).toInt ≤ (m37 86 2).toInt ∧ (m37 86 2).toInt = (m5 86 2).toInt ∧ ((v41.toInt = 0 ∨ (m5 86 3).toInt + 1 ≤ (m37 86 3).toInt) ∧ TRX (CN (tC m5) 1 (m5 86 3).toInt) (LB (tC m5) 1) (fun a => tC m5 a ≠ 38) v41.toInt (m37 86 3).toInt (m37 86 4).toInt) ∧ (m37 lb 7).toInt = (m5 lb 7).toInt := by have q_ := rv41; (try rw [z35] at q_); exact q_
        have K40c := K40
        have K40 := K8.trans (K40.sub (fun _ _ q => q))
        show PV _ _ _ _ _ _ _ 22 [.ref 86, .int 5, .int v3, .int y4] [.int v41] _
        have k22 := rv41.2.2.2.1.2
        have k22p := rv41.2.2.2.1.1
        rw [kt10] at k22
        refine pv_if_ne (M := mX7_readCondition) (tgt := 27) dX7_readCondition_22 25 rfl (by decide) (fun c45 => ?_) (fun c45 => ?_)
        · have c45 := iv_ne (X := v41.toInt) (Y := 0) c45 rfl (by decide)
          have k27 := (TRX_ok k22 (by omega)).1
          have k27n := (TRX_ok k22 (by omega)).2
          have kt27 : tC m37 = tC m := tC_eq (K40 86 2 rfl) (fun j => K40 87 j rfl)
          refine pv_aload_n (M := mX7_readCondition) 0 dX7_readCondition_27 28 rfl rfl rfl ?_
          refine pv_callv (M := mX7_readCondition) (as := []) (st := []) (kc2 := 0) (ks2 := 0) dX7_readCondition_28 wd527 YX7_peek ⟨wd529, wd2⟩ (mk_get (tl86 hT)) rfl rfl (s_X7_peek_vx g hT I39 R) rfl rfl (Nat.le_of_ble_eq_true rfl) (by decide) rfl rfl 31 rfl (fun rv h1 q49 => ?_)
          obtain ⟨v50, rfl, rfl, pv50, qv50, rv50⟩ := q49
          replace rv50 : v50.toInt = tC m37 (m37 86 3).toInt ∧ (v50.toInt = -1 ∨ (m37 86 3).toInt < (m37 86 2).toInt) := rv50
          show PV _ _ _ _ _ _ _ 31 [.ref 86, .int 5, .int v3, .int y4] [.int v50] _
          have k31 := rv50.1
          have k31b := rv50.2
          rw [kt27] at k31
          refine pv_bipush (M := mX7_readCondition) (v := 124) dX7_readCondition_31 33 rfl (by decide) ?_
          refine pv_icmp_eq (M := mX7_readCondition) (tgt := 39) dX7_readCondition_33 36 rfl (by decide) (fun c54 => ?_) (fun c54 => ?_)
          · have c54 := iv_eq (X := v50.toInt) (Y := 124) c54 rfl (by decide)
            have kB : isB (tC m (m37 86 3).toInt) = true := isB_y (by omega)
            refine pv_aload_n (M := mX7_readCondition) 0 dX7_readCondition_39 40 rfl rfl rfl ?_
            refine mv_get (M := mX7_readCondition) (v := .ref lb) dX7_readCondition_40 FX7 1 wd281 (by decide) (tl86 hT) rfl R.2.2.2.1 43 rfl ?_
            refine pv_bipush (M := mX7_readCondition) (v := 124) dX7_readCondition_43 45 rfl (by decide) ?_
            refine pv_iconst (M := mX7_readCondition) (v := (-1)) dX7_readCondition_45 46 rfl (by decide) ?_
            have z56 : (124 : Int32).toInt = 124 := by decide
            have z57 : ((-1) : Int32).toInt = (-1) := by decide
            refine pv_callv (M := mX7_readCondition) (as := [.int 124, .int (-1)]) (st := []) (kc2 := 0) (ks2 := 0) dX7_readCondition_46 wd567 YX6_emit ⟨wd568, wd569⟩ (mk_get R.2.2.2.2.2.2.1) rfl rfl (s_X6_emit_vx g hT I39 lb R.2.2.2.2.2 124 (-1) (by decide) (by decide)) rfl rfl (Nat.le_of_ble_eq_true rfl) (by decide) rfl rfl 49 rfl (fun rv h1 q58 => ?_)
            obtain ⟨m59, n60, rfl, rfl, I61, K62, rm59⟩ := q58
            replace rm59 : (m59 lb 7).toInt = (m37 lb 7).toInt := rm59
            have K62c := K62
            have w63 : (m59 86 3).toInt = (m37 86 3).toInt := congrArg Int32.toInt (K62 86 3 (wr_out (by omega)))
            have w64 : (m59 86 2).toInt = (m37 86 2).toInt := congrArg Int32.toInt (K62 86 2 (wr_out (by omega)))
            have w65 : (m59 86 4).toInt = (m37 86 4).toInt := congrArg Int32.toInt (K62 86 4 (wr_out (by omega)))
            have K62 := K40.trans (K62.sub (by first | exact wR7_r (by omega) | exact wR7_wr))
            show PV _ _ _ _ _ _ _ 49 [.ref 86, .int 5, .int v3, .int y4] [] _
            refine pv_aload_n (M := mX7_readCondition) 0 dX7_readCondition_49 50 rfl rfl rfl ?_
            refine pv_dup (M := mX7_readCondition) dX7_readCondition_50 51 rfl rfl ?_
            refine iv_get (M := mX7_readCondition) (l1 := 0) (l2 := 160) dX7_readCondition_51 FX7 3 wd283 (by decide) (tl86 hT) rfl I61 rfl 54 rfl (fun v66 ev66 pv66 qv66 => ?_)
            have wv66 : v66.toInt = (m59 86 3).toInt := congrArg Int32.toInt ev66
            refine pv_iconst (M := mX7_readCondition) (v := 1) dX7_readCondition_54 55 rfl (by decide) ?_
            refine iv_iadd (M := mX7_readCondition) (X := v66.toInt) (Y := 1) dX7_readCondition_55 56 rfl rfl (by decide) (by omega) (by omega) (fun v67 ev67 => ?_)
            refine iv_put (M := mX7_readCondition) (l1 := 0) (l2 := 160) dX7_readCondition_56 FX7 3 wd283 (by decide) rfl (tl86 hT) rfl rfl rfl I61 rfl (by omega) (by omega) 59 rfl (fun m68 e71 I69 => ?_)
            have K70 := K62.set e71 (by decide)
            have w72 : (m68 86 3).toInt = v67.toInt := by rw [e71, up2_eq]
            have w73 : (m68 86 2).toInt = (m59 86 2).toInt := by rw [e71, up2_ne (by omega)]
            have w74 : (m68 86 4).toInt = (m59 86 4).toInt := by rw [e71, up2_ne (by omega)]
            have w75 : (m68 lb 7).toInt = (m59 lb 7).toInt := by rw [e71, up2_ne (by omega)]
            refine iv_inc (M := mX7_readCondition) (C := 1) dX7_readCondition_59 62 rfl rfl (by decide) rfl rfl (by decide) (by omega) (by omega) (fun v76 ev76 => ?_)
            show PV _ _ _ _ _ _ _ 62 [.ref 86, .int 5, .int v3, .int v76] [] _
            refine pv_goto (M := mX7_readCondition) (tgt := 10) dX7_readCondition_62 (by decide) ?_
            have kbc : CN (tC m) 1 (m 86 3).toInt = CN (tC m) 1 (m68 86 3).toInt := by rw [kgc, k27, LB_cn kTX (by omega) kB]; congr 1; omega
            exact ih11 v76 m68 n60 (by first | omega | assumption | exact (iv_rng _).2 | exact (iv_rng _).1 | decide) (by first | omega | assumption | exact (iv_rng _).2 | exact (iv_rng _).1 | decide) (by first | omega | assumption | (show (m68 86 3).toInt ≤ (m68 86 2).toInt; omega) | decide) (by first | omega | assumption | (show (m68 86 2).toInt = (m 86 2).toInt; omega) | decide) (by first | omega | assumption | (show (m68 lb 7).toInt = (m lb 7).toInt; omega) | decide) (by first | omega | assumption | (show (m 86 3).toInt + 2 * v76.toInt ≤ (m68 86 3).toInt; omega) | decide) kbc I69 K70 (by omega)
          · have c54 := iv_ne (X := v50.toInt) (Y := 124) c54 rfl (by decide)
            refine pv_goto (M := mX7_readCondition) (tgt := 65) dX7_readCondition_36 (by decide) ?_
            refine pv_aload_n (M := mX7_readCondition) 0 dX7_readCondition_65 66 rfl rfl rfl ?_
            refine mv_get (M := mX7_readCondition) (v := .ref lb) dX7_readCondition_66 FX7 1 wd281 (by decide) (tl86 hT) rfl R.2.2.2.1 69 rfl ?_
            refine pv_bipush (M := mX7_readCondition) (v := 124) dX7_readCondition_69 71 rfl (by decide) ?_
            refine pv_iload_n (M := mX7_readCondition) 2 dX7_readCondition_71 72 rfl rfl rfl ?_
            have z78 : (124 : Int32).toInt = 124 := by decide
            refine pv_callv (M := mX7_readCondition) (as := [.int 124, .int v3]) (st := []) (kc2 := 0) (ks2 := 0) dX7_readCondition_72 wd678 YX6_aimLeaps ⟨wd679, wd680⟩ (mk_get R.2.2.2.2.2.2.1) rfl rfl (s_X6_aimLeaps_vx g hT I39 lb R.2.2.2.2.2 124 v3) rfl rfl (Nat.le_of_ble_eq_true rfl) (by decide) rfl rfl 75 rfl (fun rv h1 q79 => ?_)
            obtain ⟨m80, n81, rfl, rfl, I82, K83, rm80⟩ := q79
            replace rm80 : (m80 lb 7).toInt = (m37 lb 7).toInt := rm80
            have K83c := K83
            have w84 : (m80 86 3).toInt = (m37 86 3).toInt := congrArg Int32.toInt (K83 86 3 (wr_out (by omega)))
            have w85 : (m80 86 2).toInt = (m37 86 2).toInt := congrArg Int32.toInt (K83 86 2 (wr_out (by omega)))
            have w86 : (m80 86 4).toInt = (m37 86 4).toInt := congrArg Int32.toInt (K83 86 4 (wr_out (by omega)))
            have K83 := K40.trans (K83.sub (by first | exact wR7_r (by omega) | exact wR7_wr))
            show PV _ _ _ _ _ _ _ 75 [.ref 86, .int 5, .int v3, .int y4] [] _
            refine pv_iconst (M := mX7_readCondition) (v := 1) dX7_readCondition_75 76 rfl (by decide) ?_
            have z87 : (1 : Int32).toInt = 1 := by decide
            exact pv_iret (M := mX7_readCondition) dX7_readCondition_76 rfl rfl ⟨_, _, _, rfl, rfl, I82, K83, by decide, by decide, ⟨by omega, by omega, by omega, (by first | exact Or.inl ⟨by decide, by rw [kgc, k27, LB_no (isB_no k27n (by rw [← k31]; omega))]; congr 1; omega⟩ | (exfalso; omega)), by omega⟩⟩
        · have c45 := iv_eq (X := v41.toInt) (Y := 0) c45 rfl (by decide)
          refine pv_iconst (M := mX7_readCondition) (v := 0) dX7_readCondition_25 26 rfl (by decide) ?_
          have z88 : (0 : Int32).toInt = 0 := by decide
          exact pv_iret (M := mX7_readCondition) dX7_readCondition_26 rfl rfl ⟨_, _, _, rfl, rfl, I39, K40, by decide, by decide, ⟨by omega, by omega, by omega, Or.inr ⟨by decide, by rw [kgc]; exact TRX_fl k22 (by omega)⟩, by omega⟩⟩
  have z89 : (0 : Int32).toInt = 0 := by decide
  exact lp10 (((160 - 0) : Int).toNat + 1) 0 m n (by first | omega | assumption | exact (iv_rng _).2 | exact (iv_rng _).1 | decide) (by first | omega | assumption | exact (iv_rng _).2 | exact (iv_rng _).1 | decide) (by first | omega | assumption | (show (m 86 3).toInt ≤ (m 86 2).toInt; omega) | decide) (by first | omega | assumption | (show (m 86 2).toInt = (m 86 2).toInt; omega) | decide) (by first | omega | assumption | (show (m lb 7).toInt = (m lb 7).toInt; omega) | decide) (by first | omega | assumption | (show (m 86 3).toInt + 2 * 0 ≤ (m 86 3).toInt; omega) | decide) rfl I Kp (by omega)

set_option maxHeartbeats 2000000 in
set_option maxRecDepth 20000 in
theorem s_X7_readPiece_v4x (g : pv_G) {T : List mv_T} {m : Nat → Nat → Int32} {n : Nat → Nat → Int64} {r : Nat → Value} {la lb : Nat} (hT : TX T) (I : IV BB m) (R : RX T r la lb) (hp0 : (m 86 3).toInt ≤ (m 86 2).toInt) (hp1 : TBC m) : PM g mX7_readPiece yX7_readPiece (sqI T BB wR7 r m 0 1 (fun m' v => (m 86 3).toInt ≤ (m' 86 3).toInt ∧ (m' 86 3).toInt ≤ (m' 86 2).toInt ∧ (m' 86 2).toInt = (m 86 2).toInt ∧ (RSX (PI (tC m) 2 (m 86 3).toInt) v.toInt (m' 86 3).toInt (m' 86 4).toInt) ∧ (m' lb 7).toInt = (m lb 7).toInt)) 14 0 0 [.ref 86, .int 4] (mk T m n r) := by
  have Kp : fr wR7 m m := fr.rf
  have R0 := R
  have zR := R.2.2.2.2.1.1
  have zR2 := R.2.2.2.2.2.1
  have z216 : 0 ≤ (m 86 3).toInt ∧ (m 86 3).toInt ≤ 160 := I 86 3
  have z217 : 0 ≤ (m 86 2).toInt ∧ (m 86 2).toInt ≤ 160 := I 86 2
  refine PM.of 1 (lo := [.ref 86, .int 4, pv_U]) rfl (by decide) rfl rfl (Nat.le_of_ble_eq_true rfl) ?_
  refine pv_aload_n (M := mX7_readPiece) 0 dX7_readPiece_0 1 rfl rfl rfl ?_
  refine pv_callv (M := mX7_readPiece) (as := []) (st := []) (kc2 := 0) (ks2 := 0) dX7_readPiece_1 wd527 YX7_peek ⟨wd529, wd2⟩ (mk_get (tl86 hT)) rfl rfl (s_X7_peek_vx g hT I R) rfl rfl (Nat.le_of_ble_eq_true rfl) (by decide) rfl rfl 4 rfl (fun rv h1 q1 => ?_)
  obtain ⟨v2, rfl, rfl, pv2, qv2, rv2⟩ := q1
  replace rv2 : v2.toInt = tC m (m 86 3).toInt ∧ (v2.toInt = -1 ∨ (m 86 3).toInt < (m 86 2).toInt) := rv2
  show PV _ _ _ _ _ _ _ 4 [.ref 86, .int 4, pv_U] [.int v2] _
  have k4 := rv2.1
  have k4b := rv2.2
  refine pv_bipush (M := mX7_readPiece) (v := 33) dX7_readPiece_4 6 rfl (by decide) ?_
  refine pv_icmp_ne (M := mX7_readPiece) (tgt := 41) dX7_readPiece_6 9 rfl (by decide) (fun c5 => ?_) (fun c5 => ?_)
  · have c5 := iv_ne (X := v2.toInt) (Y := 33) c5 rfl (by decide)
    have kn33 : tC m (m 86 3).toInt ≠ 33 := by omega
    refine pv_aload_n (M := mX7_readPiece) 0 dX7_readPiece_41 42 rfl rfl rfl ?_
    refine pv_callv (M := mX7_readPiece) (as := []) (st := []) (kc2 := 0) (ks2 := 0) dX7_readPiece_42 wd527 YX7_peek ⟨wd529, wd2⟩ (mk_get (tl86 hT)) rfl rfl (s_X7_peek_vx g hT I R) rfl rfl (Nat.le_of_ble_eq_true rfl) (by decide) rfl rfl 45 rfl (fun rv h1 q7 => ?_)
    obtain ⟨v8, rfl, rfl, pv8, qv8, rv8⟩ := q7
    replace rv8 : v8.toInt = tC m (m 86 3).toInt ∧ (v8.toInt = -1 ∨ (m 86 3).toInt < (m 86 2).toInt) := rv8
    show PV _ _ _ _ _ _ _ 45 [.ref 86, .int 4, pv_U] [.int v8] _
    have k45 := rv8.1
    have k45b := rv8.2
    refine pv_bipush (M := mX7_readPiece) (v := 40) dX7_readPiece_45 47 rfl (by decide) ?_
    refine pv_icmp_ne (M := mX7_readPiece) (tgt := 83) dX7_readPiece_47 50 rfl (by decide) (fun c11 => ?_) (fun c11 => ?_)
    · have c11 := iv_ne (X := v8.toInt) (Y := 40) c11 rfl (by decide)
      have kn40 : tC m (m 86 3).toInt ≠ 40 := by omega
      refine pv_aload_n (M := mX7_readPiece) 0 dX7_readPiece_83 84 rfl rfl rfl ?_
      refine pv_iload_n (M := mX7_readPiece) 1 dX7_readPiece_84 85 rfl rfl rfl ?_
      have z13 : (4 : Int32).toInt = 4 := by decide
      refine pv_callv (M := mX7_readPiece) (as := [.int 4]) (st := []) (kc2 := 0) (ks2 := 0) dX7_readPiece_85 wd539 YX7_readSum ⟨wd541, wd4⟩ (mk_get (tl86 hT)) rfl rfl (s_X7_readSum_v4x g hT I R (by first | omega | assumption | exact (iv_rng _).2 | exact (iv_rng _).1 | decide) hp1) rfl rfl (Nat.le_of_ble_eq_true rfl) (by decide) rfl rfl 88 rfl (fun rv h1 q14 => ?_)
      obtain ⟨m15, n16, v19, rfl, rfl, I17, K18, pv19, qv19, rv19⟩ := q14
      replace rv19 : (m 86 3).toInt ≤ (m15 86 3).toInt ∧ (m15 86 3).toInt ≤ (m15 86 2).toInt ∧ (m15 86 2).toInt = (m 86 2).toInt ∧ (RSX (SU (tC m) 2 (m 86 3).toInt) v19.toInt (m15 86 3).toInt (m15 86 4).toInt) ∧ (m15 lb 7).toInt = (m lb 7).toInt := by have q_ := rv19; (try rw [z13] at q_); exact q_
      have K18c := K18
      have K18 := Kp.trans (K18.sub (fun _ _ q => q))
      show PV _ _ _ _ _ _ _ 88 [.ref 86, .int 4, pv_U] [.int v19] _
      have k88 := rv19.2.2.2.1
      refine pv_if_ne (M := mX7_readPiece) (tgt := 93) dX7_readPiece_88 91 rfl (by decide) (fun c21 => ?_) (fun c21 => ?_)
      · have c21 := iv_ne (X := v19.toInt) (Y := 0) c21 rfl (by decide)
        have k93 := RSX_ok k88 (by omega)
        have kt93 : tC m15 = tC m := tC_eq (K18 86 2 rfl) (fun j => K18 87 j rfl)
        have kA93 : (m15 86 3).toInt = (m15 86 3).toInt := rfl
        refine pv_aload_n (M := mX7_readPiece) 0 dX7_readPiece_93 94 rfl rfl rfl ?_
        refine pv_callv (M := mX7_readPiece) (as := []) (st := []) (kc2 := 0) (ks2 := 0) dX7_readPiece_94 wd527 YX7_peek ⟨wd529, wd2⟩ (mk_get (tl86 hT)) rfl rfl (s_X7_peek_vx g hT I17 R) rfl rfl (Nat.le_of_ble_eq_true rfl) (by decide) rfl rfl 97 rfl (fun rv h1 q25 => ?_)
        obtain ⟨v26, rfl, rfl, pv26, qv26, rv26⟩ := q25
        replace rv26 : v26.toInt = tC m15 (m15 86 3).toInt ∧ (v26.toInt = -1 ∨ (m15 86 3).toInt < (m15 86 2).toInt) := rv26
        show PV _ _ _ _ _ _ _ 97 [.ref 86, .int 4, pv_U] [.int v26] _
        have k97 := rv26.1
        have k97b := rv26.2
        rw [kt93] at k97
        refine pv_istore_n (M := mX7_readPiece) 2 (lo2 := [.ref 86, .int 4, .int v26]) dX7_readPiece_97 98 rfl rfl (by decide) rfl rfl ?_
        refine pv_iload_n (M := mX7_readPiece) 2 dX7_readPiece_98 99 rfl rfl rfl ?_
        refine pv_bipush (M := mX7_readPiece) (v := 60) dX7_readPiece_99 101 rfl (by decide) ?_
        refine pv_icmp_eq (M := mX7_readPiece) (tgt := 122) dX7_readPiece_101 104 rfl (by decide) (fun c30 => ?_) (fun c30 => ?_)
        · have c30 := iv_eq (X := v26.toInt) (Y := 60) c30 rfl (by decide)
          have kC : isC (tC m (m15 86 3).toInt) = true := by rw [← k97]; exact isC_y (by omega)
          refine pv_aload_n (M := mX7_readPiece) 0 dX7_readPiece_122 123 rfl rfl rfl ?_
          refine pv_dup (M := mX7_readPiece) dX7_readPiece_123 124 rfl rfl ?_
          refine iv_get (M := mX7_readPiece) (l1 := 0) (l2 := 160) dX7_readPiece_124 FX7 3 wd283 (by decide) (tl86 hT) rfl I17 rfl 127 rfl (fun v32 ev32 pv32 qv32 => ?_)
          have wv32 : v32.toInt = (m15 86 3).toInt := congrArg Int32.toInt ev32
          refine pv_iconst (M := mX7_readPiece) (v := 1) dX7_readPiece_127 128 rfl (by decide) ?_
          refine iv_iadd (M := mX7_readPiece) (X := v32.toInt) (Y := 1) dX7_readPiece_128 129 rfl rfl (by decide) (by omega) (by omega) (fun v33 ev33 => ?_)
          refine iv_put (M := mX7_readPiece) (l1 := 0) (l2 := 160) dX7_readPiece_129 FX7 3 wd283 (by decide) rfl (tl86 hT) rfl rfl rfl I17 rfl (by omega) (by omega) 132 rfl (fun m34 e37 I35 => ?_)
          have K36 := K18.set e37 (by decide)
          have w38 : (m34 86 3).toInt = v33.toInt := by rw [e37, up2_eq]
          have w39 : (m34 86 2).toInt = (m15 86 2).toInt := by rw [e37, up2_ne (by omega)]
          have w40 : (m34 86 4).toInt = (m15 86 4).toInt := by rw [e37, up2_ne (by omega)]
          have w41 : (m34 lb 7).toInt = (m15 lb 7).toInt := by rw [e37, up2_ne (by omega)]
          have kt132 : tC m34 = tC m := tC_eq (K36 86 2 rfl) (fun j => K36 87 j rfl)
          have kp132 : (m34 86 3).toInt = (m15 86 3).toInt + 1 := by omega
          refine pv_aload_n (M := mX7_readPiece) 0 dX7_readPiece_132 133 rfl rfl rfl ?_
          refine pv_iload_n (M := mX7_readPiece) 1 dX7_readPiece_133 134 rfl rfl rfl ?_
          have z44 : (4 : Int32).toInt = 4 := by decide
          refine pv_callv (M := mX7_readPiece) (as := [.int 4]) (st := []) (kc2 := 0) (ks2 := 0) dX7_readPiece_134 wd539 YX7_readSum ⟨wd541, wd4⟩ (mk_get (tl86 hT)) rfl rfl (s_X7_readSum_v4x g hT I35 R (by first | omega | assumption | exact (iv_rng _).2 | exact (iv_rng _).1 | decide) (TBC_eq hp1 kt132)) rfl rfl (Nat.le_of_ble_eq_true rfl) (by decide) rfl rfl 137 rfl (fun rv h1 q45 => ?_)
          obtain ⟨m46, n47, v50, rfl, rfl, I48, K49, pv50, qv50, rv50⟩ := q45
          replace rv50 : (m34 86 3).toInt ≤ (m46 86 3).toInt ∧ (m46 86 3).toInt ≤ (m46 86 2).toInt ∧ (m46 86 2).toInt = (m34 86 2).toInt ∧ (RSX (SU (tC m34) 2 (m34 86 3).toInt) v50.toInt (m46 86 3).toInt (m46 86 4).toInt) ∧ (m46 lb 7).toInt = (m34 lb 7).toInt := by have q_ := rv50; (try rw [z44] at q_); exact q_
          have K49c := K49
          have K49 := K36.trans (K49.sub (fun _ _ q => q))
          show PV _ _ _ _ _ _ _ 137 [.ref 86, .int 4, .int v26] [.int v50] _
          have k137 := rv50.2.2.2.1
          rw [kt132, kp132] at k137
          refine pv_if_ne (M := mX7_readPiece) (tgt := 142) dX7_readPiece_137 140 rfl (by decide) (fun c53 => ?_) (fun c53 => ?_)
          · have c53 := iv_ne (X := v50.toInt) (Y := 0) c53 rfl (by decide)
            refine pv_aload_n (M := mX7_readPiece) 0 dX7_readPiece_142 143 rfl rfl rfl ?_
            refine mv_get (M := mX7_readPiece) (v := .ref lb) dX7_readPiece_143 FX7 1 wd281 (by decide) (tl86 hT) rfl R.2.2.2.1 146 rfl ?_
            refine pv_iload_n (M := mX7_readPiece) 2 dX7_readPiece_146 147 rfl rfl rfl ?_
            refine pv_iconst (M := mX7_readPiece) (v := 0) dX7_readPiece_147 148 rfl (by decide) ?_
            have z54 : (0 : Int32).toInt = 0 := by decide
            refine pv_callv (M := mX7_readPiece) (as := [.int v26, .int 0]) (st := []) (kc2 := 0) (ks2 := 0) dX7_readPiece_148 wd567 YX6_emit ⟨wd568, wd569⟩ (mk_get R.2.2.2.2.2.2.1) rfl rfl (s_X6_emit_vx g hT I48 lb R.2.2.2.2.2 v26 0 (by decide) (by decide)) rfl rfl (Nat.le_of_ble_eq_true rfl) (by decide) rfl rfl 151 rfl (fun rv h1 q55 => ?_)
            obtain ⟨m56, n57, rfl, rfl, I58, K59, rm56⟩ := q55
            replace rm56 : (m56 lb 7).toInt = (m46 lb 7).toInt := rm56
            have K59c := K59
            have w60 : (m56 86 3).toInt = (m46 86 3).toInt := congrArg Int32.toInt (K59 86 3 (wr_out (by omega)))
            have w61 : (m56 86 2).toInt = (m46 86 2).toInt := congrArg Int32.toInt (K59 86 2 (wr_out (by omega)))
            have w62 : (m56 86 4).toInt = (m46 86 4).toInt := congrArg Int32.toInt (K59 86 4 (wr_out (by omega)))
            have K59 := K49.trans (K59.sub (by first | exact wR7_r (by omega) | exact wR7_wr))
            show PV _ _ _ _ _ _ _ 151 [.ref 86, .int 4, .int v26] [] _
            refine pv_iconst (M := mX7_readPiece) (v := 1) dX7_readPiece_151 152 rfl (by decide) ?_
            have z63 : (1 : Int32).toInt = 1 := by decide
            exact pv_iret (M := mX7_readPiece) dX7_readPiece_152 rfl rfl ⟨_, _, _, rfl, rfl, I58, K59, by decide, by decide, ⟨by omega, by omega, by omega, Or.inl ⟨by decide, by rw [PI_cm kn33 kn40, CM_ok k93 kC, RSX_ok k137 (by omega), show (m46 86 3).toInt = (m56 86 3).toInt by omega]⟩, by omega⟩⟩
          · have c53 := iv_eq (X := v50.toInt) (Y := 0) c53 rfl (by decide)
            refine pv_iconst (M := mX7_readPiece) (v := 0) dX7_readPiece_140 141 rfl (by decide) ?_
            have z64 : (0 : Int32).toInt = 0 := by decide
            exact pv_iret (M := mX7_readPiece) dX7_readPiece_141 rfl rfl ⟨_, _, _, rfl, rfl, I48, K49, by decide, by decide, ⟨by omega, by omega, by omega, Or.inr ⟨by decide, by rw [PI_cm kn33 kn40, CM_ok k93 kC]; exact RSX_fl k137 (by omega)⟩, by omega⟩⟩
        · have c30 := iv_ne (X := v26.toInt) (Y := 60) c30 rfl (by decide)
          refine pv_iload_n (M := mX7_readPiece) 2 dX7_readPiece_104 105 rfl rfl rfl ?_
          refine pv_bipush (M := mX7_readPiece) (v := 62) dX7_readPiece_105 107 rfl (by decide) ?_
          refine pv_icmp_eq (M := mX7_readPiece) (tgt := 122) dX7_readPiece_107 110 rfl (by decide) (fun c65 => ?_) (fun c65 => ?_)
          · have c65 := iv_eq (X := v26.toInt) (Y := 62) c65 rfl (by decide)
            have kC : isC (tC m (m15 86 3).toInt) = true := by rw [← k97]; exact isC_y (by omega)
            refine pv_aload_n (M := mX7_readPiece) 0 dX7_readPiece_122 123 rfl rfl rfl ?_
            refine pv_dup (M := mX7_readPiece) dX7_readPiece_123 124 rfl rfl ?_
            refine iv_get (M := mX7_readPiece) (l1 := 0) (l2 := 160) dX7_readPiece_124 FX7 3 wd283 (by decide) (tl86 hT) rfl I17 rfl 127 rfl (fun v67 ev67 pv67 qv67 => ?_)
            have wv67 : v67.toInt = (m15 86 3).toInt := congrArg Int32.toInt ev67
            refine pv_iconst (M := mX7_readPiece) (v := 1) dX7_readPiece_127 128 rfl (by decide) ?_
            refine iv_iadd (M := mX7_readPiece) (X := v67.toInt) (Y := 1) dX7_readPiece_128 129 rfl rfl (by decide) (by omega) (by omega) (fun v68 ev68 => ?_)
            refine iv_put (M := mX7_readPiece) (l1 := 0) (l2 := 160) dX7_readPiece_129 FX7 3 wd283 (by decide) rfl (tl86 hT) rfl rfl rfl I17 rfl (by omega) (by omega) 132 rfl (fun m69 e72 I70 => ?_)
            have K71 := K18.set e72 (by decide)
            have w73 : (m69 86 3).toInt = v68.toInt := by rw [e72, up2_eq]
            have w74 : (m69 86 2).toInt = (m15 86 2).toInt := by rw [e72, up2_ne (by omega)]
            have w75 : (m69 86 4).toInt = (m15 86 4).toInt := by rw [e72, up2_ne (by omega)]
            have w76 : (m69 lb 7).toInt = (m15 lb 7).toInt := by rw [e72, up2_ne (by omega)]
            have kt132 : tC m69 = tC m := tC_eq (K71 86 2 rfl) (fun j => K71 87 j rfl)
            have kp132 : (m69 86 3).toInt = (m15 86 3).toInt + 1 := by omega
            refine pv_aload_n (M := mX7_readPiece) 0 dX7_readPiece_132 133 rfl rfl rfl ?_
            refine pv_iload_n (M := mX7_readPiece) 1 dX7_readPiece_133 134 rfl rfl rfl ?_
            have z79 : (4 : Int32).toInt = 4 := by decide
            refine pv_callv (M := mX7_readPiece) (as := [.int 4]) (st := []) (kc2 := 0) (ks2 := 0) dX7_readPiece_134 wd539 YX7_readSum ⟨wd541, wd4⟩ (mk_get (tl86 hT)) rfl rfl (s_X7_readSum_v4x g hT I70 R (by first | omega | assumption | exact (iv_rng _).2 | exact (iv_rng _).1 | decide) (TBC_eq hp1 kt132)) rfl rfl (Nat.le_of_ble_eq_true rfl) (by decide) rfl rfl 137 rfl (fun rv h1 q80 => ?_)
            obtain ⟨m81, n82, v85, rfl, rfl, I83, K84, pv85, qv85, rv85⟩ := q80
            replace rv85 : (m69 86 3).toInt ≤ (m81 86 3).toInt ∧ (m81 86 3).toInt ≤ (m81 86 2).toInt ∧ (m81 86 2).toInt = (m69 86 2).toInt ∧ (RSX (SU (tC m69) 2 (m69 86 3).toInt) v85.toInt (m81 86 3).toInt (m81 86 4).toInt) ∧ (m81 lb 7).toInt = (m69 lb 7).toInt := by have q_ := rv85; (try rw [z79] at q_); exact q_
            have K84c := K84
            have K84 := K71.trans (K84.sub (fun _ _ q => q))
            show PV _ _ _ _ _ _ _ 137 [.ref 86, .int 4, .int v26] [.int v85] _
            have k137 := rv85.2.2.2.1
            rw [kt132, kp132] at k137
            refine pv_if_ne (M := mX7_readPiece) (tgt := 142) dX7_readPiece_137 140 rfl (by decide) (fun c88 => ?_) (fun c88 => ?_)
            · have c88 := iv_ne (X := v85.toInt) (Y := 0) c88 rfl (by decide)
              refine pv_aload_n (M := mX7_readPiece) 0 dX7_readPiece_142 143 rfl rfl rfl ?_
              refine mv_get (M := mX7_readPiece) (v := .ref lb) dX7_readPiece_143 FX7 1 wd281 (by decide) (tl86 hT) rfl R.2.2.2.1 146 rfl ?_
              refine pv_iload_n (M := mX7_readPiece) 2 dX7_readPiece_146 147 rfl rfl rfl ?_
              refine pv_iconst (M := mX7_readPiece) (v := 0) dX7_readPiece_147 148 rfl (by decide) ?_
              have z89 : (0 : Int32).toInt = 0 := by decide
              refine pv_callv (M := mX7_readPiece) (as := [.int v26, .int 0]) (st := []) (kc2 := 0) (ks2 := 0) dX7_readPiece_148 wd567 YX6_emit ⟨wd568, wd569⟩ (mk_get R.2.2.2.2.2.2.1) rfl rfl (s_X6_emit_vx g hT I83 lb R.2.2.2.2.2 v26 0 (by decide) (by decide)) rfl rfl (Nat.le_of_ble_eq_true rfl) (by decide) rfl rfl 151 rfl (fun rv h1 q90 => ?_)
              obtain ⟨m91, n92, rfl, rfl, I93, K94, rm91⟩ := q90
              replace rm91 : (m91 lb 7).toInt = (m81 lb 7).toInt := rm91
              have K94c := K94
              have w95 : (m91 86 3).toInt = (m81 86 3).toInt := congrArg Int32.toInt (K94 86 3 (wr_out (by omega)))
              have w96 : (m91 86 2).toInt = (m81 86 2).toInt := congrArg Int32.toInt (K94 86 2 (wr_out (by omega)))
              have w97 : (m91 86 4).toInt = (m81 86 4).toInt := congrArg Int32.toInt (K94 86 4 (wr_out (by omega)))
              have K94 := K84.trans (K94.sub (by first | exact wR7_r (by omega) | exact wR7_wr))
              show PV _ _ _ _ _ _ _ 151 [.ref 86, .int 4, .int v26] [] _
              refine pv_iconst (M := mX7_readPiece) (v := 1) dX7_readPiece_151 152 rfl (by decide) ?_
              have z98 : (1 : Int32).toInt = 1 := by decide
              exact pv_iret (M := mX7_readPiece) dX7_readPiece_152 rfl rfl ⟨_, _, _, rfl, rfl, I93, K94, by decide, by decide, ⟨by omega, by omega, by omega, Or.inl ⟨by decide, by rw [PI_cm kn33 kn40, CM_ok k93 kC, RSX_ok k137 (by omega), show (m81 86 3).toInt = (m91 86 3).toInt by omega]⟩, by omega⟩⟩
            · have c88 := iv_eq (X := v85.toInt) (Y := 0) c88 rfl (by decide)
              refine pv_iconst (M := mX7_readPiece) (v := 0) dX7_readPiece_140 141 rfl (by decide) ?_
              have z99 : (0 : Int32).toInt = 0 := by decide
              exact pv_iret (M := mX7_readPiece) dX7_readPiece_141 rfl rfl ⟨_, _, _, rfl, rfl, I83, K84, by decide, by decide, ⟨by omega, by omega, by omega, Or.inr ⟨by decide, by rw [PI_cm kn33 kn40, CM_ok k93 kC]; exact RSX_fl k137 (by omega)⟩, by omega⟩⟩
          · have c65 := iv_ne (X := v26.toInt) (Y := 62) c65 rfl (by decide)
            refine pv_iload_n (M := mX7_readPiece) 2 dX7_readPiece_110 111 rfl rfl rfl ?_
            refine pv_bipush (M := mX7_readPiece) (v := 61) dX7_readPiece_111 113 rfl (by decide) ?_
            refine pv_icmp_eq (M := mX7_readPiece) (tgt := 122) dX7_readPiece_113 116 rfl (by decide) (fun c100 => ?_) (fun c100 => ?_)
            · have c100 := iv_eq (X := v26.toInt) (Y := 61) c100 rfl (by decide)
              have kC : isC (tC m (m15 86 3).toInt) = true := by rw [← k97]; exact isC_y (by omega)
              refine pv_aload_n (M := mX7_readPiece) 0 dX7_readPiece_122 123 rfl rfl rfl ?_
              refine pv_dup (M := mX7_readPiece) dX7_readPiece_123 124 rfl rfl ?_
              refine iv_get (M := mX7_readPiece) (l1 := 0) (l2 := 160) dX7_readPiece_124 FX7 3 wd283 (by decide) (tl86 hT) rfl I17 rfl 127 rfl (fun v102 ev102 pv102 qv102 => ?_)
              have wv102 : v102.toInt = (m15 86 3).toInt := congrArg Int32.toInt ev102
              refine pv_iconst (M := mX7_readPiece) (v := 1) dX7_readPiece_127 128 rfl (by decide) ?_
              refine iv_iadd (M := mX7_readPiece) (X := v102.toInt) (Y := 1) dX7_readPiece_128 129 rfl rfl (by decide) (by omega) (by omega) (fun v103 ev103 => ?_)
              refine iv_put (M := mX7_readPiece) (l1 := 0) (l2 := 160) dX7_readPiece_129 FX7 3 wd283 (by decide) rfl (tl86 hT) rfl rfl rfl I17 rfl (by omega) (by omega) 132 rfl (fun m104 e107 I105 => ?_)
              have K106 := K18.set e107 (by decide)
              have w108 : (m104 86 3).toInt = v103.toInt := by rw [e107, up2_eq]
              have w109 : (m104 86 2).toInt = (m15 86 2).toInt := by rw [e107, up2_ne (by omega)]
              have w110 : (m104 86 4).toInt = (m15 86 4).toInt := by rw [e107, up2_ne (by omega)]
              have w111 : (m104 lb 7).toInt = (m15 lb 7).toInt := by rw [e107, up2_ne (by omega)]
              have kt132 : tC m104 = tC m := tC_eq (K106 86 2 rfl) (fun j => K106 87 j rfl)
              have kp132 : (m104 86 3).toInt = (m15 86 3).toInt + 1 := by omega
              refine pv_aload_n (M := mX7_readPiece) 0 dX7_readPiece_132 133 rfl rfl rfl ?_
              refine pv_iload_n (M := mX7_readPiece) 1 dX7_readPiece_133 134 rfl rfl rfl ?_
              have z114 : (4 : Int32).toInt = 4 := by decide
              refine pv_callv (M := mX7_readPiece) (as := [.int 4]) (st := []) (kc2 := 0) (ks2 := 0) dX7_readPiece_134 wd539 YX7_readSum ⟨wd541, wd4⟩ (mk_get (tl86 hT)) rfl rfl (s_X7_readSum_v4x g hT I105 R (by first | omega | assumption | exact (iv_rng _).2 | exact (iv_rng _).1 | decide) (TBC_eq hp1 kt132)) rfl rfl (Nat.le_of_ble_eq_true rfl) (by decide) rfl rfl 137 rfl (fun rv h1 q115 => ?_)
              obtain ⟨m116, n117, v120, rfl, rfl, I118, K119, pv120, qv120, rv120⟩ := q115
              replace rv120 : (m104 86 3).toInt ≤ (m116 86 3).toInt ∧ (m116 86 3).toInt ≤ (m116 86 2).toInt ∧ (m116 86 2).toInt = (m104 86 2).toInt ∧ (RSX (SU (tC m104) 2 (m104 86 3).toInt) v120.toInt (m116 86 3).toInt (m116 86 4).toInt) ∧ (m116 lb 7).toInt = (m104 lb 7).toInt := by have q_ := rv120; (try rw [z114] at q_); exact q_
              have K119c := K119
              have K119 := K106.trans (K119.sub (fun _ _ q => q))
              show PV _ _ _ _ _ _ _ 137 [.ref 86, .int 4, .int v26] [.int v120] _
              have k137 := rv120.2.2.2.1
              rw [kt132, kp132] at k137
              refine pv_if_ne (M := mX7_readPiece) (tgt := 142) dX7_readPiece_137 140 rfl (by decide) (fun c123 => ?_) (fun c123 => ?_)
              · have c123 := iv_ne (X := v120.toInt) (Y := 0) c123 rfl (by decide)
                refine pv_aload_n (M := mX7_readPiece) 0 dX7_readPiece_142 143 rfl rfl rfl ?_
                refine mv_get (M := mX7_readPiece) (v := .ref lb) dX7_readPiece_143 FX7 1 wd281 (by decide) (tl86 hT) rfl R.2.2.2.1 146 rfl ?_
                refine pv_iload_n (M := mX7_readPiece) 2 dX7_readPiece_146 147 rfl rfl rfl ?_
                refine pv_iconst (M := mX7_readPiece) (v := 0) dX7_readPiece_147 148 rfl (by decide) ?_
                have z124 : (0 : Int32).toInt = 0 := by decide
                refine pv_callv (M := mX7_readPiece) (as := [.int v26, .int 0]) (st := []) (kc2 := 0) (ks2 := 0) dX7_readPiece_148 wd567 YX6_emit ⟨wd568, wd569⟩ (mk_get R.2.2.2.2.2.2.1) rfl rfl (s_X6_emit_vx g hT I118 lb R.2.2.2.2.2 v26 0 (by decide) (by decide)) rfl rfl (Nat.le_of_ble_eq_true rfl) (by decide) rfl rfl 151 rfl (fun rv h1 q125 => ?_)
                obtain ⟨m126, n127, rfl, rfl, I128, K129, rm126⟩ := q125
                replace rm126 : (m126 lb 7).toInt = (m116 lb 7).toInt := rm126
                have K129c := K129
                have w130 : (m126 86 3).toInt = (m116 86 3).toInt := congrArg Int32.toInt (K129 86 3 (wr_out (by omega)))
                have w131 : (m126 86 2).toInt = (m116 86 2).toInt := congrArg Int32.toInt (K129 86 2 (wr_out (by omega)))
                have w132 : (m126 86 4).toInt = (m116 86 4).toInt := congrArg Int32.toInt (K129 86 4 (wr_out (by omega)))
                have K129 := K119.trans (K129.sub (by first | exact wR7_r (by omega) | exact wR7_wr))
                show PV _ _ _ _ _ _ _ 151 [.ref 86, .int 4, .int v26] [] _
                refine pv_iconst (M := mX7_readPiece) (v := 1) dX7_readPiece_151 152 rfl (by decide) ?_
                have z133 : (1 : Int32).toInt = 1 := by decide
                exact pv_iret (M := mX7_readPiece) dX7_readPiece_152 rfl rfl ⟨_, _, _, rfl, rfl, I128, K129, by decide, by decide, ⟨by omega, by omega, by omega, Or.inl ⟨by decide, by rw [PI_cm kn33 kn40, CM_ok k93 kC, RSX_ok k137 (by omega), show (m116 86 3).toInt = (m126 86 3).toInt by omega]⟩, by omega⟩⟩
              · have c123 := iv_eq (X := v120.toInt) (Y := 0) c123 rfl (by decide)
                refine pv_iconst (M := mX7_readPiece) (v := 0) dX7_readPiece_140 141 rfl (by decide) ?_
                have z134 : (0 : Int32).toInt = 0 := by decide
                exact pv_iret (M := mX7_readPiece) dX7_readPiece_141 rfl rfl ⟨_, _, _, rfl, rfl, I118, K119, by decide, by decide, ⟨by omega, by omega, by omega, Or.inr ⟨by decide, by rw [PI_cm kn33 kn40, CM_ok k93 kC]; exact RSX_fl k137 (by omega)⟩, by omega⟩⟩
            · have c100 := iv_ne (X := v26.toInt) (Y := 61) c100 rfl (by decide)
              refine pv_aload_n (M := mX7_readPiece) 0 dX7_readPiece_116 117 rfl rfl rfl ?_
              refine pv_iconst (M := mX7_readPiece) (v := 1) dX7_readPiece_117 118 rfl (by decide) ?_
              have z135 : (1 : Int32).toInt = 1 := by decide
              refine pv_callv (M := mX7_readPiece) (as := [.int 1]) (st := []) (kc2 := 0) (ks2 := 0) dX7_readPiece_118 wd531 YX7_fail ⟨wd533, wd3⟩ (mk_get (tl86 hT)) rfl rfl (s_X7_fail_vx g hT I17 R 1 (by decide) (by decide) (by first | omega | assumption | exact (iv_rng _).2 | exact (iv_rng _).1 | decide)) rfl rfl (Nat.le_of_ble_eq_true rfl) (by decide) rfl rfl 121 rfl (fun rv h1 q136 => ?_)
              obtain ⟨m137, n138, v141, rfl, rfl, I139, K140, pv141, qv141, rv141⟩ := q136
              replace rv141 : (m15 86 3).toInt ≤ (m137 86 3).toInt ∧ (m137 86 3).toInt ≤ (m137 86 2).toInt ∧ (m137 86 2).toInt = (m15 86 2).toInt ∧ (v141.toInt = 0 ∧ (m137 86 3).toInt = (m15 86 3).toInt ∧ (m137 86 4).toInt = -1000 * (1 : Int) - (m15 86 3).toInt) ∧ (m137 lb 7).toInt = (m15 lb 7).toInt := by have q_ := rv141; (try rw [z135] at q_); exact q_
              have K140c := K140
              have K140 := K18.trans (K140.sub (fun _ _ q => q))
              show PV _ _ _ _ _ _ _ 121 [.ref 86, .int 4, .int v26] [.int v141] _
              exact pv_iret (M := mX7_readPiece) dX7_readPiece_121 rfl (iv_nz (by omega) (by omega)) ⟨_, _, _, rfl, rfl, I139, K140, by omega, by omega, ⟨by omega, by omega, by omega, Or.inr ⟨by omega, by rw [PI_cm kn33 kn40]; exact CM_no k93 (isC_no (by omega) (by omega) (by omega)) (by omega)⟩, by omega⟩⟩
      · have c21 := iv_eq (X := v19.toInt) (Y := 0) c21 rfl (by decide)
        refine pv_iconst (M := mX7_readPiece) (v := 0) dX7_readPiece_91 92 rfl (by decide) ?_
        have z142 : (0 : Int32).toInt = 0 := by decide
        exact pv_iret (M := mX7_readPiece) dX7_readPiece_92 rfl rfl ⟨_, _, _, rfl, rfl, I17, K18, by decide, by decide, ⟨by omega, by omega, by omega, Or.inr ⟨by decide, by rw [PI_cm kn33 kn40]; exact CM_fl (RSX_fl k88 (by omega))⟩, by omega⟩⟩
    · have c11 := iv_eq (X := v8.toInt) (Y := 40) c11 rfl (by decide)
      have k40 : tC m (m 86 3).toInt = 40 := by omega
      refine pv_aload_n (M := mX7_readPiece) 0 dX7_readPiece_50 51 rfl rfl rfl ?_
      refine pv_iload_n (M := mX7_readPiece) 1 dX7_readPiece_51 52 rfl rfl rfl ?_
      have z144 : (4 : Int32).toInt = 4 := by decide
      refine pv_callv (M := mX7_readPiece) (as := [.int 4]) (st := []) (kc2 := 0) (ks2 := 0) dX7_readPiece_52 wd551 YX7_open ⟨wd553, wd7⟩ (mk_get (tl86 hT)) rfl rfl (s_X7_open_vx g hT I R 4 (by decide) (by decide) (by first | omega | assumption | exact (iv_rng _).2 | exact (iv_rng _).1 | decide)) rfl rfl (Nat.le_of_ble_eq_true rfl) (by decide) rfl rfl 55 rfl (fun rv h1 q145 => ?_)
      obtain ⟨m146, n147, v150, rfl, rfl, I148, K149, pv150, qv150, rv150⟩ := q145
      replace rv150 : (v150 = 0 ∨ (4 : Int) ≤ 5) ∧ (m 86 3).toInt ≤ (m146 86 3).toInt ∧ (m146 86 3).toInt ≤ (m146 86 2).toInt ∧ (m146 86 2).toInt = (m 86 2).toInt ∧ ((v150.toInt = 1 ∧ (4 : Int) ≤ 5 ∧ (m146 86 3).toInt = (m 86 3).toInt + 1) ∨ (v150.toInt = 0 ∧ 6 ≤ (4 : Int) ∧ (m146 86 4).toInt = -5000 - (m 86 3).toInt ∧ (m146 86 3).toInt = (m 86 3).toInt)) ∧ (m146 lb 7).toInt = (m lb 7).toInt := by have q_ := rv150; (try rw [z144] at q_); exact q_
      have K149c := K149
      have K149 := Kp.trans (K149.sub (fun _ _ q => q))
      show PV _ _ _ _ _ _ _ 55 [.ref 86, .int 4, pv_U] [.int v150] _
      refine pv_if_eq (M := mX7_readPiece) (tgt := 81) dX7_readPiece_55 58 rfl (by decide) (fun c151 => ?_) (fun c151 => ?_)
      · have c151 := iv_eq (X := v150.toInt) (Y := 0) c151 rfl (by decide)
        refine pv_iconst (M := mX7_readPiece) (v := 0) dX7_readPiece_81 82 rfl (by decide) ?_
        have z152 : (0 : Int32).toInt = 0 := by decide
        exact pv_iret (M := mX7_readPiece) dX7_readPiece_82 rfl rfl ⟨_, _, _, rfl, rfl, I148, K149, by decide, by decide, ⟨by omega, by omega, by omega, (by first | exact Or.inr ⟨by decide, PX_deep (Or.inr k40) (by omega)⟩ | exact Or.inr ⟨by decide, PX_cn k40 k68 (fun z => by omega) (by omega)⟩ | exact Or.inl ⟨by decide, PX_co k40 k68 (by omega) (by omega)⟩ | exact Or.inr ⟨by decide, PX_con k40 (RSX_fl k65 (by omega))⟩ | (exfalso; omega)), by omega⟩⟩
      · have pc151 := rv150.1.resolve_left c151
        have c151 := iv_ne (X := v150.toInt) (Y := 0) c151 rfl (by decide)
        have kt58 : tC m146 = tC m := tC_eq (K149 86 2 rfl) (fun j => K149 87 j rfl)
        have kp58 : (m146 86 3).toInt = (m 86 3).toInt + 1 := by omega
        refine pv_aload_n (M := mX7_readPiece) 0 dX7_readPiece_58 59 rfl rfl rfl ?_
        refine pv_iload_n (M := mX7_readPiece) 1 dX7_readPiece_59 60 rfl rfl rfl ?_
        refine pv_iconst (M := mX7_readPiece) (v := 1) dX7_readPiece_60 61 rfl (by decide) ?_
        refine pv_iadd (M := mX7_readPiece) (v := 5) dX7_readPiece_61 62 rfl (by decide) ?_
        have z156 : (5 : Int32).toInt = 5 := by decide
        refine pv_callv (M := mX7_readPiece) (as := [.int 5]) (st := []) (kc2 := 0) (ks2 := 0) dX7_readPiece_62 wd662 YX7_readCondition ⟨wd664, wd12⟩ (mk_get (tl86 hT)) rfl rfl (s_X7_readCondition_v5x g hT I148 R (by first | omega | assumption | exact (iv_rng _).2 | exact (iv_rng _).1 | decide) (TBC_eq hp1 kt58)) rfl rfl (Nat.le_of_ble_eq_true rfl) (by decide) rfl rfl 65 rfl (fun rv h1 q157 => ?_)
        obtain ⟨m158, n159, v162, rfl, rfl, I160, K161, pv162, qv162, rv162⟩ := q157
        replace rv162 : (m146 86 3).toInt ≤ (m158 86 3).toInt ∧ (m158 86 3).toInt ≤ (m158 86 2).toInt ∧ (m158 86 2).toInt = (m146 86 2).toInt ∧ (RSX (CN (tC m146) 1 (m146 86 3).toInt) v162.toInt (m158 86 3).toInt (m158 86 4).toInt) ∧ (m158 lb 7).toInt = (m146 lb 7).toInt := by have q_ := rv162; (try rw [z156] at q_); exact q_
        have K161c := K161
        have K161 := K149.trans (K161.sub (fun _ _ q => q))
        show PV _ _ _ _ _ _ _ 65 [.ref 86, .int 4, pv_U] [.int v162] _
        have k65 := rv162.2.2.2.1
        rw [kt58, kp58] at k65
        refine pv_if_eq (M := mX7_readPiece) (tgt := 81) dX7_readPiece_65 68 rfl (by decide) (fun c165 => ?_) (fun c165 => ?_)
        · have c165 := iv_eq (X := v162.toInt) (Y := 0) c165 rfl (by decide)
          refine pv_iconst (M := mX7_readPiece) (v := 0) dX7_readPiece_81 82 rfl (by decide) ?_
          have z166 : (0 : Int32).toInt = 0 := by decide
          exact pv_iret (M := mX7_readPiece) dX7_readPiece_82 rfl rfl ⟨_, _, _, rfl, rfl, I160, K161, by decide, by decide, ⟨by omega, by omega, by omega, (by first | exact Or.inr ⟨by decide, PX_deep (Or.inr k40) (by omega)⟩ | exact Or.inr ⟨by decide, PX_cn k40 k68 (fun z => by omega) (by omega)⟩ | exact Or.inl ⟨by decide, PX_co k40 k68 (by omega) (by omega)⟩ | exact Or.inr ⟨by decide, PX_con k40 (RSX_fl k65 (by omega))⟩ | (exfalso; omega)), by omega⟩⟩
        · have c165 := iv_ne (X := v162.toInt) (Y := 0) c165 rfl (by decide)
          have k68 := RSX_ok k65 (by omega)
          have kt68 : tC m158 = tC m := tC_eq (K161 86 2 rfl) (fun j => K161 87 j rfl)
          refine pv_aload_n (M := mX7_readPiece) 0 dX7_readPiece_68 69 rfl rfl rfl ?_
          refine pv_bipush (M := mX7_readPiece) (v := 41) dX7_readPiece_69 71 rfl (by decide) ?_
          have z169 : (41 : Int32).toInt = 41 := by decide
          refine pv_callv (M := mX7_readPiece) (as := [.int 41]) (st := []) (kc2 := 0) (ks2 := 0) dX7_readPiece_71 wd555 YX7_pass ⟨wd557, wd8⟩ (mk_get (tl86 hT)) rfl rfl (s_X7_pass_vx g hT I160 R 41 (by decide) (by decide) (by first | omega | assumption | exact (iv_rng _).2 | exact (iv_rng _).1 | decide)) rfl rfl (Nat.le_of_ble_eq_true rfl) (by decide) rfl rfl 74 rfl (fun rv h1 q170 => ?_)
          obtain ⟨m171, n172, v175, rfl, rfl, I173, K174, pv175, qv175, rv175⟩ := q170
          replace rv175 : (m158 86 3).toInt ≤ (m171 86 3).toInt ∧ (m171 86 3).toInt ≤ (m171 86 2).toInt ∧ (m171 86 2).toInt = (m158 86 2).toInt ∧ ((v175.toInt = 1 ∧ tC m158 (m158 86 3).toInt = (41 : Int) ∧ (m171 86 3).toInt = (m158 86 3).toInt + 1) ∨ (v175.toInt = 0 ∧ tC m158 (m158 86 3).toInt ≠ (41 : Int) ∧ (m171 86 4).toInt = -1000 - (m158 86 3).toInt ∧ (m171 86 3).toInt = (m158 86 3).toInt)) ∧ (m171 lb 7).toInt = (m158 lb 7).toInt := by have q_ := rv175; (try rw [z169] at q_); exact q_
          have K174c := K174
          have K174 := K161.trans (K174.sub (fun _ _ q => q))
          show PV _ _ _ _ _ _ _ 74 [.ref 86, .int 4, pv_U] [.int v175] _
          have k74 := rv175.2.2.2.1
          rw [kt68] at k74
          refine pv_if_eq (M := mX7_readPiece) (tgt := 81) dX7_readPiece_74 77 rfl (by decide) (fun c178 => ?_) (fun c178 => ?_)
          · have c178 := iv_eq (X := v175.toInt) (Y := 0) c178 rfl (by decide)
            refine pv_iconst (M := mX7_readPiece) (v := 0) dX7_readPiece_81 82 rfl (by decide) ?_
            have z179 : (0 : Int32).toInt = 0 := by decide
            exact pv_iret (M := mX7_readPiece) dX7_readPiece_82 rfl rfl ⟨_, _, _, rfl, rfl, I173, K174, by decide, by decide, ⟨by omega, by omega, by omega, (by first | exact Or.inr ⟨by decide, PX_deep (Or.inr k40) (by omega)⟩ | exact Or.inr ⟨by decide, PX_cn k40 k68 (fun z => by omega) (by omega)⟩ | exact Or.inl ⟨by decide, PX_co k40 k68 (by omega) (by omega)⟩ | exact Or.inr ⟨by decide, PX_con k40 (RSX_fl k65 (by omega))⟩ | (exfalso; omega)), by omega⟩⟩
          · have c178 := iv_ne (X := v175.toInt) (Y := 0) c178 rfl (by decide)
            refine pv_iconst (M := mX7_readPiece) (v := 1) dX7_readPiece_77 78 rfl (by decide) ?_
            refine pv_goto (M := mX7_readPiece) (tgt := 82) dX7_readPiece_78 (by decide) ?_
            have z180 : (1 : Int32).toInt = 1 := by decide
            exact pv_iret (M := mX7_readPiece) dX7_readPiece_82 rfl rfl ⟨_, _, _, rfl, rfl, I173, K174, by decide, by decide, ⟨by omega, by omega, by omega, (by first | exact Or.inr ⟨by decide, PX_deep (Or.inr k40) (by omega)⟩ | exact Or.inr ⟨by decide, PX_cn k40 k68 (fun z => by omega) (by omega)⟩ | exact Or.inl ⟨by decide, PX_co k40 k68 (by omega) (by omega)⟩ | exact Or.inr ⟨by decide, PX_con k40 (RSX_fl k65 (by omega))⟩ | (exfalso; omega)), by omega⟩⟩
  · have c5 := iv_eq (X := v2.toInt) (Y := 33) c5 rfl (by decide)
    have k33 : tC m (m 86 3).toInt = 33 := by omega
    refine pv_aload_n (M := mX7_readPiece) 0 dX7_readPiece_9 10 rfl rfl rfl ?_
    refine pv_iload_n (M := mX7_readPiece) 1 dX7_readPiece_10 11 rfl rfl rfl ?_
    have z182 : (4 : Int32).toInt = 4 := by decide
    refine pv_callv (M := mX7_readPiece) (as := [.int 4]) (st := []) (kc2 := 0) (ks2 := 0) dX7_readPiece_11 wd551 YX7_open ⟨wd553, wd7⟩ (mk_get (tl86 hT)) rfl rfl (s_X7_open_vx g hT I R 4 (by decide) (by decide) (by first | omega | assumption | exact (iv_rng _).2 | exact (iv_rng _).1 | decide)) rfl rfl (Nat.le_of_ble_eq_true rfl) (by decide) rfl rfl 14 rfl (fun rv h1 q183 => ?_)
    obtain ⟨m184, n185, v188, rfl, rfl, I186, K187, pv188, qv188, rv188⟩ := q183
    replace rv188 : (v188 = 0 ∨ (4 : Int) ≤ 5) ∧ (m 86 3).toInt ≤ (m184 86 3).toInt ∧ (m184 86 3).toInt ≤ (m184 86 2).toInt ∧ (m184 86 2).toInt = (m 86 2).toInt ∧ ((v188.toInt = 1 ∧ (4 : Int) ≤ 5 ∧ (m184 86 3).toInt = (m 86 3).toInt + 1) ∨ (v188.toInt = 0 ∧ 6 ≤ (4 : Int) ∧ (m184 86 4).toInt = -5000 - (m 86 3).toInt ∧ (m184 86 3).toInt = (m 86 3).toInt)) ∧ (m184 lb 7).toInt = (m lb 7).toInt := by have q_ := rv188; (try rw [z182] at q_); exact q_
    have K187c := K187
    have K187 := Kp.trans (K187.sub (fun _ _ q => q))
    show PV _ _ _ _ _ _ _ 14 [.ref 86, .int 4, pv_U] [.int v188] _
    refine pv_if_eq (M := mX7_readPiece) (tgt := 27) dX7_readPiece_14 17 rfl (by decide) (fun c189 => ?_) (fun c189 => ?_)
    · have c189 := iv_eq (X := v188.toInt) (Y := 0) c189 rfl (by decide)
      refine pv_iconst (M := mX7_readPiece) (v := 0) dX7_readPiece_27 28 rfl (by decide) ?_
      have z190 : (0 : Int32).toInt = 0 := by decide
      exact pv_iret (M := mX7_readPiece) dX7_readPiece_28 rfl rfl ⟨_, _, _, rfl, rfl, I186, K187, by decide, by decide, ⟨by omega, by omega, by omega, (by first | exact Or.inr ⟨by decide, PX_deep (Or.inl k33) (by omega)⟩ | exact Or.inr ⟨by decide, by rw [PI_not k33]; exact RSX_fl k24 (by omega)⟩ | (exfalso; omega)), by omega⟩⟩
    · have pc189 := rv188.1.resolve_left c189
      have c189 := iv_ne (X := v188.toInt) (Y := 0) c189 rfl (by decide)
      have kt17 : tC m184 = tC m := tC_eq (K187 86 2 rfl) (fun j => K187 87 j rfl)
      have kp17 : (m184 86 3).toInt = (m 86 3).toInt + 1 := by omega
      refine pv_aload_n (M := mX7_readPiece) 0 dX7_readPiece_17 18 rfl rfl rfl ?_
      refine pv_iload_n (M := mX7_readPiece) 1 dX7_readPiece_18 19 rfl rfl rfl ?_
      refine pv_iconst (M := mX7_readPiece) (v := 1) dX7_readPiece_19 20 rfl (by decide) ?_
      refine pv_iadd (M := mX7_readPiece) (v := 5) dX7_readPiece_20 21 rfl (by decide) ?_
      have z194 : (5 : Int32).toInt = 5 := by decide
      refine pv_callv (M := mX7_readPiece) (as := [.int 5]) (st := []) (kc2 := 0) (ks2 := 0) dX7_readPiece_21 wd674 YX7_readPiece ⟨wd676, wd14⟩ (mk_get (tl86 hT)) rfl rfl (s_X7_readPiece_v5x g hT I186 R (by first | omega | assumption | exact (iv_rng _).2 | exact (iv_rng _).1 | decide) (TBC_eq hp1 kt17)) rfl rfl (Nat.le_of_ble_eq_true rfl) (by decide) rfl rfl 24 rfl (fun rv h1 q195 => ?_)
      obtain ⟨m196, n197, v200, rfl, rfl, I198, K199, pv200, qv200, rv200⟩ := q195
      replace rv200 : (m184 86 3).toInt ≤ (m196 86 3).toInt ∧ (m196 86 3).toInt ≤ (m196 86 2).toInt ∧ (m196 86 2).toInt = (m184 86 2).toInt ∧ (RSX (PI (tC m184) 1 (m184 86 3).toInt) v200.toInt (m196 86 3).toInt (m196 86 4).toInt) ∧ (m196 lb 7).toInt = (m184 lb 7).toInt := by have q_ := rv200; (try rw [z194] at q_); exact q_
      have K199c := K199
      have K199 := K187.trans (K199.sub (fun _ _ q => q))
      show PV _ _ _ _ _ _ _ 24 [.ref 86, .int 4, pv_U] [.int v200] _
      have k24 := rv200.2.2.2.1
      rw [kt17, kp17] at k24
      refine pv_if_ne (M := mX7_readPiece) (tgt := 29) dX7_readPiece_24 27 rfl (by decide) (fun c203 => ?_) (fun c203 => ?_)
      · have c203 := iv_ne (X := v200.toInt) (Y := 0) c203 rfl (by decide)
        refine pv_aload_n (M := mX7_readPiece) 0 dX7_readPiece_29 30 rfl rfl rfl ?_
        refine mv_get (M := mX7_readPiece) (v := .ref lb) dX7_readPiece_30 FX7 1 wd281 (by decide) (tl86 hT) rfl R.2.2.2.1 33 rfl ?_
        refine pv_bipush (M := mX7_readPiece) (v := 33) dX7_readPiece_33 35 rfl (by decide) ?_
        refine pv_iconst (M := mX7_readPiece) (v := 0) dX7_readPiece_35 36 rfl (by decide) ?_
        have z204 : (33 : Int32).toInt = 33 := by decide
        have z205 : (0 : Int32).toInt = 0 := by decide
        refine pv_callv (M := mX7_readPiece) (as := [.int 33, .int 0]) (st := []) (kc2 := 0) (ks2 := 0) dX7_readPiece_36 wd567 YX6_emit ⟨wd568, wd569⟩ (mk_get R.2.2.2.2.2.2.1) rfl rfl (s_X6_emit_vx g hT I198 lb R.2.2.2.2.2 33 0 (by decide) (by decide)) rfl rfl (Nat.le_of_ble_eq_true rfl) (by decide) rfl rfl 39 rfl (fun rv h1 q206 => ?_)
        obtain ⟨m207, n208, rfl, rfl, I209, K210, rm207⟩ := q206
        replace rm207 : (m207 lb 7).toInt = (m196 lb 7).toInt := rm207
        have K210c := K210
        have w211 : (m207 86 3).toInt = (m196 86 3).toInt := congrArg Int32.toInt (K210 86 3 (wr_out (by omega)))
        have w212 : (m207 86 2).toInt = (m196 86 2).toInt := congrArg Int32.toInt (K210 86 2 (wr_out (by omega)))
        have w213 : (m207 86 4).toInt = (m196 86 4).toInt := congrArg Int32.toInt (K210 86 4 (wr_out (by omega)))
        have K210 := K199.trans (K210.sub (by first | exact wR7_r (by omega) | exact wR7_wr))
        show PV _ _ _ _ _ _ _ 39 [.ref 86, .int 4, pv_U] [] _
        refine pv_iconst (M := mX7_readPiece) (v := 1) dX7_readPiece_39 40 rfl (by decide) ?_
        have z214 : (1 : Int32).toInt = 1 := by decide
        exact pv_iret (M := mX7_readPiece) dX7_readPiece_40 rfl rfl ⟨_, _, _, rfl, rfl, I209, K210, by decide, by decide, ⟨by omega, by omega, by omega, Or.inl ⟨by decide, by rw [PI_not k33, RSX_ok k24 (by omega), show (m196 86 3).toInt = (m207 86 3).toInt by omega]⟩, by omega⟩⟩
      · have c203 := iv_eq (X := v200.toInt) (Y := 0) c203 rfl (by decide)
        refine pv_iconst (M := mX7_readPiece) (v := 0) dX7_readPiece_27 28 rfl (by decide) ?_
        have z215 : (0 : Int32).toInt = 0 := by decide
        exact pv_iret (M := mX7_readPiece) dX7_readPiece_28 rfl rfl ⟨_, _, _, rfl, rfl, I198, K199, by decide, by decide, ⟨by omega, by omega, by omega, (by first | exact Or.inr ⟨by decide, PX_deep (Or.inl k33) (by omega)⟩ | exact Or.inr ⟨by decide, by rw [PI_not k33]; exact RSX_fl k24 (by omega)⟩ | (exfalso; omega)), by omega⟩⟩

set_option maxHeartbeats 2000000 in
set_option maxRecDepth 20000 in
theorem s_X7_readPart_v4x (g : pv_G) {T : List mv_T} {m : Nat → Nat → Int32} {n : Nat → Nat → Int64} {r : Nat → Value} {la lb : Nat} (hT : TX T) (I : IV BB m) (R : RX T r la lb) (hp0 : (m 86 3).toInt ≤ (m 86 2).toInt) (hp1 : TBC m) : PM g mX7_readPart yX7_readPart (sqI T BB wR7 r m 0 1 (fun m' v => (m 86 3).toInt ≤ (m' 86 3).toInt ∧ (m' 86 3).toInt ≤ (m' 86 2).toInt ∧ (m' 86 2).toInt = (m 86 2).toInt ∧ ((v.toInt = 0 ∨ (m 86 3).toInt + 1 ≤ (m' 86 3).toInt) ∧ TRX (CN (tC m) 2 (m 86 3).toInt) (LB (tC m) 2) (fun a => tC m a ≠ 38) v.toInt (m' 86 3).toInt (m' 86 4).toInt) ∧ (m' lb 7).toInt = (m lb 7).toInt)) 15 0 0 [.ref 86, .int 4] (mk T m n r) := by
  have Kp : fr wR7 m m := fr.rf
  have R0 := R
  have zR := R.2.2.2.2.1.1
  have zR2 := R.2.2.2.2.2.1
  have z91 : 0 ≤ (m 86 3).toInt ∧ (m 86 3).toInt ≤ 160 := I 86 3
  have z92 : 0 ≤ (m 86 2).toInt ∧ (m 86 2).toInt ≤ 160 := I 86 2
  refine PM.of 2 (lo := [.ref 86, .int 4, pv_U, pv_U]) rfl (by decide) rfl rfl (Nat.le_of_ble_eq_true rfl) ?_
  have kTX := TXT_C I
  refine pv_aload_n (M := mX7_readPart) 0 dX7_readPart_0 1 rfl rfl rfl ?_
  refine mv_get (M := mX7_readPart) (v := .ref lb) dX7_readPart_1 FX7 1 wd281 (by decide) (tl86 hT) rfl R.2.2.2.1 4 rfl ?_
  refine pv_callv (M := mX7_readPart) (as := []) (st := []) (kc2 := 0) (ks2 := 0) dX7_readPart_4 wd666 YX6_steps ⟨wd667, wd668⟩ (mk_get R.2.2.2.2.2.2.1) rfl rfl (s_X6_steps g hT I lb R.2.2.2.2.2) rfl rfl (Nat.le_of_ble_eq_true rfl) (by decide) rfl rfl 7 rfl (fun rv h1 q2 => ?_)
  obtain ⟨v3, rfl, rfl, pv3, qv3, rv3⟩ := q2
  show PV _ _ _ _ _ _ _ 7 [.ref 86, .int 4, pv_U, pv_U] [.int v3] _
  refine pv_istore_n (M := mX7_readPart) 2 (lo2 := [.ref 86, .int 4, .int v3, pv_U]) dX7_readPart_7 8 rfl rfl (by decide) rfl rfl ?_
  refine pv_iconst (M := mX7_readPart) (v := 0) dX7_readPart_8 9 rfl (by decide) ?_
  refine pv_istore_n (M := mX7_readPart) 3 (lo2 := [.ref 86, .int 4, .int v3, .int 0]) dX7_readPart_9 10 rfl rfl (by decide) rfl rfl ?_
  have lp10 : ∀ (fuel9 : Nat) (y4 : Int32) (m5 : Nat → Nat → Int32) (n6 : Nat → Nat → Int64), (0 ≤ y4.toInt) → (y4.toInt ≤ 160) → ((m5 86 3).toInt ≤ (m5 86 2).toInt) → ((m5 86 2).toInt = (m 86 2).toInt) → ((m5 lb 7).toInt = (m lb 7).toInt) → ((m 86 3).toInt + 2 * y4.toInt ≤ (m5 86 3).toInt) → (CN (tC m) 2 (m 86 3).toInt = CN (tC m) 2 (m5 86 3).toInt) → IV BB m5 → fr wR7 m m5 → ((160 - y4.toInt) : Int).toNat < fuel9 → PV none g mX7_readPart (sqI T BB wR7 r m 0 1 (fun m' v => (m 86 3).toInt ≤ (m' 86 3).toInt ∧ (m' 86 3).toInt ≤ (m' 86 2).toInt ∧ (m' 86 2).toInt = (m 86 2).toInt ∧ ((v.toInt = 0 ∨ (m 86 3).toInt + 1 ≤ (m' 86 3).toInt) ∧ TRX (CN (tC m) 2 (m 86 3).toInt) (LB (tC m) 2) (fun a => tC m a ≠ 38) v.toInt (m' 86 3).toInt (m' 86 4).toInt) ∧ (m' lb 7).toInt = (m lb 7).toInt)) 15 0 0 10 [.ref 86, .int 4, .int v3, .int y4] [] (mk T m5 n6 r) := by
    intro fuel9
    induction fuel9 with
    | zero => intro y4 m5 n6 b12 b13 b14 b15 b16 b17 b18 I7 K8 z19; omega
    | succ fuel9 ih11 =>
      intro y4 m5 n6 b12 b13 b14 b15 b16 b17 b18 I7 K8 z19
      have z20 : 0 ≤ (m5 86 3).toInt ∧ (m5 86 3).toInt ≤ 160 := I7 86 3
      have z21 : 0 ≤ (m5 86 2).toInt ∧ (m5 86 2).toInt ≤ 160 := I7 86 2
      have kgc := (show CN (tC m) 2 (m 86 3).toInt = CN (tC m) 2 (m5 86 3).toInt by assumption)
      have kt10 : tC m5 = tC m := tC_eq (K8 86 2 rfl) (fun j => K8 87 j rfl)
      refine pv_iload_n (M := mX7_readPart) 3 dX7_readPart_10 11 rfl rfl rfl ?_
      refine pv_sipush (M := mX7_readPart) (v := 160) dX7_readPart_11 14 rfl (by decide) ?_
      refine pv_icmp_ge (M := mX7_readPart) (tgt := 65) dX7_readPart_14 17 rfl (by decide) (fun c24 => ?_) (fun c24 => ?_)
      · have c24 := iv_le (X := 160) (Y := y4.toInt) c24 (by decide) rfl
        refine pv_aload_n (M := mX7_readPart) 0 dX7_readPart_65 66 rfl rfl rfl ?_
        refine mv_get (M := mX7_readPart) (v := .ref lb) dX7_readPart_66 FX7 1 wd281 (by decide) (tl86 hT) rfl R.2.2.2.1 69 rfl ?_
        refine pv_bipush (M := mX7_readPart) (v := 38) dX7_readPart_69 71 rfl (by decide) ?_
        refine pv_iload_n (M := mX7_readPart) 2 dX7_readPart_71 72 rfl rfl rfl ?_
        have z25 : (38 : Int32).toInt = 38 := by decide
        refine pv_callv (M := mX7_readPart) (as := [.int 38, .int v3]) (st := []) (kc2 := 0) (ks2 := 0) dX7_readPart_72 wd678 YX6_aimLeaps ⟨wd679, wd680⟩ (mk_get R.2.2.2.2.2.2.1) rfl rfl (s_X6_aimLeaps_vx g hT I7 lb R.2.2.2.2.2 38 v3) rfl rfl (Nat.le_of_ble_eq_true rfl) (by decide) rfl rfl 75 rfl (fun rv h1 q26 => ?_)
        obtain ⟨m27, n28, rfl, rfl, I29, K30, rm27⟩ := q26
        replace rm27 : (m27 lb 7).toInt = (m5 lb 7).toInt := rm27
        have K30c := K30
        have w31 : (m27 86 3).toInt = (m5 86 3).toInt := congrArg Int32.toInt (K30 86 3 (wr_out (by omega)))
        have w32 : (m27 86 2).toInt = (m5 86 2).toInt := congrArg Int32.toInt (K30 86 2 (wr_out (by omega)))
        have w33 : (m27 86 4).toInt = (m5 86 4).toInt := congrArg Int32.toInt (K30 86 4 (wr_out (by omega)))
        have K30 := K8.trans (K30.sub (by first | exact wR7_r (by omega) | exact wR7_wr))
        show PV _ _ _ _ _ _ _ 75 [.ref 86, .int 4, .int v3, .int y4] [] _
        refine pv_iconst (M := mX7_readPart) (v := 1) dX7_readPart_75 76 rfl (by decide) ?_
        have z34 : (1 : Int32).toInt = 1 := by decide
        exact pv_iret (M := mX7_readPart) dX7_readPart_76 rfl rfl ⟨_, _, _, rfl, rfl, I29, K30, by decide, by decide, ⟨by omega, by omega, by omega, (by first | exact ⟨Or.inr (by omega), Or.inl ⟨by decide, by rw [kgc, k27]; congr 1; omega, by show tC m (m27 86 3).toInt ≠ 38; rw [show (m27 86 3).toInt = (m5 86 3).toInt by omega, ← k31]; omega⟩⟩ | (exfalso; omega)), by omega⟩⟩
      · have c24 := iv_nle (X := 160) (Y := y4.toInt) c24 (by decide) rfl
        refine pv_aload_n (M := mX7_readPart) 0 dX7_readPart_17 18 rfl rfl rfl ?_
        refine pv_iload_n (M := mX7_readPart) 1 dX7_readPart_18 19 rfl rfl rfl ?_
        have z35 : (4 : Int32).toInt = 4 := by decide
        refine pv_callv (M := mX7_readPart) (as := [.int 4]) (st := []) (kc2 := 0) (ks2 := 0) dX7_readPart_19 wd674 YX7_readPiece ⟨wd676, wd14⟩ (mk_get (tl86 hT)) rfl rfl (s_X7_readPiece_v4x g hT I7 R (by first | omega | assumption | exact (iv_rng _).2 | exact (iv_rng _).1 | decide) (TBC_eq hp1 kt10)) rfl rfl (Nat.le_of_ble_eq_true rfl) (by decide) rfl rfl 22 rfl (fun rv h1 q36 => ?_)
        obtain ⟨m37, n38, v41, rfl, rfl, I39, K40, pv41, qv41, rv41⟩ := q36
        replace rv41 : (m5 86 3).toInt ≤ (m37 86 3).toInt ∧ (m37 86 3).toInt ≤ (m37 86 2).toInt ∧ (m37 86 2).toInt = (m5 86 2).toInt ∧ (RSX (PI (tC m5) 2 (m5 86 3).toInt) v41.toInt (m37 86 3).toInt (m37 86 4).toInt) ∧ (m37 lb 7).toInt = (m5 lb 7).toInt := by have q_ := rv41; (try rw [z35] at q_); exact q_
        have K40c := K40
        have K40 := K8.trans (K40.sub (fun _ _ q => q))
        show PV _ _ _ _ _ _ _ 22 [.ref 86, .int 4, .int v3, .int y4] [.int v41] _
        have k22 := rv41.2.2.2.1
        rw [kt10] at k22
        refine pv_if_ne (M := mX7_readPart) (tgt := 27) dX7_readPart_22 25 rfl (by decide) (fun c44 => ?_) (fun c44 => ?_)
        · have c44 := iv_ne (X := v41.toInt) (Y := 0) c44 rfl (by decide)
          have k27o := RSX_ok k22 (by omega)
          have k27 := CN_ok k27o
          have k27p := PI_le 2 (m5 86 3).toInt (by rw [k27o])
          rw [k27o] at k27p
          have kt27 : tC m37 = tC m := tC_eq (K40 86 2 rfl) (fun j => K40 87 j rfl)
          refine pv_aload_n (M := mX7_readPart) 0 dX7_readPart_27 28 rfl rfl rfl ?_
          refine pv_callv (M := mX7_readPart) (as := []) (st := []) (kc2 := 0) (ks2 := 0) dX7_readPart_28 wd527 YX7_peek ⟨wd529, wd2⟩ (mk_get (tl86 hT)) rfl rfl (s_X7_peek_vx g hT I39 R) rfl rfl (Nat.le_of_ble_eq_true rfl) (by decide) rfl rfl 31 rfl (fun rv h1 q50 => ?_)
          obtain ⟨v51, rfl, rfl, pv51, qv51, rv51⟩ := q50
          replace rv51 : v51.toInt = tC m37 (m37 86 3).toInt ∧ (v51.toInt = -1 ∨ (m37 86 3).toInt < (m37 86 2).toInt) := rv51
          show PV _ _ _ _ _ _ _ 31 [.ref 86, .int 4, .int v3, .int y4] [.int v51] _
          have k31 := rv51.1
          have k31b := rv51.2
          rw [kt27] at k31
          refine pv_bipush (M := mX7_readPart) (v := 38) dX7_readPart_31 33 rfl (by decide) ?_
          refine pv_icmp_eq (M := mX7_readPart) (tgt := 39) dX7_readPart_33 36 rfl (by decide) (fun c55 => ?_) (fun c55 => ?_)
          · have c55 := iv_eq (X := v51.toInt) (Y := 38) c55 rfl (by decide)
            have kB : isB (tC m (m37 86 3).toInt) = true := isB_y (by omega)
            refine pv_aload_n (M := mX7_readPart) 0 dX7_readPart_39 40 rfl rfl rfl ?_
            refine mv_get (M := mX7_readPart) (v := .ref lb) dX7_readPart_40 FX7 1 wd281 (by decide) (tl86 hT) rfl R.2.2.2.1 43 rfl ?_
            refine pv_bipush (M := mX7_readPart) (v := 38) dX7_readPart_43 45 rfl (by decide) ?_
            refine pv_iconst (M := mX7_readPart) (v := (-1)) dX7_readPart_45 46 rfl (by decide) ?_
            have z57 : (38 : Int32).toInt = 38 := by decide
            have z58 : ((-1) : Int32).toInt = (-1) := by decide
            refine pv_callv (M := mX7_readPart) (as := [.int 38, .int (-1)]) (st := []) (kc2 := 0) (ks2 := 0) dX7_readPart_46 wd567 YX6_emit ⟨wd568, wd569⟩ (mk_get R.2.2.2.2.2.2.1) rfl rfl (s_X6_emit_vx g hT I39 lb R.2.2.2.2.2 38 (-1) (by decide) (by decide)) rfl rfl (Nat.le_of_ble_eq_true rfl) (by decide) rfl rfl 49 rfl (fun rv h1 q59 => ?_)
            obtain ⟨m60, n61, rfl, rfl, I62, K63, rm60⟩ := q59
            replace rm60 : (m60 lb 7).toInt = (m37 lb 7).toInt := rm60
            have K63c := K63
            have w64 : (m60 86 3).toInt = (m37 86 3).toInt := congrArg Int32.toInt (K63 86 3 (wr_out (by omega)))
            have w65 : (m60 86 2).toInt = (m37 86 2).toInt := congrArg Int32.toInt (K63 86 2 (wr_out (by omega)))
            have w66 : (m60 86 4).toInt = (m37 86 4).toInt := congrArg Int32.toInt (K63 86 4 (wr_out (by omega)))
            have K63 := K40.trans (K63.sub (by first | exact wR7_r (by omega) | exact wR7_wr))
            show PV _ _ _ _ _ _ _ 49 [.ref 86, .int 4, .int v3, .int y4] [] _
            refine pv_aload_n (M := mX7_readPart) 0 dX7_readPart_49 50 rfl rfl rfl ?_
            refine pv_dup (M := mX7_readPart) dX7_readPart_50 51 rfl rfl ?_
            refine iv_get (M := mX7_readPart) (l1 := 0) (l2 := 160) dX7_readPart_51 FX7 3 wd283 (by decide) (tl86 hT) rfl I62 rfl 54 rfl (fun v67 ev67 pv67 qv67 => ?_)
            have wv67 : v67.toInt = (m60 86 3).toInt := congrArg Int32.toInt ev67
            refine pv_iconst (M := mX7_readPart) (v := 1) dX7_readPart_54 55 rfl (by decide) ?_
            refine iv_iadd (M := mX7_readPart) (X := v67.toInt) (Y := 1) dX7_readPart_55 56 rfl rfl (by decide) (by omega) (by omega) (fun v68 ev68 => ?_)
            refine iv_put (M := mX7_readPart) (l1 := 0) (l2 := 160) dX7_readPart_56 FX7 3 wd283 (by decide) rfl (tl86 hT) rfl rfl rfl I62 rfl (by omega) (by omega) 59 rfl (fun m69 e72 I70 => ?_)
            have K71 := K63.set e72 (by decide)
            have w73 : (m69 86 3).toInt = v68.toInt := by rw [e72, up2_eq]
            have w74 : (m69 86 2).toInt = (m60 86 2).toInt := by rw [e72, up2_ne (by omega)]
            have w75 : (m69 86 4).toInt = (m60 86 4).toInt := by rw [e72, up2_ne (by omega)]
            have w76 : (m69 lb 7).toInt = (m60 lb 7).toInt := by rw [e72, up2_ne (by omega)]
            refine iv_inc (M := mX7_readPart) (C := 1) dX7_readPart_59 62 rfl rfl (by decide) rfl rfl (by decide) (by omega) (by omega) (fun v77 ev77 => ?_)
            show PV _ _ _ _ _ _ _ 62 [.ref 86, .int 4, .int v3, .int v77] [] _
            refine pv_goto (M := mX7_readPart) (tgt := 10) dX7_readPart_62 (by decide) ?_
            have kbc : CN (tC m) 2 (m 86 3).toInt = CN (tC m) 2 (m69 86 3).toInt := by rw [kgc, k27, LB_cn kTX (by omega) kB]; congr 1; omega
            exact ih11 v77 m69 n61 (by first | omega | assumption | exact (iv_rng _).2 | exact (iv_rng _).1 | decide) (by first | omega | assumption | exact (iv_rng _).2 | exact (iv_rng _).1 | decide) (by first | omega | assumption | (show (m69 86 3).toInt ≤ (m69 86 2).toInt; omega) | decide) (by first | omega | assumption | (show (m69 86 2).toInt = (m 86 2).toInt; omega) | decide) (by first | omega | assumption | (show (m69 lb 7).toInt = (m lb 7).toInt; omega) | decide) (by first | omega | assumption | (show (m 86 3).toInt + 2 * v77.toInt ≤ (m69 86 3).toInt; omega) | decide) kbc I70 K71 (by omega)
          · have c55 := iv_ne (X := v51.toInt) (Y := 38) c55 rfl (by decide)
            refine pv_goto (M := mX7_readPart) (tgt := 65) dX7_readPart_36 (by decide) ?_
            refine pv_aload_n (M := mX7_readPart) 0 dX7_readPart_65 66 rfl rfl rfl ?_
            refine mv_get (M := mX7_readPart) (v := .ref lb) dX7_readPart_66 FX7 1 wd281 (by decide) (tl86 hT) rfl R.2.2.2.1 69 rfl ?_
            refine pv_bipush (M := mX7_readPart) (v := 38) dX7_readPart_69 71 rfl (by decide) ?_
            refine pv_iload_n (M := mX7_readPart) 2 dX7_readPart_71 72 rfl rfl rfl ?_
            have z79 : (38 : Int32).toInt = 38 := by decide
            refine pv_callv (M := mX7_readPart) (as := [.int 38, .int v3]) (st := []) (kc2 := 0) (ks2 := 0) dX7_readPart_72 wd678 YX6_aimLeaps ⟨wd679, wd680⟩ (mk_get R.2.2.2.2.2.2.1) rfl rfl (s_X6_aimLeaps_vx g hT I39 lb R.2.2.2.2.2 38 v3) rfl rfl (Nat.le_of_ble_eq_true rfl) (by decide) rfl rfl 75 rfl (fun rv h1 q80 => ?_)
            obtain ⟨m81, n82, rfl, rfl, I83, K84, rm81⟩ := q80
            replace rm81 : (m81 lb 7).toInt = (m37 lb 7).toInt := rm81
            have K84c := K84
            have w85 : (m81 86 3).toInt = (m37 86 3).toInt := congrArg Int32.toInt (K84 86 3 (wr_out (by omega)))
            have w86 : (m81 86 2).toInt = (m37 86 2).toInt := congrArg Int32.toInt (K84 86 2 (wr_out (by omega)))
            have w87 : (m81 86 4).toInt = (m37 86 4).toInt := congrArg Int32.toInt (K84 86 4 (wr_out (by omega)))
            have K84 := K40.trans (K84.sub (by first | exact wR7_r (by omega) | exact wR7_wr))
            show PV _ _ _ _ _ _ _ 75 [.ref 86, .int 4, .int v3, .int y4] [] _
            refine pv_iconst (M := mX7_readPart) (v := 1) dX7_readPart_75 76 rfl (by decide) ?_
            have z88 : (1 : Int32).toInt = 1 := by decide
            exact pv_iret (M := mX7_readPart) dX7_readPart_76 rfl rfl ⟨_, _, _, rfl, rfl, I83, K84, by decide, by decide, ⟨by omega, by omega, by omega, (by first | exact ⟨Or.inr (by omega), Or.inl ⟨by decide, by rw [kgc, k27]; congr 1; omega, by show tC m (m81 86 3).toInt ≠ 38; rw [show (m81 86 3).toInt = (m37 86 3).toInt by omega, ← k31]; omega⟩⟩ | (exfalso; omega)), by omega⟩⟩
        · have c44 := iv_eq (X := v41.toInt) (Y := 0) c44 rfl (by decide)
          refine pv_iconst (M := mX7_readPart) (v := 0) dX7_readPart_25 26 rfl (by decide) ?_
          have z89 : (0 : Int32).toInt = 0 := by decide
          exact pv_iret (M := mX7_readPart) dX7_readPart_26 rfl rfl ⟨_, _, _, rfl, rfl, I39, K40, by decide, by decide, ⟨by omega, by omega, by omega, ⟨Or.inl (by decide), Or.inr ⟨by decide, by rw [kgc]; exact CN_fl (RSX_fl k22 (by omega))⟩⟩, by omega⟩⟩
  have z90 : (0 : Int32).toInt = 0 := by decide
  exact lp10 (((160 - 0) : Int).toNat + 1) 0 m n (by first | omega | assumption | exact (iv_rng _).2 | exact (iv_rng _).1 | decide) (by first | omega | assumption | exact (iv_rng _).2 | exact (iv_rng _).1 | decide) (by first | omega | assumption | (show (m 86 3).toInt ≤ (m 86 2).toInt; omega) | decide) (by first | omega | assumption | (show (m 86 2).toInt = (m 86 2).toInt; omega) | decide) (by first | omega | assumption | (show (m lb 7).toInt = (m lb 7).toInt; omega) | decide) (by first | omega | assumption | (show (m 86 3).toInt + 2 * 0 ≤ (m 86 3).toInt; omega) | decide) rfl I Kp (by omega)

set_option maxHeartbeats 2000000 in
set_option maxRecDepth 20000 in
theorem s_X7_readCondition_v4x (g : pv_G) {T : List mv_T} {m : Nat → Nat → Int32} {n : Nat → Nat → Int64} {r : Nat → Value} {la lb : Nat} (hT : TX T) (I : IV BB m) (R : RX T r la lb) (hp0 : (m 86 3).toInt ≤ (m 86 2).toInt) (hp1 : TBC m) : PM g mX7_readCondition yX7_readCondition (sqI T BB wR7 r m 0 1 (fun m' v => (m 86 3).toInt ≤ (m' 86 3).toInt ∧ (m' 86 3).toInt ≤ (m' 86 2).toInt ∧ (m' 86 2).toInt = (m 86 2).toInt ∧ (RSX (CN (tC m) 2 (m 86 3).toInt) v.toInt (m' 86 3).toInt (m' 86 4).toInt) ∧ (m' lb 7).toInt = (m lb 7).toInt)) 16 0 0 [.ref 86, .int 4] (mk T m n r) := by
  have Kp : fr wR7 m m := fr.rf
  have R0 := R
  have zR := R.2.2.2.2.1.1
  have zR2 := R.2.2.2.2.2.1
  have z90 : 0 ≤ (m 86 3).toInt ∧ (m 86 3).toInt ≤ 160 := I 86 3
  have z91 : 0 ≤ (m 86 2).toInt ∧ (m 86 2).toInt ≤ 160 := I 86 2
  refine PM.of 2 (lo := [.ref 86, .int 4, pv_U, pv_U]) rfl (by decide) rfl rfl (Nat.le_of_ble_eq_true rfl) ?_
  have kTX := TXT_C I
  refine pv_aload_n (M := mX7_readCondition) 0 dX7_readCondition_0 1 rfl rfl rfl ?_
  refine mv_get (M := mX7_readCondition) (v := .ref lb) dX7_readCondition_1 FX7 1 wd281 (by decide) (tl86 hT) rfl R.2.2.2.1 4 rfl ?_
  refine pv_callv (M := mX7_readCondition) (as := []) (st := []) (kc2 := 0) (ks2 := 0) dX7_readCondition_4 wd666 YX6_steps ⟨wd667, wd668⟩ (mk_get R.2.2.2.2.2.2.1) rfl rfl (s_X6_steps g hT I lb R.2.2.2.2.2) rfl rfl (Nat.le_of_ble_eq_true rfl) (by decide) rfl rfl 7 rfl (fun rv h1 q2 => ?_)
  obtain ⟨v3, rfl, rfl, pv3, qv3, rv3⟩ := q2
  show PV _ _ _ _ _ _ _ 7 [.ref 86, .int 4, pv_U, pv_U] [.int v3] _
  refine pv_istore_n (M := mX7_readCondition) 2 (lo2 := [.ref 86, .int 4, .int v3, pv_U]) dX7_readCondition_7 8 rfl rfl (by decide) rfl rfl ?_
  refine pv_iconst (M := mX7_readCondition) (v := 0) dX7_readCondition_8 9 rfl (by decide) ?_
  refine pv_istore_n (M := mX7_readCondition) 3 (lo2 := [.ref 86, .int 4, .int v3, .int 0]) dX7_readCondition_9 10 rfl rfl (by decide) rfl rfl ?_
  have lp10 : ∀ (fuel9 : Nat) (y4 : Int32) (m5 : Nat → Nat → Int32) (n6 : Nat → Nat → Int64), (0 ≤ y4.toInt) → (y4.toInt ≤ 160) → ((m5 86 3).toInt ≤ (m5 86 2).toInt) → ((m5 86 2).toInt = (m 86 2).toInt) → ((m5 lb 7).toInt = (m lb 7).toInt) → ((m 86 3).toInt + 2 * y4.toInt ≤ (m5 86 3).toInt) → (CN (tC m) 2 (m 86 3).toInt = CN (tC m) 2 (m5 86 3).toInt) → IV BB m5 → fr wR7 m m5 → ((160 - y4.toInt) : Int).toNat < fuel9 → PV none g mX7_readCondition (sqI T BB wR7 r m 0 1 (fun m' v => (m 86 3).toInt ≤ (m' 86 3).toInt ∧ (m' 86 3).toInt ≤ (m' 86 2).toInt ∧ (m' 86 2).toInt = (m 86 2).toInt ∧ (RSX (CN (tC m) 2 (m 86 3).toInt) v.toInt (m' 86 3).toInt (m' 86 4).toInt) ∧ (m' lb 7).toInt = (m lb 7).toInt)) 16 0 0 10 [.ref 86, .int 4, .int v3, .int y4] [] (mk T m5 n6 r) := by
    intro fuel9
    induction fuel9 with
    | zero => intro y4 m5 n6 b12 b13 b14 b15 b16 b17 b18 I7 K8 z19; omega
    | succ fuel9 ih11 =>
      intro y4 m5 n6 b12 b13 b14 b15 b16 b17 b18 I7 K8 z19
      have z20 : 0 ≤ (m5 86 3).toInt ∧ (m5 86 3).toInt ≤ 160 := I7 86 3
      have z21 : 0 ≤ (m5 86 2).toInt ∧ (m5 86 2).toInt ≤ 160 := I7 86 2
      have kgc := (show CN (tC m) 2 (m 86 3).toInt = CN (tC m) 2 (m5 86 3).toInt by assumption)
      have kt10 : tC m5 = tC m := tC_eq (K8 86 2 rfl) (fun j => K8 87 j rfl)
      refine pv_iload_n (M := mX7_readCondition) 3 dX7_readCondition_10 11 rfl rfl rfl ?_
      refine pv_sipush (M := mX7_readCondition) (v := 160) dX7_readCondition_11 14 rfl (by decide) ?_
      refine pv_icmp_ge (M := mX7_readCondition) (tgt := 65) dX7_readCondition_14 17 rfl (by decide) (fun c24 => ?_) (fun c24 => ?_)
      · have c24 := iv_le (X := 160) (Y := y4.toInt) c24 (by decide) rfl
        refine pv_aload_n (M := mX7_readCondition) 0 dX7_readCondition_65 66 rfl rfl rfl ?_
        refine mv_get (M := mX7_readCondition) (v := .ref lb) dX7_readCondition_66 FX7 1 wd281 (by decide) (tl86 hT) rfl R.2.2.2.1 69 rfl ?_
        refine pv_bipush (M := mX7_readCondition) (v := 124) dX7_readCondition_69 71 rfl (by decide) ?_
        refine pv_iload_n (M := mX7_readCondition) 2 dX7_readCondition_71 72 rfl rfl rfl ?_
        have z25 : (124 : Int32).toInt = 124 := by decide
        refine pv_callv (M := mX7_readCondition) (as := [.int 124, .int v3]) (st := []) (kc2 := 0) (ks2 := 0) dX7_readCondition_72 wd678 YX6_aimLeaps ⟨wd679, wd680⟩ (mk_get R.2.2.2.2.2.2.1) rfl rfl (s_X6_aimLeaps_vx g hT I7 lb R.2.2.2.2.2 124 v3) rfl rfl (Nat.le_of_ble_eq_true rfl) (by decide) rfl rfl 75 rfl (fun rv h1 q26 => ?_)
        obtain ⟨m27, n28, rfl, rfl, I29, K30, rm27⟩ := q26
        replace rm27 : (m27 lb 7).toInt = (m5 lb 7).toInt := rm27
        have K30c := K30
        have w31 : (m27 86 3).toInt = (m5 86 3).toInt := congrArg Int32.toInt (K30 86 3 (wr_out (by omega)))
        have w32 : (m27 86 2).toInt = (m5 86 2).toInt := congrArg Int32.toInt (K30 86 2 (wr_out (by omega)))
        have w33 : (m27 86 4).toInt = (m5 86 4).toInt := congrArg Int32.toInt (K30 86 4 (wr_out (by omega)))
        have K30 := K8.trans (K30.sub (by first | exact wR7_r (by omega) | exact wR7_wr))
        show PV _ _ _ _ _ _ _ 75 [.ref 86, .int 4, .int v3, .int y4] [] _
        refine pv_iconst (M := mX7_readCondition) (v := 1) dX7_readCondition_75 76 rfl (by decide) ?_
        have z34 : (1 : Int32).toInt = 1 := by decide
        exact pv_iret (M := mX7_readCondition) dX7_readCondition_76 rfl rfl ⟨_, _, _, rfl, rfl, I29, K30, by decide, by decide, ⟨by omega, by omega, by omega, (by first | exact Or.inl ⟨by decide, by rw [kgc, k27, LB_no (isB_no k27n (by rw [← k31]; omega))]; congr 1; omega⟩ | (exfalso; omega)), by omega⟩⟩
      · have c24 := iv_nle (X := 160) (Y := y4.toInt) c24 (by decide) rfl
        refine pv_aload_n (M := mX7_readCondition) 0 dX7_readCondition_17 18 rfl rfl rfl ?_
        refine pv_iload_n (M := mX7_readCondition) 1 dX7_readCondition_18 19 rfl rfl rfl ?_
        have z35 : (4 : Int32).toInt = 4 := by decide
        refine pv_callv (M := mX7_readCondition) (as := [.int 4]) (st := []) (kc2 := 0) (ks2 := 0) dX7_readCondition_19 wd670 YX7_readPart ⟨wd672, wd13⟩ (mk_get (tl86 hT)) rfl rfl (s_X7_readPart_v4x g hT I7 R (by first | omega | assumption | exact (iv_rng _).2 | exact (iv_rng _).1 | decide) (TBC_eq hp1 kt10)) rfl rfl (Nat.le_of_ble_eq_true rfl) (by decide) rfl rfl 22 rfl (fun rv h1 q36 => ?_)
        obtain ⟨m37, n38, v41, rfl, rfl, I39, K40, pv41, qv41, rv41⟩ := q36
        replace rv41 : (m5 86 3).toInt ≤ (m37 86 3).toInt ∧ (m37 86 3).toInt ≤ (m37 86 2).toInt ∧ (m37 86 2).toInt = (m5 86 2).toInt ∧ ((v41.toInt = 0 ∨ (m5 86 3).toInt + 1 ≤ (m37 86 3).toInt) ∧ TRX (CN (tC m5) 2 (m5 86 3).toInt) (LB (tC m5) 2) (fun a => tC m5 a ≠ 38) v41.toInt (m37 86 3).toInt (m37 86 4).toInt) ∧ (m37 lb 7).toInt = (m5 lb 7).toInt := by have q_ := rv41; (try rw [z35] at q_); exact q_
        have K40c := K40
        have K40 := K8.trans (K40.sub (fun _ _ q => q))
        show PV _ _ _ _ _ _ _ 22 [.ref 86, .int 4, .int v3, .int y4] [.int v41] _
        have k22 := rv41.2.2.2.1.2
        have k22p := rv41.2.2.2.1.1
        rw [kt10] at k22
        refine pv_if_ne (M := mX7_readCondition) (tgt := 27) dX7_readCondition_22 25 rfl (by decide) (fun c45 => ?_) (fun c45 => ?_)
        · have c45 := iv_ne (X := v41.toInt) (Y := 0) c45 rfl (by decide)
          have k27 := (TRX_ok k22 (by omega)).1
          have k27n := (TRX_ok k22 (by omega)).2
          have kt27 : tC m37 = tC m := tC_eq (K40 86 2 rfl) (fun j => K40 87 j rfl)
          refine pv_aload_n (M := mX7_readCondition) 0 dX7_readCondition_27 28 rfl rfl rfl ?_
          refine pv_callv (M := mX7_readCondition) (as := []) (st := []) (kc2 := 0) (ks2 := 0) dX7_readCondition_28 wd527 YX7_peek ⟨wd529, wd2⟩ (mk_get (tl86 hT)) rfl rfl (s_X7_peek_vx g hT I39 R) rfl rfl (Nat.le_of_ble_eq_true rfl) (by decide) rfl rfl 31 rfl (fun rv h1 q49 => ?_)
          obtain ⟨v50, rfl, rfl, pv50, qv50, rv50⟩ := q49
          replace rv50 : v50.toInt = tC m37 (m37 86 3).toInt ∧ (v50.toInt = -1 ∨ (m37 86 3).toInt < (m37 86 2).toInt) := rv50
          show PV _ _ _ _ _ _ _ 31 [.ref 86, .int 4, .int v3, .int y4] [.int v50] _
          have k31 := rv50.1
          have k31b := rv50.2
          rw [kt27] at k31
          refine pv_bipush (M := mX7_readCondition) (v := 124) dX7_readCondition_31 33 rfl (by decide) ?_
          refine pv_icmp_eq (M := mX7_readCondition) (tgt := 39) dX7_readCondition_33 36 rfl (by decide) (fun c54 => ?_) (fun c54 => ?_)
          · have c54 := iv_eq (X := v50.toInt) (Y := 124) c54 rfl (by decide)
            have kB : isB (tC m (m37 86 3).toInt) = true := isB_y (by omega)
            refine pv_aload_n (M := mX7_readCondition) 0 dX7_readCondition_39 40 rfl rfl rfl ?_
            refine mv_get (M := mX7_readCondition) (v := .ref lb) dX7_readCondition_40 FX7 1 wd281 (by decide) (tl86 hT) rfl R.2.2.2.1 43 rfl ?_
            refine pv_bipush (M := mX7_readCondition) (v := 124) dX7_readCondition_43 45 rfl (by decide) ?_
            refine pv_iconst (M := mX7_readCondition) (v := (-1)) dX7_readCondition_45 46 rfl (by decide) ?_
            have z56 : (124 : Int32).toInt = 124 := by decide
            have z57 : ((-1) : Int32).toInt = (-1) := by decide
            refine pv_callv (M := mX7_readCondition) (as := [.int 124, .int (-1)]) (st := []) (kc2 := 0) (ks2 := 0) dX7_readCondition_46 wd567 YX6_emit ⟨wd568, wd569⟩ (mk_get R.2.2.2.2.2.2.1) rfl rfl (s_X6_emit_vx g hT I39 lb R.2.2.2.2.2 124 (-1) (by decide) (by decide)) rfl rfl (Nat.le_of_ble_eq_true rfl) (by decide) rfl rfl 49 rfl (fun rv h1 q58 => ?_)
            obtain ⟨m59, n60, rfl, rfl, I61, K62, rm59⟩ := q58
            replace rm59 : (m59 lb 7).toInt = (m37 lb 7).toInt := rm59
            have K62c := K62
            have w63 : (m59 86 3).toInt = (m37 86 3).toInt := congrArg Int32.toInt (K62 86 3 (wr_out (by omega)))
            have w64 : (m59 86 2).toInt = (m37 86 2).toInt := congrArg Int32.toInt (K62 86 2 (wr_out (by omega)))
            have w65 : (m59 86 4).toInt = (m37 86 4).toInt := congrArg Int32.toInt (K62 86 4 (wr_out (by omega)))
            have K62 := K40.trans (K62.sub (by first | exact wR7_r (by omega) | exact wR7_wr))
            show PV _ _ _ _ _ _ _ 49 [.ref 86, .int 4, .int v3, .int y4] [] _
            refine pv_aload_n (M := mX7_readCondition) 0 dX7_readCondition_49 50 rfl rfl rfl ?_
            refine pv_dup (M := mX7_readCondition) dX7_readCondition_50 51 rfl rfl ?_
            refine iv_get (M := mX7_readCondition) (l1 := 0) (l2 := 160) dX7_readCondition_51 FX7 3 wd283 (by decide) (tl86 hT) rfl I61 rfl 54 rfl (fun v66 ev66 pv66 qv66 => ?_)
            have wv66 : v66.toInt = (m59 86 3).toInt := congrArg Int32.toInt ev66
            refine pv_iconst (M := mX7_readCondition) (v := 1) dX7_readCondition_54 55 rfl (by decide) ?_
            refine iv_iadd (M := mX7_readCondition) (X := v66.toInt) (Y := 1) dX7_readCondition_55 56 rfl rfl (by decide) (by omega) (by omega) (fun v67 ev67 => ?_)
            refine iv_put (M := mX7_readCondition) (l1 := 0) (l2 := 160) dX7_readCondition_56 FX7 3 wd283 (by decide) rfl (tl86 hT) rfl rfl rfl I61 rfl (by omega) (by omega) 59 rfl (fun m68 e71 I69 => ?_)
            have K70 := K62.set e71 (by decide)
            have w72 : (m68 86 3).toInt = v67.toInt := by rw [e71, up2_eq]
            have w73 : (m68 86 2).toInt = (m59 86 2).toInt := by rw [e71, up2_ne (by omega)]
            have w74 : (m68 86 4).toInt = (m59 86 4).toInt := by rw [e71, up2_ne (by omega)]
            have w75 : (m68 lb 7).toInt = (m59 lb 7).toInt := by rw [e71, up2_ne (by omega)]
            refine iv_inc (M := mX7_readCondition) (C := 1) dX7_readCondition_59 62 rfl rfl (by decide) rfl rfl (by decide) (by omega) (by omega) (fun v76 ev76 => ?_)
            show PV _ _ _ _ _ _ _ 62 [.ref 86, .int 4, .int v3, .int v76] [] _
            refine pv_goto (M := mX7_readCondition) (tgt := 10) dX7_readCondition_62 (by decide) ?_
            have kbc : CN (tC m) 2 (m 86 3).toInt = CN (tC m) 2 (m68 86 3).toInt := by rw [kgc, k27, LB_cn kTX (by omega) kB]; congr 1; omega
            exact ih11 v76 m68 n60 (by first | omega | assumption | exact (iv_rng _).2 | exact (iv_rng _).1 | decide) (by first | omega | assumption | exact (iv_rng _).2 | exact (iv_rng _).1 | decide) (by first | omega | assumption | (show (m68 86 3).toInt ≤ (m68 86 2).toInt; omega) | decide) (by first | omega | assumption | (show (m68 86 2).toInt = (m 86 2).toInt; omega) | decide) (by first | omega | assumption | (show (m68 lb 7).toInt = (m lb 7).toInt; omega) | decide) (by first | omega | assumption | (show (m 86 3).toInt + 2 * v76.toInt ≤ (m68 86 3).toInt; omega) | decide) kbc I69 K70 (by omega)
          · have c54 := iv_ne (X := v50.toInt) (Y := 124) c54 rfl (by decide)
            refine pv_goto (M := mX7_readCondition) (tgt := 65) dX7_readCondition_36 (by decide) ?_
            refine pv_aload_n (M := mX7_readCondition) 0 dX7_readCondition_65 66 rfl rfl rfl ?_
            refine mv_get (M := mX7_readCondition) (v := .ref lb) dX7_readCondition_66 FX7 1 wd281 (by decide) (tl86 hT) rfl R.2.2.2.1 69 rfl ?_
            refine pv_bipush (M := mX7_readCondition) (v := 124) dX7_readCondition_69 71 rfl (by decide) ?_
            refine pv_iload_n (M := mX7_readCondition) 2 dX7_readCondition_71 72 rfl rfl rfl ?_
            have z78 : (124 : Int32).toInt = 124 := by decide
            refine pv_callv (M := mX7_readCondition) (as := [.int 124, .int v3]) (st := []) (kc2 := 0) (ks2 := 0) dX7_readCondition_72 wd678 YX6_aimLeaps ⟨wd679, wd680⟩ (mk_get R.2.2.2.2.2.2.1) rfl rfl (s_X6_aimLeaps_vx g hT I39 lb R.2.2.2.2.2 124 v3) rfl rfl (Nat.le_of_ble_eq_true rfl) (by decide) rfl rfl 75 rfl (fun rv h1 q79 => ?_)
            obtain ⟨m80, n81, rfl, rfl, I82, K83, rm80⟩ := q79
            replace rm80 : (m80 lb 7).toInt = (m37 lb 7).toInt := rm80
            have K83c := K83
            have w84 : (m80 86 3).toInt = (m37 86 3).toInt := congrArg Int32.toInt (K83 86 3 (wr_out (by omega)))
            have w85 : (m80 86 2).toInt = (m37 86 2).toInt := congrArg Int32.toInt (K83 86 2 (wr_out (by omega)))
            have w86 : (m80 86 4).toInt = (m37 86 4).toInt := congrArg Int32.toInt (K83 86 4 (wr_out (by omega)))
            have K83 := K40.trans (K83.sub (by first | exact wR7_r (by omega) | exact wR7_wr))
            show PV _ _ _ _ _ _ _ 75 [.ref 86, .int 4, .int v3, .int y4] [] _
            refine pv_iconst (M := mX7_readCondition) (v := 1) dX7_readCondition_75 76 rfl (by decide) ?_
            have z87 : (1 : Int32).toInt = 1 := by decide
            exact pv_iret (M := mX7_readCondition) dX7_readCondition_76 rfl rfl ⟨_, _, _, rfl, rfl, I82, K83, by decide, by decide, ⟨by omega, by omega, by omega, (by first | exact Or.inl ⟨by decide, by rw [kgc, k27, LB_no (isB_no k27n (by rw [← k31]; omega))]; congr 1; omega⟩ | (exfalso; omega)), by omega⟩⟩
        · have c45 := iv_eq (X := v41.toInt) (Y := 0) c45 rfl (by decide)
          refine pv_iconst (M := mX7_readCondition) (v := 0) dX7_readCondition_25 26 rfl (by decide) ?_
          have z88 : (0 : Int32).toInt = 0 := by decide
          exact pv_iret (M := mX7_readCondition) dX7_readCondition_26 rfl rfl ⟨_, _, _, rfl, rfl, I39, K40, by decide, by decide, ⟨by omega, by omega, by omega, Or.inr ⟨by decide, by rw [kgc]; exact TRX_fl k22 (by omega)⟩, by omega⟩⟩
  have z89 : (0 : Int32).toInt = 0 := by decide
  exact lp10 (((160 - 0) : Int).toNat + 1) 0 m n (by first | omega | assumption | exact (iv_rng _).2 | exact (iv_rng _).1 | decide) (by first | omega | assumption | exact (iv_rng _).2 | exact (iv_rng _).1 | decide) (by first | omega | assumption | (show (m 86 3).toInt ≤ (m 86 2).toInt; omega) | decide) (by first | omega | assumption | (show (m 86 2).toInt = (m 86 2).toInt; omega) | decide) (by first | omega | assumption | (show (m lb 7).toInt = (m lb 7).toInt; omega) | decide) (by first | omega | assumption | (show (m 86 3).toInt + 2 * 0 ≤ (m 86 3).toInt; omega) | decide) rfl I Kp (by omega)

set_option maxHeartbeats 2000000 in
set_option maxRecDepth 20000 in
theorem s_X7_readPiece_v3x (g : pv_G) {T : List mv_T} {m : Nat → Nat → Int32} {n : Nat → Nat → Int64} {r : Nat → Value} {la lb : Nat} (hT : TX T) (I : IV BB m) (R : RX T r la lb) (hp0 : (m 86 3).toInt ≤ (m 86 2).toInt) (hp1 : TBC m) : PM g mX7_readPiece yX7_readPiece (sqI T BB wR7 r m 0 1 (fun m' v => (m 86 3).toInt ≤ (m' 86 3).toInt ∧ (m' 86 3).toInt ≤ (m' 86 2).toInt ∧ (m' 86 2).toInt = (m 86 2).toInt ∧ (RSX (PI (tC m) 3 (m 86 3).toInt) v.toInt (m' 86 3).toInt (m' 86 4).toInt) ∧ (m' lb 7).toInt = (m lb 7).toInt)) 17 0 0 [.ref 86, .int 3] (mk T m n r) := by
  have Kp : fr wR7 m m := fr.rf
  have R0 := R
  have zR := R.2.2.2.2.1.1
  have zR2 := R.2.2.2.2.2.1
  have z216 : 0 ≤ (m 86 3).toInt ∧ (m 86 3).toInt ≤ 160 := I 86 3
  have z217 : 0 ≤ (m 86 2).toInt ∧ (m 86 2).toInt ≤ 160 := I 86 2
  refine PM.of 1 (lo := [.ref 86, .int 3, pv_U]) rfl (by decide) rfl rfl (Nat.le_of_ble_eq_true rfl) ?_
  refine pv_aload_n (M := mX7_readPiece) 0 dX7_readPiece_0 1 rfl rfl rfl ?_
  refine pv_callv (M := mX7_readPiece) (as := []) (st := []) (kc2 := 0) (ks2 := 0) dX7_readPiece_1 wd527 YX7_peek ⟨wd529, wd2⟩ (mk_get (tl86 hT)) rfl rfl (s_X7_peek_vx g hT I R) rfl rfl (Nat.le_of_ble_eq_true rfl) (by decide) rfl rfl 4 rfl (fun rv h1 q1 => ?_)
  obtain ⟨v2, rfl, rfl, pv2, qv2, rv2⟩ := q1
  replace rv2 : v2.toInt = tC m (m 86 3).toInt ∧ (v2.toInt = -1 ∨ (m 86 3).toInt < (m 86 2).toInt) := rv2
  show PV _ _ _ _ _ _ _ 4 [.ref 86, .int 3, pv_U] [.int v2] _
  have k4 := rv2.1
  have k4b := rv2.2
  refine pv_bipush (M := mX7_readPiece) (v := 33) dX7_readPiece_4 6 rfl (by decide) ?_
  refine pv_icmp_ne (M := mX7_readPiece) (tgt := 41) dX7_readPiece_6 9 rfl (by decide) (fun c5 => ?_) (fun c5 => ?_)
  · have c5 := iv_ne (X := v2.toInt) (Y := 33) c5 rfl (by decide)
    have kn33 : tC m (m 86 3).toInt ≠ 33 := by omega
    refine pv_aload_n (M := mX7_readPiece) 0 dX7_readPiece_41 42 rfl rfl rfl ?_
    refine pv_callv (M := mX7_readPiece) (as := []) (st := []) (kc2 := 0) (ks2 := 0) dX7_readPiece_42 wd527 YX7_peek ⟨wd529, wd2⟩ (mk_get (tl86 hT)) rfl rfl (s_X7_peek_vx g hT I R) rfl rfl (Nat.le_of_ble_eq_true rfl) (by decide) rfl rfl 45 rfl (fun rv h1 q7 => ?_)
    obtain ⟨v8, rfl, rfl, pv8, qv8, rv8⟩ := q7
    replace rv8 : v8.toInt = tC m (m 86 3).toInt ∧ (v8.toInt = -1 ∨ (m 86 3).toInt < (m 86 2).toInt) := rv8
    show PV _ _ _ _ _ _ _ 45 [.ref 86, .int 3, pv_U] [.int v8] _
    have k45 := rv8.1
    have k45b := rv8.2
    refine pv_bipush (M := mX7_readPiece) (v := 40) dX7_readPiece_45 47 rfl (by decide) ?_
    refine pv_icmp_ne (M := mX7_readPiece) (tgt := 83) dX7_readPiece_47 50 rfl (by decide) (fun c11 => ?_) (fun c11 => ?_)
    · have c11 := iv_ne (X := v8.toInt) (Y := 40) c11 rfl (by decide)
      have kn40 : tC m (m 86 3).toInt ≠ 40 := by omega
      refine pv_aload_n (M := mX7_readPiece) 0 dX7_readPiece_83 84 rfl rfl rfl ?_
      refine pv_iload_n (M := mX7_readPiece) 1 dX7_readPiece_84 85 rfl rfl rfl ?_
      have z13 : (3 : Int32).toInt = 3 := by decide
      refine pv_callv (M := mX7_readPiece) (as := [.int 3]) (st := []) (kc2 := 0) (ks2 := 0) dX7_readPiece_85 wd539 YX7_readSum ⟨wd541, wd4⟩ (mk_get (tl86 hT)) rfl rfl (s_X7_readSum_v3x g hT I R (by first | omega | assumption | exact (iv_rng _).2 | exact (iv_rng _).1 | decide) hp1) rfl rfl (Nat.le_of_ble_eq_true rfl) (by decide) rfl rfl 88 rfl (fun rv h1 q14 => ?_)
      obtain ⟨m15, n16, v19, rfl, rfl, I17, K18, pv19, qv19, rv19⟩ := q14
      replace rv19 : (m 86 3).toInt ≤ (m15 86 3).toInt ∧ (m15 86 3).toInt ≤ (m15 86 2).toInt ∧ (m15 86 2).toInt = (m 86 2).toInt ∧ (RSX (SU (tC m) 3 (m 86 3).toInt) v19.toInt (m15 86 3).toInt (m15 86 4).toInt) ∧ (m15 lb 7).toInt = (m lb 7).toInt := by have q_ := rv19; (try rw [z13] at q_); exact q_
      have K18c := K18
      have K18 := Kp.trans (K18.sub (fun _ _ q => q))
      show PV _ _ _ _ _ _ _ 88 [.ref 86, .int 3, pv_U] [.int v19] _
      have k88 := rv19.2.2.2.1
      refine pv_if_ne (M := mX7_readPiece) (tgt := 93) dX7_readPiece_88 91 rfl (by decide) (fun c21 => ?_) (fun c21 => ?_)
      · have c21 := iv_ne (X := v19.toInt) (Y := 0) c21 rfl (by decide)
        have k93 := RSX_ok k88 (by omega)
        have kt93 : tC m15 = tC m := tC_eq (K18 86 2 rfl) (fun j => K18 87 j rfl)
        have kA93 : (m15 86 3).toInt = (m15 86 3).toInt := rfl
        refine pv_aload_n (M := mX7_readPiece) 0 dX7_readPiece_93 94 rfl rfl rfl ?_
        refine pv_callv (M := mX7_readPiece) (as := []) (st := []) (kc2 := 0) (ks2 := 0) dX7_readPiece_94 wd527 YX7_peek ⟨wd529, wd2⟩ (mk_get (tl86 hT)) rfl rfl (s_X7_peek_vx g hT I17 R) rfl rfl (Nat.le_of_ble_eq_true rfl) (by decide) rfl rfl 97 rfl (fun rv h1 q25 => ?_)
        obtain ⟨v26, rfl, rfl, pv26, qv26, rv26⟩ := q25
        replace rv26 : v26.toInt = tC m15 (m15 86 3).toInt ∧ (v26.toInt = -1 ∨ (m15 86 3).toInt < (m15 86 2).toInt) := rv26
        show PV _ _ _ _ _ _ _ 97 [.ref 86, .int 3, pv_U] [.int v26] _
        have k97 := rv26.1
        have k97b := rv26.2
        rw [kt93] at k97
        refine pv_istore_n (M := mX7_readPiece) 2 (lo2 := [.ref 86, .int 3, .int v26]) dX7_readPiece_97 98 rfl rfl (by decide) rfl rfl ?_
        refine pv_iload_n (M := mX7_readPiece) 2 dX7_readPiece_98 99 rfl rfl rfl ?_
        refine pv_bipush (M := mX7_readPiece) (v := 60) dX7_readPiece_99 101 rfl (by decide) ?_
        refine pv_icmp_eq (M := mX7_readPiece) (tgt := 122) dX7_readPiece_101 104 rfl (by decide) (fun c30 => ?_) (fun c30 => ?_)
        · have c30 := iv_eq (X := v26.toInt) (Y := 60) c30 rfl (by decide)
          have kC : isC (tC m (m15 86 3).toInt) = true := by rw [← k97]; exact isC_y (by omega)
          refine pv_aload_n (M := mX7_readPiece) 0 dX7_readPiece_122 123 rfl rfl rfl ?_
          refine pv_dup (M := mX7_readPiece) dX7_readPiece_123 124 rfl rfl ?_
          refine iv_get (M := mX7_readPiece) (l1 := 0) (l2 := 160) dX7_readPiece_124 FX7 3 wd283 (by decide) (tl86 hT) rfl I17 rfl 127 rfl (fun v32 ev32 pv32 qv32 => ?_)
          have wv32 : v32.toInt = (m15 86 3).toInt := congrArg Int32.toInt ev32
          refine pv_iconst (M := mX7_readPiece) (v := 1) dX7_readPiece_127 128 rfl (by decide) ?_
          refine iv_iadd (M := mX7_readPiece) (X := v32.toInt) (Y := 1) dX7_readPiece_128 129 rfl rfl (by decide) (by omega) (by omega) (fun v33 ev33 => ?_)
          refine iv_put (M := mX7_readPiece) (l1 := 0) (l2 := 160) dX7_readPiece_129 FX7 3 wd283 (by decide) rfl (tl86 hT) rfl rfl rfl I17 rfl (by omega) (by omega) 132 rfl (fun m34 e37 I35 => ?_)
          have K36 := K18.set e37 (by decide)
          have w38 : (m34 86 3).toInt = v33.toInt := by rw [e37, up2_eq]
          have w39 : (m34 86 2).toInt = (m15 86 2).toInt := by rw [e37, up2_ne (by omega)]
          have w40 : (m34 86 4).toInt = (m15 86 4).toInt := by rw [e37, up2_ne (by omega)]
          have w41 : (m34 lb 7).toInt = (m15 lb 7).toInt := by rw [e37, up2_ne (by omega)]
          have kt132 : tC m34 = tC m := tC_eq (K36 86 2 rfl) (fun j => K36 87 j rfl)
          have kp132 : (m34 86 3).toInt = (m15 86 3).toInt + 1 := by omega
          refine pv_aload_n (M := mX7_readPiece) 0 dX7_readPiece_132 133 rfl rfl rfl ?_
          refine pv_iload_n (M := mX7_readPiece) 1 dX7_readPiece_133 134 rfl rfl rfl ?_
          have z44 : (3 : Int32).toInt = 3 := by decide
          refine pv_callv (M := mX7_readPiece) (as := [.int 3]) (st := []) (kc2 := 0) (ks2 := 0) dX7_readPiece_134 wd539 YX7_readSum ⟨wd541, wd4⟩ (mk_get (tl86 hT)) rfl rfl (s_X7_readSum_v3x g hT I35 R (by first | omega | assumption | exact (iv_rng _).2 | exact (iv_rng _).1 | decide) (TBC_eq hp1 kt132)) rfl rfl (Nat.le_of_ble_eq_true rfl) (by decide) rfl rfl 137 rfl (fun rv h1 q45 => ?_)
          obtain ⟨m46, n47, v50, rfl, rfl, I48, K49, pv50, qv50, rv50⟩ := q45
          replace rv50 : (m34 86 3).toInt ≤ (m46 86 3).toInt ∧ (m46 86 3).toInt ≤ (m46 86 2).toInt ∧ (m46 86 2).toInt = (m34 86 2).toInt ∧ (RSX (SU (tC m34) 3 (m34 86 3).toInt) v50.toInt (m46 86 3).toInt (m46 86 4).toInt) ∧ (m46 lb 7).toInt = (m34 lb 7).toInt := by have q_ := rv50; (try rw [z44] at q_); exact q_
          have K49c := K49
          have K49 := K36.trans (K49.sub (fun _ _ q => q))
          show PV _ _ _ _ _ _ _ 137 [.ref 86, .int 3, .int v26] [.int v50] _
          have k137 := rv50.2.2.2.1
          rw [kt132, kp132] at k137
          refine pv_if_ne (M := mX7_readPiece) (tgt := 142) dX7_readPiece_137 140 rfl (by decide) (fun c53 => ?_) (fun c53 => ?_)
          · have c53 := iv_ne (X := v50.toInt) (Y := 0) c53 rfl (by decide)
            refine pv_aload_n (M := mX7_readPiece) 0 dX7_readPiece_142 143 rfl rfl rfl ?_
            refine mv_get (M := mX7_readPiece) (v := .ref lb) dX7_readPiece_143 FX7 1 wd281 (by decide) (tl86 hT) rfl R.2.2.2.1 146 rfl ?_
            refine pv_iload_n (M := mX7_readPiece) 2 dX7_readPiece_146 147 rfl rfl rfl ?_
            refine pv_iconst (M := mX7_readPiece) (v := 0) dX7_readPiece_147 148 rfl (by decide) ?_
            have z54 : (0 : Int32).toInt = 0 := by decide
            refine pv_callv (M := mX7_readPiece) (as := [.int v26, .int 0]) (st := []) (kc2 := 0) (ks2 := 0) dX7_readPiece_148 wd567 YX6_emit ⟨wd568, wd569⟩ (mk_get R.2.2.2.2.2.2.1) rfl rfl (s_X6_emit_vx g hT I48 lb R.2.2.2.2.2 v26 0 (by decide) (by decide)) rfl rfl (Nat.le_of_ble_eq_true rfl) (by decide) rfl rfl 151 rfl (fun rv h1 q55 => ?_)
            obtain ⟨m56, n57, rfl, rfl, I58, K59, rm56⟩ := q55
            replace rm56 : (m56 lb 7).toInt = (m46 lb 7).toInt := rm56
            have K59c := K59
            have w60 : (m56 86 3).toInt = (m46 86 3).toInt := congrArg Int32.toInt (K59 86 3 (wr_out (by omega)))
            have w61 : (m56 86 2).toInt = (m46 86 2).toInt := congrArg Int32.toInt (K59 86 2 (wr_out (by omega)))
            have w62 : (m56 86 4).toInt = (m46 86 4).toInt := congrArg Int32.toInt (K59 86 4 (wr_out (by omega)))
            have K59 := K49.trans (K59.sub (by first | exact wR7_r (by omega) | exact wR7_wr))
            show PV _ _ _ _ _ _ _ 151 [.ref 86, .int 3, .int v26] [] _
            refine pv_iconst (M := mX7_readPiece) (v := 1) dX7_readPiece_151 152 rfl (by decide) ?_
            have z63 : (1 : Int32).toInt = 1 := by decide
            exact pv_iret (M := mX7_readPiece) dX7_readPiece_152 rfl rfl ⟨_, _, _, rfl, rfl, I58, K59, by decide, by decide, ⟨by omega, by omega, by omega, Or.inl ⟨by decide, by rw [PI_cm kn33 kn40, CM_ok k93 kC, RSX_ok k137 (by omega), show (m46 86 3).toInt = (m56 86 3).toInt by omega]⟩, by omega⟩⟩
          · have c53 := iv_eq (X := v50.toInt) (Y := 0) c53 rfl (by decide)
            refine pv_iconst (M := mX7_readPiece) (v := 0) dX7_readPiece_140 141 rfl (by decide) ?_
            have z64 : (0 : Int32).toInt = 0 := by decide
            exact pv_iret (M := mX7_readPiece) dX7_readPiece_141 rfl rfl ⟨_, _, _, rfl, rfl, I48, K49, by decide, by decide, ⟨by omega, by omega, by omega, Or.inr ⟨by decide, by rw [PI_cm kn33 kn40, CM_ok k93 kC]; exact RSX_fl k137 (by omega)⟩, by omega⟩⟩
        · have c30 := iv_ne (X := v26.toInt) (Y := 60) c30 rfl (by decide)
          refine pv_iload_n (M := mX7_readPiece) 2 dX7_readPiece_104 105 rfl rfl rfl ?_
          refine pv_bipush (M := mX7_readPiece) (v := 62) dX7_readPiece_105 107 rfl (by decide) ?_
          refine pv_icmp_eq (M := mX7_readPiece) (tgt := 122) dX7_readPiece_107 110 rfl (by decide) (fun c65 => ?_) (fun c65 => ?_)
          · have c65 := iv_eq (X := v26.toInt) (Y := 62) c65 rfl (by decide)
            have kC : isC (tC m (m15 86 3).toInt) = true := by rw [← k97]; exact isC_y (by omega)
            refine pv_aload_n (M := mX7_readPiece) 0 dX7_readPiece_122 123 rfl rfl rfl ?_
            refine pv_dup (M := mX7_readPiece) dX7_readPiece_123 124 rfl rfl ?_
            refine iv_get (M := mX7_readPiece) (l1 := 0) (l2 := 160) dX7_readPiece_124 FX7 3 wd283 (by decide) (tl86 hT) rfl I17 rfl 127 rfl (fun v67 ev67 pv67 qv67 => ?_)
            have wv67 : v67.toInt = (m15 86 3).toInt := congrArg Int32.toInt ev67
            refine pv_iconst (M := mX7_readPiece) (v := 1) dX7_readPiece_127 128 rfl (by decide) ?_
            refine iv_iadd (M := mX7_readPiece) (X := v67.toInt) (Y := 1) dX7_readPiece_128 129 rfl rfl (by decide) (by omega) (by omega) (fun v68 ev68 => ?_)
            refine iv_put (M := mX7_readPiece) (l1 := 0) (l2 := 160) dX7_readPiece_129 FX7 3 wd283 (by decide) rfl (tl86 hT) rfl rfl rfl I17 rfl (by omega) (by omega) 132 rfl (fun m69 e72 I70 => ?_)
            have K71 := K18.set e72 (by decide)
            have w73 : (m69 86 3).toInt = v68.toInt := by rw [e72, up2_eq]
            have w74 : (m69 86 2).toInt = (m15 86 2).toInt := by rw [e72, up2_ne (by omega)]
            have w75 : (m69 86 4).toInt = (m15 86 4).toInt := by rw [e72, up2_ne (by omega)]
            have w76 : (m69 lb 7).toInt = (m15 lb 7).toInt := by rw [e72, up2_ne (by omega)]
            have kt132 : tC m69 = tC m := tC_eq (K71 86 2 rfl) (fun j => K71 87 j rfl)
            have kp132 : (m69 86 3).toInt = (m15 86 3).toInt + 1 := by omega
            refine pv_aload_n (M := mX7_readPiece) 0 dX7_readPiece_132 133 rfl rfl rfl ?_
            refine pv_iload_n (M := mX7_readPiece) 1 dX7_readPiece_133 134 rfl rfl rfl ?_
            have z79 : (3 : Int32).toInt = 3 := by decide
            refine pv_callv (M := mX7_readPiece) (as := [.int 3]) (st := []) (kc2 := 0) (ks2 := 0) dX7_readPiece_134 wd539 YX7_readSum ⟨wd541, wd4⟩ (mk_get (tl86 hT)) rfl rfl (s_X7_readSum_v3x g hT I70 R (by first | omega | assumption | exact (iv_rng _).2 | exact (iv_rng _).1 | decide) (TBC_eq hp1 kt132)) rfl rfl (Nat.le_of_ble_eq_true rfl) (by decide) rfl rfl 137 rfl (fun rv h1 q80 => ?_)
            obtain ⟨m81, n82, v85, rfl, rfl, I83, K84, pv85, qv85, rv85⟩ := q80
            replace rv85 : (m69 86 3).toInt ≤ (m81 86 3).toInt ∧ (m81 86 3).toInt ≤ (m81 86 2).toInt ∧ (m81 86 2).toInt = (m69 86 2).toInt ∧ (RSX (SU (tC m69) 3 (m69 86 3).toInt) v85.toInt (m81 86 3).toInt (m81 86 4).toInt) ∧ (m81 lb 7).toInt = (m69 lb 7).toInt := by have q_ := rv85; (try rw [z79] at q_); exact q_
            have K84c := K84
            have K84 := K71.trans (K84.sub (fun _ _ q => q))
            show PV _ _ _ _ _ _ _ 137 [.ref 86, .int 3, .int v26] [.int v85] _
            have k137 := rv85.2.2.2.1
            rw [kt132, kp132] at k137
            refine pv_if_ne (M := mX7_readPiece) (tgt := 142) dX7_readPiece_137 140 rfl (by decide) (fun c88 => ?_) (fun c88 => ?_)
            · have c88 := iv_ne (X := v85.toInt) (Y := 0) c88 rfl (by decide)
              refine pv_aload_n (M := mX7_readPiece) 0 dX7_readPiece_142 143 rfl rfl rfl ?_
              refine mv_get (M := mX7_readPiece) (v := .ref lb) dX7_readPiece_143 FX7 1 wd281 (by decide) (tl86 hT) rfl R.2.2.2.1 146 rfl ?_
              refine pv_iload_n (M := mX7_readPiece) 2 dX7_readPiece_146 147 rfl rfl rfl ?_
              refine pv_iconst (M := mX7_readPiece) (v := 0) dX7_readPiece_147 148 rfl (by decide) ?_
              have z89 : (0 : Int32).toInt = 0 := by decide
              refine pv_callv (M := mX7_readPiece) (as := [.int v26, .int 0]) (st := []) (kc2 := 0) (ks2 := 0) dX7_readPiece_148 wd567 YX6_emit ⟨wd568, wd569⟩ (mk_get R.2.2.2.2.2.2.1) rfl rfl (s_X6_emit_vx g hT I83 lb R.2.2.2.2.2 v26 0 (by decide) (by decide)) rfl rfl (Nat.le_of_ble_eq_true rfl) (by decide) rfl rfl 151 rfl (fun rv h1 q90 => ?_)
              obtain ⟨m91, n92, rfl, rfl, I93, K94, rm91⟩ := q90
              replace rm91 : (m91 lb 7).toInt = (m81 lb 7).toInt := rm91
              have K94c := K94
              have w95 : (m91 86 3).toInt = (m81 86 3).toInt := congrArg Int32.toInt (K94 86 3 (wr_out (by omega)))
              have w96 : (m91 86 2).toInt = (m81 86 2).toInt := congrArg Int32.toInt (K94 86 2 (wr_out (by omega)))
              have w97 : (m91 86 4).toInt = (m81 86 4).toInt := congrArg Int32.toInt (K94 86 4 (wr_out (by omega)))
              have K94 := K84.trans (K94.sub (by first | exact wR7_r (by omega) | exact wR7_wr))
              show PV _ _ _ _ _ _ _ 151 [.ref 86, .int 3, .int v26] [] _
              refine pv_iconst (M := mX7_readPiece) (v := 1) dX7_readPiece_151 152 rfl (by decide) ?_
              have z98 : (1 : Int32).toInt = 1 := by decide
              exact pv_iret (M := mX7_readPiece) dX7_readPiece_152 rfl rfl ⟨_, _, _, rfl, rfl, I93, K94, by decide, by decide, ⟨by omega, by omega, by omega, Or.inl ⟨by decide, by rw [PI_cm kn33 kn40, CM_ok k93 kC, RSX_ok k137 (by omega), show (m81 86 3).toInt = (m91 86 3).toInt by omega]⟩, by omega⟩⟩
            · have c88 := iv_eq (X := v85.toInt) (Y := 0) c88 rfl (by decide)
              refine pv_iconst (M := mX7_readPiece) (v := 0) dX7_readPiece_140 141 rfl (by decide) ?_
              have z99 : (0 : Int32).toInt = 0 := by decide
              exact pv_iret (M := mX7_readPiece) dX7_readPiece_141 rfl rfl ⟨_, _, _, rfl, rfl, I83, K84, by decide, by decide, ⟨by omega, by omega, by omega, Or.inr ⟨by decide, by rw [PI_cm kn33 kn40, CM_ok k93 kC]; exact RSX_fl k137 (by omega)⟩, by omega⟩⟩
          · have c65 := iv_ne (X := v26.toInt) (Y := 62) c65 rfl (by decide)
            refine pv_iload_n (M := mX7_readPiece) 2 dX7_readPiece_110 111 rfl rfl rfl ?_
            refine pv_bipush (M := mX7_readPiece) (v := 61) dX7_readPiece_111 113 rfl (by decide) ?_
            refine pv_icmp_eq (M := mX7_readPiece) (tgt := 122) dX7_readPiece_113 116 rfl (by decide) (fun c100 => ?_) (fun c100 => ?_)
            · have c100 := iv_eq (X := v26.toInt) (Y := 61) c100 rfl (by decide)
              have kC : isC (tC m (m15 86 3).toInt) = true := by rw [← k97]; exact isC_y (by omega)
              refine pv_aload_n (M := mX7_readPiece) 0 dX7_readPiece_122 123 rfl rfl rfl ?_
              refine pv_dup (M := mX7_readPiece) dX7_readPiece_123 124 rfl rfl ?_
              refine iv_get (M := mX7_readPiece) (l1 := 0) (l2 := 160) dX7_readPiece_124 FX7 3 wd283 (by decide) (tl86 hT) rfl I17 rfl 127 rfl (fun v102 ev102 pv102 qv102 => ?_)
              have wv102 : v102.toInt = (m15 86 3).toInt := congrArg Int32.toInt ev102
              refine pv_iconst (M := mX7_readPiece) (v := 1) dX7_readPiece_127 128 rfl (by decide) ?_
              refine iv_iadd (M := mX7_readPiece) (X := v102.toInt) (Y := 1) dX7_readPiece_128 129 rfl rfl (by decide) (by omega) (by omega) (fun v103 ev103 => ?_)
              refine iv_put (M := mX7_readPiece) (l1 := 0) (l2 := 160) dX7_readPiece_129 FX7 3 wd283 (by decide) rfl (tl86 hT) rfl rfl rfl I17 rfl (by omega) (by omega) 132 rfl (fun m104 e107 I105 => ?_)
              have K106 := K18.set e107 (by decide)
              have w108 : (m104 86 3).toInt = v103.toInt := by rw [e107, up2_eq]
              have w109 : (m104 86 2).toInt = (m15 86 2).toInt := by rw [e107, up2_ne (by omega)]
              have w110 : (m104 86 4).toInt = (m15 86 4).toInt := by rw [e107, up2_ne (by omega)]
              have w111 : (m104 lb 7).toInt = (m15 lb 7).toInt := by rw [e107, up2_ne (by omega)]
              have kt132 : tC m104 = tC m := tC_eq (K106 86 2 rfl) (fun j => K106 87 j rfl)
              have kp132 : (m104 86 3).toInt = (m15 86 3).toInt + 1 := by omega
              refine pv_aload_n (M := mX7_readPiece) 0 dX7_readPiece_132 133 rfl rfl rfl ?_
              refine pv_iload_n (M := mX7_readPiece) 1 dX7_readPiece_133 134 rfl rfl rfl ?_
              have z114 : (3 : Int32).toInt = 3 := by decide
              refine pv_callv (M := mX7_readPiece) (as := [.int 3]) (st := []) (kc2 := 0) (ks2 := 0) dX7_readPiece_134 wd539 YX7_readSum ⟨wd541, wd4⟩ (mk_get (tl86 hT)) rfl rfl (s_X7_readSum_v3x g hT I105 R (by first | omega | assumption | exact (iv_rng _).2 | exact (iv_rng _).1 | decide) (TBC_eq hp1 kt132)) rfl rfl (Nat.le_of_ble_eq_true rfl) (by decide) rfl rfl 137 rfl (fun rv h1 q115 => ?_)
              obtain ⟨m116, n117, v120, rfl, rfl, I118, K119, pv120, qv120, rv120⟩ := q115
              replace rv120 : (m104 86 3).toInt ≤ (m116 86 3).toInt ∧ (m116 86 3).toInt ≤ (m116 86 2).toInt ∧ (m116 86 2).toInt = (m104 86 2).toInt ∧ (RSX (SU (tC m104) 3 (m104 86 3).toInt) v120.toInt (m116 86 3).toInt (m116 86 4).toInt) ∧ (m116 lb 7).toInt = (m104 lb 7).toInt := by have q_ := rv120; (try rw [z114] at q_); exact q_
              have K119c := K119
              have K119 := K106.trans (K119.sub (fun _ _ q => q))
              show PV _ _ _ _ _ _ _ 137 [.ref 86, .int 3, .int v26] [.int v120] _
              have k137 := rv120.2.2.2.1
              rw [kt132, kp132] at k137
              refine pv_if_ne (M := mX7_readPiece) (tgt := 142) dX7_readPiece_137 140 rfl (by decide) (fun c123 => ?_) (fun c123 => ?_)
              · have c123 := iv_ne (X := v120.toInt) (Y := 0) c123 rfl (by decide)
                refine pv_aload_n (M := mX7_readPiece) 0 dX7_readPiece_142 143 rfl rfl rfl ?_
                refine mv_get (M := mX7_readPiece) (v := .ref lb) dX7_readPiece_143 FX7 1 wd281 (by decide) (tl86 hT) rfl R.2.2.2.1 146 rfl ?_
                refine pv_iload_n (M := mX7_readPiece) 2 dX7_readPiece_146 147 rfl rfl rfl ?_
                refine pv_iconst (M := mX7_readPiece) (v := 0) dX7_readPiece_147 148 rfl (by decide) ?_
                have z124 : (0 : Int32).toInt = 0 := by decide
                refine pv_callv (M := mX7_readPiece) (as := [.int v26, .int 0]) (st := []) (kc2 := 0) (ks2 := 0) dX7_readPiece_148 wd567 YX6_emit ⟨wd568, wd569⟩ (mk_get R.2.2.2.2.2.2.1) rfl rfl (s_X6_emit_vx g hT I118 lb R.2.2.2.2.2 v26 0 (by decide) (by decide)) rfl rfl (Nat.le_of_ble_eq_true rfl) (by decide) rfl rfl 151 rfl (fun rv h1 q125 => ?_)
                obtain ⟨m126, n127, rfl, rfl, I128, K129, rm126⟩ := q125
                replace rm126 : (m126 lb 7).toInt = (m116 lb 7).toInt := rm126
                have K129c := K129
                have w130 : (m126 86 3).toInt = (m116 86 3).toInt := congrArg Int32.toInt (K129 86 3 (wr_out (by omega)))
                have w131 : (m126 86 2).toInt = (m116 86 2).toInt := congrArg Int32.toInt (K129 86 2 (wr_out (by omega)))
                have w132 : (m126 86 4).toInt = (m116 86 4).toInt := congrArg Int32.toInt (K129 86 4 (wr_out (by omega)))
                have K129 := K119.trans (K129.sub (by first | exact wR7_r (by omega) | exact wR7_wr))
                show PV _ _ _ _ _ _ _ 151 [.ref 86, .int 3, .int v26] [] _
                refine pv_iconst (M := mX7_readPiece) (v := 1) dX7_readPiece_151 152 rfl (by decide) ?_
                have z133 : (1 : Int32).toInt = 1 := by decide
                exact pv_iret (M := mX7_readPiece) dX7_readPiece_152 rfl rfl ⟨_, _, _, rfl, rfl, I128, K129, by decide, by decide, ⟨by omega, by omega, by omega, Or.inl ⟨by decide, by rw [PI_cm kn33 kn40, CM_ok k93 kC, RSX_ok k137 (by omega), show (m116 86 3).toInt = (m126 86 3).toInt by omega]⟩, by omega⟩⟩
              · have c123 := iv_eq (X := v120.toInt) (Y := 0) c123 rfl (by decide)
                refine pv_iconst (M := mX7_readPiece) (v := 0) dX7_readPiece_140 141 rfl (by decide) ?_
                have z134 : (0 : Int32).toInt = 0 := by decide
                exact pv_iret (M := mX7_readPiece) dX7_readPiece_141 rfl rfl ⟨_, _, _, rfl, rfl, I118, K119, by decide, by decide, ⟨by omega, by omega, by omega, Or.inr ⟨by decide, by rw [PI_cm kn33 kn40, CM_ok k93 kC]; exact RSX_fl k137 (by omega)⟩, by omega⟩⟩
            · have c100 := iv_ne (X := v26.toInt) (Y := 61) c100 rfl (by decide)
              refine pv_aload_n (M := mX7_readPiece) 0 dX7_readPiece_116 117 rfl rfl rfl ?_
              refine pv_iconst (M := mX7_readPiece) (v := 1) dX7_readPiece_117 118 rfl (by decide) ?_
              have z135 : (1 : Int32).toInt = 1 := by decide
              refine pv_callv (M := mX7_readPiece) (as := [.int 1]) (st := []) (kc2 := 0) (ks2 := 0) dX7_readPiece_118 wd531 YX7_fail ⟨wd533, wd3⟩ (mk_get (tl86 hT)) rfl rfl (s_X7_fail_vx g hT I17 R 1 (by decide) (by decide) (by first | omega | assumption | exact (iv_rng _).2 | exact (iv_rng _).1 | decide)) rfl rfl (Nat.le_of_ble_eq_true rfl) (by decide) rfl rfl 121 rfl (fun rv h1 q136 => ?_)
              obtain ⟨m137, n138, v141, rfl, rfl, I139, K140, pv141, qv141, rv141⟩ := q136
              replace rv141 : (m15 86 3).toInt ≤ (m137 86 3).toInt ∧ (m137 86 3).toInt ≤ (m137 86 2).toInt ∧ (m137 86 2).toInt = (m15 86 2).toInt ∧ (v141.toInt = 0 ∧ (m137 86 3).toInt = (m15 86 3).toInt ∧ (m137 86 4).toInt = -1000 * (1 : Int) - (m15 86 3).toInt) ∧ (m137 lb 7).toInt = (m15 lb 7).toInt := by have q_ := rv141; (try rw [z135] at q_); exact q_
              have K140c := K140
              have K140 := K18.trans (K140.sub (fun _ _ q => q))
              show PV _ _ _ _ _ _ _ 121 [.ref 86, .int 3, .int v26] [.int v141] _
              exact pv_iret (M := mX7_readPiece) dX7_readPiece_121 rfl (iv_nz (by omega) (by omega)) ⟨_, _, _, rfl, rfl, I139, K140, by omega, by omega, ⟨by omega, by omega, by omega, Or.inr ⟨by omega, by rw [PI_cm kn33 kn40]; exact CM_no k93 (isC_no (by omega) (by omega) (by omega)) (by omega)⟩, by omega⟩⟩
      · have c21 := iv_eq (X := v19.toInt) (Y := 0) c21 rfl (by decide)
        refine pv_iconst (M := mX7_readPiece) (v := 0) dX7_readPiece_91 92 rfl (by decide) ?_
        have z142 : (0 : Int32).toInt = 0 := by decide
        exact pv_iret (M := mX7_readPiece) dX7_readPiece_92 rfl rfl ⟨_, _, _, rfl, rfl, I17, K18, by decide, by decide, ⟨by omega, by omega, by omega, Or.inr ⟨by decide, by rw [PI_cm kn33 kn40]; exact CM_fl (RSX_fl k88 (by omega))⟩, by omega⟩⟩
    · have c11 := iv_eq (X := v8.toInt) (Y := 40) c11 rfl (by decide)
      have k40 : tC m (m 86 3).toInt = 40 := by omega
      refine pv_aload_n (M := mX7_readPiece) 0 dX7_readPiece_50 51 rfl rfl rfl ?_
      refine pv_iload_n (M := mX7_readPiece) 1 dX7_readPiece_51 52 rfl rfl rfl ?_
      have z144 : (3 : Int32).toInt = 3 := by decide
      refine pv_callv (M := mX7_readPiece) (as := [.int 3]) (st := []) (kc2 := 0) (ks2 := 0) dX7_readPiece_52 wd551 YX7_open ⟨wd553, wd7⟩ (mk_get (tl86 hT)) rfl rfl (s_X7_open_vx g hT I R 3 (by decide) (by decide) (by first | omega | assumption | exact (iv_rng _).2 | exact (iv_rng _).1 | decide)) rfl rfl (Nat.le_of_ble_eq_true rfl) (by decide) rfl rfl 55 rfl (fun rv h1 q145 => ?_)
      obtain ⟨m146, n147, v150, rfl, rfl, I148, K149, pv150, qv150, rv150⟩ := q145
      replace rv150 : (v150 = 0 ∨ (3 : Int) ≤ 5) ∧ (m 86 3).toInt ≤ (m146 86 3).toInt ∧ (m146 86 3).toInt ≤ (m146 86 2).toInt ∧ (m146 86 2).toInt = (m 86 2).toInt ∧ ((v150.toInt = 1 ∧ (3 : Int) ≤ 5 ∧ (m146 86 3).toInt = (m 86 3).toInt + 1) ∨ (v150.toInt = 0 ∧ 6 ≤ (3 : Int) ∧ (m146 86 4).toInt = -5000 - (m 86 3).toInt ∧ (m146 86 3).toInt = (m 86 3).toInt)) ∧ (m146 lb 7).toInt = (m lb 7).toInt := by have q_ := rv150; (try rw [z144] at q_); exact q_
      have K149c := K149
      have K149 := Kp.trans (K149.sub (fun _ _ q => q))
      show PV _ _ _ _ _ _ _ 55 [.ref 86, .int 3, pv_U] [.int v150] _
      refine pv_if_eq (M := mX7_readPiece) (tgt := 81) dX7_readPiece_55 58 rfl (by decide) (fun c151 => ?_) (fun c151 => ?_)
      · have c151 := iv_eq (X := v150.toInt) (Y := 0) c151 rfl (by decide)
        refine pv_iconst (M := mX7_readPiece) (v := 0) dX7_readPiece_81 82 rfl (by decide) ?_
        have z152 : (0 : Int32).toInt = 0 := by decide
        exact pv_iret (M := mX7_readPiece) dX7_readPiece_82 rfl rfl ⟨_, _, _, rfl, rfl, I148, K149, by decide, by decide, ⟨by omega, by omega, by omega, (by first | exact Or.inr ⟨by decide, PX_deep (Or.inr k40) (by omega)⟩ | exact Or.inr ⟨by decide, PX_cn k40 k68 (fun z => by omega) (by omega)⟩ | exact Or.inl ⟨by decide, PX_co k40 k68 (by omega) (by omega)⟩ | exact Or.inr ⟨by decide, PX_con k40 (RSX_fl k65 (by omega))⟩ | (exfalso; omega)), by omega⟩⟩
      · have pc151 := rv150.1.resolve_left c151
        have c151 := iv_ne (X := v150.toInt) (Y := 0) c151 rfl (by decide)
        have kt58 : tC m146 = tC m := tC_eq (K149 86 2 rfl) (fun j => K149 87 j rfl)
        have kp58 : (m146 86 3).toInt = (m 86 3).toInt + 1 := by omega
        refine pv_aload_n (M := mX7_readPiece) 0 dX7_readPiece_58 59 rfl rfl rfl ?_
        refine pv_iload_n (M := mX7_readPiece) 1 dX7_readPiece_59 60 rfl rfl rfl ?_
        refine pv_iconst (M := mX7_readPiece) (v := 1) dX7_readPiece_60 61 rfl (by decide) ?_
        refine pv_iadd (M := mX7_readPiece) (v := 4) dX7_readPiece_61 62 rfl (by decide) ?_
        have z156 : (4 : Int32).toInt = 4 := by decide
        refine pv_callv (M := mX7_readPiece) (as := [.int 4]) (st := []) (kc2 := 0) (ks2 := 0) dX7_readPiece_62 wd662 YX7_readCondition ⟨wd664, wd12⟩ (mk_get (tl86 hT)) rfl rfl (s_X7_readCondition_v4x g hT I148 R (by first | omega | assumption | exact (iv_rng _).2 | exact (iv_rng _).1 | decide) (TBC_eq hp1 kt58)) rfl rfl (Nat.le_of_ble_eq_true rfl) (by decide) rfl rfl 65 rfl (fun rv h1 q157 => ?_)
        obtain ⟨m158, n159, v162, rfl, rfl, I160, K161, pv162, qv162, rv162⟩ := q157
        replace rv162 : (m146 86 3).toInt ≤ (m158 86 3).toInt ∧ (m158 86 3).toInt ≤ (m158 86 2).toInt ∧ (m158 86 2).toInt = (m146 86 2).toInt ∧ (RSX (CN (tC m146) 2 (m146 86 3).toInt) v162.toInt (m158 86 3).toInt (m158 86 4).toInt) ∧ (m158 lb 7).toInt = (m146 lb 7).toInt := by have q_ := rv162; (try rw [z156] at q_); exact q_
        have K161c := K161
        have K161 := K149.trans (K161.sub (fun _ _ q => q))
        show PV _ _ _ _ _ _ _ 65 [.ref 86, .int 3, pv_U] [.int v162] _
        have k65 := rv162.2.2.2.1
        rw [kt58, kp58] at k65
        refine pv_if_eq (M := mX7_readPiece) (tgt := 81) dX7_readPiece_65 68 rfl (by decide) (fun c165 => ?_) (fun c165 => ?_)
        · have c165 := iv_eq (X := v162.toInt) (Y := 0) c165 rfl (by decide)
          refine pv_iconst (M := mX7_readPiece) (v := 0) dX7_readPiece_81 82 rfl (by decide) ?_
          have z166 : (0 : Int32).toInt = 0 := by decide
          exact pv_iret (M := mX7_readPiece) dX7_readPiece_82 rfl rfl ⟨_, _, _, rfl, rfl, I160, K161, by decide, by decide, ⟨by omega, by omega, by omega, (by first | exact Or.inr ⟨by decide, PX_deep (Or.inr k40) (by omega)⟩ | exact Or.inr ⟨by decide, PX_cn k40 k68 (fun z => by omega) (by omega)⟩ | exact Or.inl ⟨by decide, PX_co k40 k68 (by omega) (by omega)⟩ | exact Or.inr ⟨by decide, PX_con k40 (RSX_fl k65 (by omega))⟩ | (exfalso; omega)), by omega⟩⟩
        · have c165 := iv_ne (X := v162.toInt) (Y := 0) c165 rfl (by decide)
          have k68 := RSX_ok k65 (by omega)
          have kt68 : tC m158 = tC m := tC_eq (K161 86 2 rfl) (fun j => K161 87 j rfl)
          refine pv_aload_n (M := mX7_readPiece) 0 dX7_readPiece_68 69 rfl rfl rfl ?_
          refine pv_bipush (M := mX7_readPiece) (v := 41) dX7_readPiece_69 71 rfl (by decide) ?_
          have z169 : (41 : Int32).toInt = 41 := by decide
          refine pv_callv (M := mX7_readPiece) (as := [.int 41]) (st := []) (kc2 := 0) (ks2 := 0) dX7_readPiece_71 wd555 YX7_pass ⟨wd557, wd8⟩ (mk_get (tl86 hT)) rfl rfl (s_X7_pass_vx g hT I160 R 41 (by decide) (by decide) (by first | omega | assumption | exact (iv_rng _).2 | exact (iv_rng _).1 | decide)) rfl rfl (Nat.le_of_ble_eq_true rfl) (by decide) rfl rfl 74 rfl (fun rv h1 q170 => ?_)
          obtain ⟨m171, n172, v175, rfl, rfl, I173, K174, pv175, qv175, rv175⟩ := q170
          replace rv175 : (m158 86 3).toInt ≤ (m171 86 3).toInt ∧ (m171 86 3).toInt ≤ (m171 86 2).toInt ∧ (m171 86 2).toInt = (m158 86 2).toInt ∧ ((v175.toInt = 1 ∧ tC m158 (m158 86 3).toInt = (41 : Int) ∧ (m171 86 3).toInt = (m158 86 3).toInt + 1) ∨ (v175.toInt = 0 ∧ tC m158 (m158 86 3).toInt ≠ (41 : Int) ∧ (m171 86 4).toInt = -1000 - (m158 86 3).toInt ∧ (m171 86 3).toInt = (m158 86 3).toInt)) ∧ (m171 lb 7).toInt = (m158 lb 7).toInt := by have q_ := rv175; (try rw [z169] at q_); exact q_
          have K174c := K174
          have K174 := K161.trans (K174.sub (fun _ _ q => q))
          show PV _ _ _ _ _ _ _ 74 [.ref 86, .int 3, pv_U] [.int v175] _
          have k74 := rv175.2.2.2.1
          rw [kt68] at k74
          refine pv_if_eq (M := mX7_readPiece) (tgt := 81) dX7_readPiece_74 77 rfl (by decide) (fun c178 => ?_) (fun c178 => ?_)
          · have c178 := iv_eq (X := v175.toInt) (Y := 0) c178 rfl (by decide)
            refine pv_iconst (M := mX7_readPiece) (v := 0) dX7_readPiece_81 82 rfl (by decide) ?_
            have z179 : (0 : Int32).toInt = 0 := by decide
            exact pv_iret (M := mX7_readPiece) dX7_readPiece_82 rfl rfl ⟨_, _, _, rfl, rfl, I173, K174, by decide, by decide, ⟨by omega, by omega, by omega, (by first | exact Or.inr ⟨by decide, PX_deep (Or.inr k40) (by omega)⟩ | exact Or.inr ⟨by decide, PX_cn k40 k68 (fun z => by omega) (by omega)⟩ | exact Or.inl ⟨by decide, PX_co k40 k68 (by omega) (by omega)⟩ | exact Or.inr ⟨by decide, PX_con k40 (RSX_fl k65 (by omega))⟩ | (exfalso; omega)), by omega⟩⟩
          · have c178 := iv_ne (X := v175.toInt) (Y := 0) c178 rfl (by decide)
            refine pv_iconst (M := mX7_readPiece) (v := 1) dX7_readPiece_77 78 rfl (by decide) ?_
            refine pv_goto (M := mX7_readPiece) (tgt := 82) dX7_readPiece_78 (by decide) ?_
            have z180 : (1 : Int32).toInt = 1 := by decide
            exact pv_iret (M := mX7_readPiece) dX7_readPiece_82 rfl rfl ⟨_, _, _, rfl, rfl, I173, K174, by decide, by decide, ⟨by omega, by omega, by omega, (by first | exact Or.inr ⟨by decide, PX_deep (Or.inr k40) (by omega)⟩ | exact Or.inr ⟨by decide, PX_cn k40 k68 (fun z => by omega) (by omega)⟩ | exact Or.inl ⟨by decide, PX_co k40 k68 (by omega) (by omega)⟩ | exact Or.inr ⟨by decide, PX_con k40 (RSX_fl k65 (by omega))⟩ | (exfalso; omega)), by omega⟩⟩
  · have c5 := iv_eq (X := v2.toInt) (Y := 33) c5 rfl (by decide)
    have k33 : tC m (m 86 3).toInt = 33 := by omega
    refine pv_aload_n (M := mX7_readPiece) 0 dX7_readPiece_9 10 rfl rfl rfl ?_
    refine pv_iload_n (M := mX7_readPiece) 1 dX7_readPiece_10 11 rfl rfl rfl ?_
    have z182 : (3 : Int32).toInt = 3 := by decide
    refine pv_callv (M := mX7_readPiece) (as := [.int 3]) (st := []) (kc2 := 0) (ks2 := 0) dX7_readPiece_11 wd551 YX7_open ⟨wd553, wd7⟩ (mk_get (tl86 hT)) rfl rfl (s_X7_open_vx g hT I R 3 (by decide) (by decide) (by first | omega | assumption | exact (iv_rng _).2 | exact (iv_rng _).1 | decide)) rfl rfl (Nat.le_of_ble_eq_true rfl) (by decide) rfl rfl 14 rfl (fun rv h1 q183 => ?_)
    obtain ⟨m184, n185, v188, rfl, rfl, I186, K187, pv188, qv188, rv188⟩ := q183
    replace rv188 : (v188 = 0 ∨ (3 : Int) ≤ 5) ∧ (m 86 3).toInt ≤ (m184 86 3).toInt ∧ (m184 86 3).toInt ≤ (m184 86 2).toInt ∧ (m184 86 2).toInt = (m 86 2).toInt ∧ ((v188.toInt = 1 ∧ (3 : Int) ≤ 5 ∧ (m184 86 3).toInt = (m 86 3).toInt + 1) ∨ (v188.toInt = 0 ∧ 6 ≤ (3 : Int) ∧ (m184 86 4).toInt = -5000 - (m 86 3).toInt ∧ (m184 86 3).toInt = (m 86 3).toInt)) ∧ (m184 lb 7).toInt = (m lb 7).toInt := by have q_ := rv188; (try rw [z182] at q_); exact q_
    have K187c := K187
    have K187 := Kp.trans (K187.sub (fun _ _ q => q))
    show PV _ _ _ _ _ _ _ 14 [.ref 86, .int 3, pv_U] [.int v188] _
    refine pv_if_eq (M := mX7_readPiece) (tgt := 27) dX7_readPiece_14 17 rfl (by decide) (fun c189 => ?_) (fun c189 => ?_)
    · have c189 := iv_eq (X := v188.toInt) (Y := 0) c189 rfl (by decide)
      refine pv_iconst (M := mX7_readPiece) (v := 0) dX7_readPiece_27 28 rfl (by decide) ?_
      have z190 : (0 : Int32).toInt = 0 := by decide
      exact pv_iret (M := mX7_readPiece) dX7_readPiece_28 rfl rfl ⟨_, _, _, rfl, rfl, I186, K187, by decide, by decide, ⟨by omega, by omega, by omega, (by first | exact Or.inr ⟨by decide, PX_deep (Or.inl k33) (by omega)⟩ | exact Or.inr ⟨by decide, by rw [PI_not k33]; exact RSX_fl k24 (by omega)⟩ | (exfalso; omega)), by omega⟩⟩
    · have pc189 := rv188.1.resolve_left c189
      have c189 := iv_ne (X := v188.toInt) (Y := 0) c189 rfl (by decide)
      have kt17 : tC m184 = tC m := tC_eq (K187 86 2 rfl) (fun j => K187 87 j rfl)
      have kp17 : (m184 86 3).toInt = (m 86 3).toInt + 1 := by omega
      refine pv_aload_n (M := mX7_readPiece) 0 dX7_readPiece_17 18 rfl rfl rfl ?_
      refine pv_iload_n (M := mX7_readPiece) 1 dX7_readPiece_18 19 rfl rfl rfl ?_
      refine pv_iconst (M := mX7_readPiece) (v := 1) dX7_readPiece_19 20 rfl (by decide) ?_
      refine pv_iadd (M := mX7_readPiece) (v := 4) dX7_readPiece_20 21 rfl (by decide) ?_
      have z194 : (4 : Int32).toInt = 4 := by decide
      refine pv_callv (M := mX7_readPiece) (as := [.int 4]) (st := []) (kc2 := 0) (ks2 := 0) dX7_readPiece_21 wd674 YX7_readPiece ⟨wd676, wd14⟩ (mk_get (tl86 hT)) rfl rfl (s_X7_readPiece_v4x g hT I186 R (by first | omega | assumption | exact (iv_rng _).2 | exact (iv_rng _).1 | decide) (TBC_eq hp1 kt17)) rfl rfl (Nat.le_of_ble_eq_true rfl) (by decide) rfl rfl 24 rfl (fun rv h1 q195 => ?_)
      obtain ⟨m196, n197, v200, rfl, rfl, I198, K199, pv200, qv200, rv200⟩ := q195
      replace rv200 : (m184 86 3).toInt ≤ (m196 86 3).toInt ∧ (m196 86 3).toInt ≤ (m196 86 2).toInt ∧ (m196 86 2).toInt = (m184 86 2).toInt ∧ (RSX (PI (tC m184) 2 (m184 86 3).toInt) v200.toInt (m196 86 3).toInt (m196 86 4).toInt) ∧ (m196 lb 7).toInt = (m184 lb 7).toInt := by have q_ := rv200; (try rw [z194] at q_); exact q_
      have K199c := K199
      have K199 := K187.trans (K199.sub (fun _ _ q => q))
      show PV _ _ _ _ _ _ _ 24 [.ref 86, .int 3, pv_U] [.int v200] _
      have k24 := rv200.2.2.2.1
      rw [kt17, kp17] at k24
      refine pv_if_ne (M := mX7_readPiece) (tgt := 29) dX7_readPiece_24 27 rfl (by decide) (fun c203 => ?_) (fun c203 => ?_)
      · have c203 := iv_ne (X := v200.toInt) (Y := 0) c203 rfl (by decide)
        refine pv_aload_n (M := mX7_readPiece) 0 dX7_readPiece_29 30 rfl rfl rfl ?_
        refine mv_get (M := mX7_readPiece) (v := .ref lb) dX7_readPiece_30 FX7 1 wd281 (by decide) (tl86 hT) rfl R.2.2.2.1 33 rfl ?_
        refine pv_bipush (M := mX7_readPiece) (v := 33) dX7_readPiece_33 35 rfl (by decide) ?_
        refine pv_iconst (M := mX7_readPiece) (v := 0) dX7_readPiece_35 36 rfl (by decide) ?_
        have z204 : (33 : Int32).toInt = 33 := by decide
        have z205 : (0 : Int32).toInt = 0 := by decide
        refine pv_callv (M := mX7_readPiece) (as := [.int 33, .int 0]) (st := []) (kc2 := 0) (ks2 := 0) dX7_readPiece_36 wd567 YX6_emit ⟨wd568, wd569⟩ (mk_get R.2.2.2.2.2.2.1) rfl rfl (s_X6_emit_vx g hT I198 lb R.2.2.2.2.2 33 0 (by decide) (by decide)) rfl rfl (Nat.le_of_ble_eq_true rfl) (by decide) rfl rfl 39 rfl (fun rv h1 q206 => ?_)
        obtain ⟨m207, n208, rfl, rfl, I209, K210, rm207⟩ := q206
        replace rm207 : (m207 lb 7).toInt = (m196 lb 7).toInt := rm207
        have K210c := K210
        have w211 : (m207 86 3).toInt = (m196 86 3).toInt := congrArg Int32.toInt (K210 86 3 (wr_out (by omega)))
        have w212 : (m207 86 2).toInt = (m196 86 2).toInt := congrArg Int32.toInt (K210 86 2 (wr_out (by omega)))
        have w213 : (m207 86 4).toInt = (m196 86 4).toInt := congrArg Int32.toInt (K210 86 4 (wr_out (by omega)))
        have K210 := K199.trans (K210.sub (by first | exact wR7_r (by omega) | exact wR7_wr))
        show PV _ _ _ _ _ _ _ 39 [.ref 86, .int 3, pv_U] [] _
        refine pv_iconst (M := mX7_readPiece) (v := 1) dX7_readPiece_39 40 rfl (by decide) ?_
        have z214 : (1 : Int32).toInt = 1 := by decide
        exact pv_iret (M := mX7_readPiece) dX7_readPiece_40 rfl rfl ⟨_, _, _, rfl, rfl, I209, K210, by decide, by decide, ⟨by omega, by omega, by omega, Or.inl ⟨by decide, by rw [PI_not k33, RSX_ok k24 (by omega), show (m196 86 3).toInt = (m207 86 3).toInt by omega]⟩, by omega⟩⟩
      · have c203 := iv_eq (X := v200.toInt) (Y := 0) c203 rfl (by decide)
        refine pv_iconst (M := mX7_readPiece) (v := 0) dX7_readPiece_27 28 rfl (by decide) ?_
        have z215 : (0 : Int32).toInt = 0 := by decide
        exact pv_iret (M := mX7_readPiece) dX7_readPiece_28 rfl rfl ⟨_, _, _, rfl, rfl, I198, K199, by decide, by decide, ⟨by omega, by omega, by omega, (by first | exact Or.inr ⟨by decide, PX_deep (Or.inl k33) (by omega)⟩ | exact Or.inr ⟨by decide, by rw [PI_not k33]; exact RSX_fl k24 (by omega)⟩ | (exfalso; omega)), by omega⟩⟩

set_option maxHeartbeats 2000000 in
set_option maxRecDepth 20000 in
theorem s_X7_readPart_v3x (g : pv_G) {T : List mv_T} {m : Nat → Nat → Int32} {n : Nat → Nat → Int64} {r : Nat → Value} {la lb : Nat} (hT : TX T) (I : IV BB m) (R : RX T r la lb) (hp0 : (m 86 3).toInt ≤ (m 86 2).toInt) (hp1 : TBC m) : PM g mX7_readPart yX7_readPart (sqI T BB wR7 r m 0 1 (fun m' v => (m 86 3).toInt ≤ (m' 86 3).toInt ∧ (m' 86 3).toInt ≤ (m' 86 2).toInt ∧ (m' 86 2).toInt = (m 86 2).toInt ∧ ((v.toInt = 0 ∨ (m 86 3).toInt + 1 ≤ (m' 86 3).toInt) ∧ TRX (CN (tC m) 3 (m 86 3).toInt) (LB (tC m) 3) (fun a => tC m a ≠ 38) v.toInt (m' 86 3).toInt (m' 86 4).toInt) ∧ (m' lb 7).toInt = (m lb 7).toInt)) 18 0 0 [.ref 86, .int 3] (mk T m n r) := by
  have Kp : fr wR7 m m := fr.rf
  have R0 := R
  have zR := R.2.2.2.2.1.1
  have zR2 := R.2.2.2.2.2.1
  have z91 : 0 ≤ (m 86 3).toInt ∧ (m 86 3).toInt ≤ 160 := I 86 3
  have z92 : 0 ≤ (m 86 2).toInt ∧ (m 86 2).toInt ≤ 160 := I 86 2
  refine PM.of 2 (lo := [.ref 86, .int 3, pv_U, pv_U]) rfl (by decide) rfl rfl (Nat.le_of_ble_eq_true rfl) ?_
  have kTX := TXT_C I
  refine pv_aload_n (M := mX7_readPart) 0 dX7_readPart_0 1 rfl rfl rfl ?_
  refine mv_get (M := mX7_readPart) (v := .ref lb) dX7_readPart_1 FX7 1 wd281 (by decide) (tl86 hT) rfl R.2.2.2.1 4 rfl ?_
  refine pv_callv (M := mX7_readPart) (as := []) (st := []) (kc2 := 0) (ks2 := 0) dX7_readPart_4 wd666 YX6_steps ⟨wd667, wd668⟩ (mk_get R.2.2.2.2.2.2.1) rfl rfl (s_X6_steps g hT I lb R.2.2.2.2.2) rfl rfl (Nat.le_of_ble_eq_true rfl) (by decide) rfl rfl 7 rfl (fun rv h1 q2 => ?_)
  obtain ⟨v3, rfl, rfl, pv3, qv3, rv3⟩ := q2
  show PV _ _ _ _ _ _ _ 7 [.ref 86, .int 3, pv_U, pv_U] [.int v3] _
  refine pv_istore_n (M := mX7_readPart) 2 (lo2 := [.ref 86, .int 3, .int v3, pv_U]) dX7_readPart_7 8 rfl rfl (by decide) rfl rfl ?_
  refine pv_iconst (M := mX7_readPart) (v := 0) dX7_readPart_8 9 rfl (by decide) ?_
  refine pv_istore_n (M := mX7_readPart) 3 (lo2 := [.ref 86, .int 3, .int v3, .int 0]) dX7_readPart_9 10 rfl rfl (by decide) rfl rfl ?_
  have lp10 : ∀ (fuel9 : Nat) (y4 : Int32) (m5 : Nat → Nat → Int32) (n6 : Nat → Nat → Int64), (0 ≤ y4.toInt) → (y4.toInt ≤ 160) → ((m5 86 3).toInt ≤ (m5 86 2).toInt) → ((m5 86 2).toInt = (m 86 2).toInt) → ((m5 lb 7).toInt = (m lb 7).toInt) → ((m 86 3).toInt + 2 * y4.toInt ≤ (m5 86 3).toInt) → (CN (tC m) 3 (m 86 3).toInt = CN (tC m) 3 (m5 86 3).toInt) → IV BB m5 → fr wR7 m m5 → ((160 - y4.toInt) : Int).toNat < fuel9 → PV none g mX7_readPart (sqI T BB wR7 r m 0 1 (fun m' v => (m 86 3).toInt ≤ (m' 86 3).toInt ∧ (m' 86 3).toInt ≤ (m' 86 2).toInt ∧ (m' 86 2).toInt = (m 86 2).toInt ∧ ((v.toInt = 0 ∨ (m 86 3).toInt + 1 ≤ (m' 86 3).toInt) ∧ TRX (CN (tC m) 3 (m 86 3).toInt) (LB (tC m) 3) (fun a => tC m a ≠ 38) v.toInt (m' 86 3).toInt (m' 86 4).toInt) ∧ (m' lb 7).toInt = (m lb 7).toInt)) 18 0 0 10 [.ref 86, .int 3, .int v3, .int y4] [] (mk T m5 n6 r) := by
    intro fuel9
    induction fuel9 with
    | zero => intro y4 m5 n6 b12 b13 b14 b15 b16 b17 b18 I7 K8 z19; omega
    | succ fuel9 ih11 =>
      intro y4 m5 n6 b12 b13 b14 b15 b16 b17 b18 I7 K8 z19
      have z20 : 0 ≤ (m5 86 3).toInt ∧ (m5 86 3).toInt ≤ 160 := I7 86 3
      have z21 : 0 ≤ (m5 86 2).toInt ∧ (m5 86 2).toInt ≤ 160 := I7 86 2
      have kgc := (show CN (tC m) 3 (m 86 3).toInt = CN (tC m) 3 (m5 86 3).toInt by assumption)
      have kt10 : tC m5 = tC m := tC_eq (K8 86 2 rfl) (fun j => K8 87 j rfl)
      refine pv_iload_n (M := mX7_readPart) 3 dX7_readPart_10 11 rfl rfl rfl ?_
      refine pv_sipush (M := mX7_readPart) (v := 160) dX7_readPart_11 14 rfl (by decide) ?_
      refine pv_icmp_ge (M := mX7_readPart) (tgt := 65) dX7_readPart_14 17 rfl (by decide) (fun c24 => ?_) (fun c24 => ?_)
      · have c24 := iv_le (X := 160) (Y := y4.toInt) c24 (by decide) rfl
        refine pv_aload_n (M := mX7_readPart) 0 dX7_readPart_65 66 rfl rfl rfl ?_
        refine mv_get (M := mX7_readPart) (v := .ref lb) dX7_readPart_66 FX7 1 wd281 (by decide) (tl86 hT) rfl R.2.2.2.1 69 rfl ?_
        refine pv_bipush (M := mX7_readPart) (v := 38) dX7_readPart_69 71 rfl (by decide) ?_
        refine pv_iload_n (M := mX7_readPart) 2 dX7_readPart_71 72 rfl rfl rfl ?_
        have z25 : (38 : Int32).toInt = 38 := by decide
        refine pv_callv (M := mX7_readPart) (as := [.int 38, .int v3]) (st := []) (kc2 := 0) (ks2 := 0) dX7_readPart_72 wd678 YX6_aimLeaps ⟨wd679, wd680⟩ (mk_get R.2.2.2.2.2.2.1) rfl rfl (s_X6_aimLeaps_vx g hT I7 lb R.2.2.2.2.2 38 v3) rfl rfl (Nat.le_of_ble_eq_true rfl) (by decide) rfl rfl 75 rfl (fun rv h1 q26 => ?_)
        obtain ⟨m27, n28, rfl, rfl, I29, K30, rm27⟩ := q26
        replace rm27 : (m27 lb 7).toInt = (m5 lb 7).toInt := rm27
        have K30c := K30
        have w31 : (m27 86 3).toInt = (m5 86 3).toInt := congrArg Int32.toInt (K30 86 3 (wr_out (by omega)))
        have w32 : (m27 86 2).toInt = (m5 86 2).toInt := congrArg Int32.toInt (K30 86 2 (wr_out (by omega)))
        have w33 : (m27 86 4).toInt = (m5 86 4).toInt := congrArg Int32.toInt (K30 86 4 (wr_out (by omega)))
        have K30 := K8.trans (K30.sub (by first | exact wR7_r (by omega) | exact wR7_wr))
        show PV _ _ _ _ _ _ _ 75 [.ref 86, .int 3, .int v3, .int y4] [] _
        refine pv_iconst (M := mX7_readPart) (v := 1) dX7_readPart_75 76 rfl (by decide) ?_
        have z34 : (1 : Int32).toInt = 1 := by decide
        exact pv_iret (M := mX7_readPart) dX7_readPart_76 rfl rfl ⟨_, _, _, rfl, rfl, I29, K30, by decide, by decide, ⟨by omega, by omega, by omega, (by first | exact ⟨Or.inr (by omega), Or.inl ⟨by decide, by rw [kgc, k27]; congr 1; omega, by show tC m (m27 86 3).toInt ≠ 38; rw [show (m27 86 3).toInt = (m5 86 3).toInt by omega, ← k31]; omega⟩⟩ | (exfalso; omega)), by omega⟩⟩
      · have c24 := iv_nle (X := 160) (Y := y4.toInt) c24 (by decide) rfl
        refine pv_aload_n (M := mX7_readPart) 0 dX7_readPart_17 18 rfl rfl rfl ?_
        refine pv_iload_n (M := mX7_readPart) 1 dX7_readPart_18 19 rfl rfl rfl ?_
        have z35 : (3 : Int32).toInt = 3 := by decide
        refine pv_callv (M := mX7_readPart) (as := [.int 3]) (st := []) (kc2 := 0) (ks2 := 0) dX7_readPart_19 wd674 YX7_readPiece ⟨wd676, wd14⟩ (mk_get (tl86 hT)) rfl rfl (s_X7_readPiece_v3x g hT I7 R (by first | omega | assumption | exact (iv_rng _).2 | exact (iv_rng _).1 | decide) (TBC_eq hp1 kt10)) rfl rfl (Nat.le_of_ble_eq_true rfl) (by decide) rfl rfl 22 rfl (fun rv h1 q36 => ?_)
        obtain ⟨m37, n38, v41, rfl, rfl, I39, K40, pv41, qv41, rv41⟩ := q36
        replace rv41 : (m5 86 3).toInt ≤ (m37 86 3).toInt ∧ (m37 86 3).toInt ≤ (m37 86 2).toInt ∧ (m37 86 2).toInt = (m5 86 2).toInt ∧ (RSX (PI (tC m5) 3 (m5 86 3).toInt) v41.toInt (m37 86 3).toInt (m37 86 4).toInt) ∧ (m37 lb 7).toInt = (m5 lb 7).toInt := by have q_ := rv41; (try rw [z35] at q_); exact q_
        have K40c := K40
        have K40 := K8.trans (K40.sub (fun _ _ q => q))
        show PV _ _ _ _ _ _ _ 22 [.ref 86, .int 3, .int v3, .int y4] [.int v41] _
        have k22 := rv41.2.2.2.1
        rw [kt10] at k22
        refine pv_if_ne (M := mX7_readPart) (tgt := 27) dX7_readPart_22 25 rfl (by decide) (fun c44 => ?_) (fun c44 => ?_)
        · have c44 := iv_ne (X := v41.toInt) (Y := 0) c44 rfl (by decide)
          have k27o := RSX_ok k22 (by omega)
          have k27 := CN_ok k27o
          have k27p := PI_le 3 (m5 86 3).toInt (by rw [k27o])
          rw [k27o] at k27p
          have kt27 : tC m37 = tC m := tC_eq (K40 86 2 rfl) (fun j => K40 87 j rfl)
          refine pv_aload_n (M := mX7_readPart) 0 dX7_readPart_27 28 rfl rfl rfl ?_
          refine pv_callv (M := mX7_readPart) (as := []) (st := []) (kc2 := 0) (ks2 := 0) dX7_readPart_28 wd527 YX7_peek ⟨wd529, wd2⟩ (mk_get (tl86 hT)) rfl rfl (s_X7_peek_vx g hT I39 R) rfl rfl (Nat.le_of_ble_eq_true rfl) (by decide) rfl rfl 31 rfl (fun rv h1 q50 => ?_)
          obtain ⟨v51, rfl, rfl, pv51, qv51, rv51⟩ := q50
          replace rv51 : v51.toInt = tC m37 (m37 86 3).toInt ∧ (v51.toInt = -1 ∨ (m37 86 3).toInt < (m37 86 2).toInt) := rv51
          show PV _ _ _ _ _ _ _ 31 [.ref 86, .int 3, .int v3, .int y4] [.int v51] _
          have k31 := rv51.1
          have k31b := rv51.2
          rw [kt27] at k31
          refine pv_bipush (M := mX7_readPart) (v := 38) dX7_readPart_31 33 rfl (by decide) ?_
          refine pv_icmp_eq (M := mX7_readPart) (tgt := 39) dX7_readPart_33 36 rfl (by decide) (fun c55 => ?_) (fun c55 => ?_)
          · have c55 := iv_eq (X := v51.toInt) (Y := 38) c55 rfl (by decide)
            have kB : isB (tC m (m37 86 3).toInt) = true := isB_y (by omega)
            refine pv_aload_n (M := mX7_readPart) 0 dX7_readPart_39 40 rfl rfl rfl ?_
            refine mv_get (M := mX7_readPart) (v := .ref lb) dX7_readPart_40 FX7 1 wd281 (by decide) (tl86 hT) rfl R.2.2.2.1 43 rfl ?_
            refine pv_bipush (M := mX7_readPart) (v := 38) dX7_readPart_43 45 rfl (by decide) ?_
            refine pv_iconst (M := mX7_readPart) (v := (-1)) dX7_readPart_45 46 rfl (by decide) ?_
            have z57 : (38 : Int32).toInt = 38 := by decide
            have z58 : ((-1) : Int32).toInt = (-1) := by decide
            refine pv_callv (M := mX7_readPart) (as := [.int 38, .int (-1)]) (st := []) (kc2 := 0) (ks2 := 0) dX7_readPart_46 wd567 YX6_emit ⟨wd568, wd569⟩ (mk_get R.2.2.2.2.2.2.1) rfl rfl (s_X6_emit_vx g hT I39 lb R.2.2.2.2.2 38 (-1) (by decide) (by decide)) rfl rfl (Nat.le_of_ble_eq_true rfl) (by decide) rfl rfl 49 rfl (fun rv h1 q59 => ?_)
            obtain ⟨m60, n61, rfl, rfl, I62, K63, rm60⟩ := q59
            replace rm60 : (m60 lb 7).toInt = (m37 lb 7).toInt := rm60
            have K63c := K63
            have w64 : (m60 86 3).toInt = (m37 86 3).toInt := congrArg Int32.toInt (K63 86 3 (wr_out (by omega)))
            have w65 : (m60 86 2).toInt = (m37 86 2).toInt := congrArg Int32.toInt (K63 86 2 (wr_out (by omega)))
            have w66 : (m60 86 4).toInt = (m37 86 4).toInt := congrArg Int32.toInt (K63 86 4 (wr_out (by omega)))
            have K63 := K40.trans (K63.sub (by first | exact wR7_r (by omega) | exact wR7_wr))
            show PV _ _ _ _ _ _ _ 49 [.ref 86, .int 3, .int v3, .int y4] [] _
            refine pv_aload_n (M := mX7_readPart) 0 dX7_readPart_49 50 rfl rfl rfl ?_
            refine pv_dup (M := mX7_readPart) dX7_readPart_50 51 rfl rfl ?_
            refine iv_get (M := mX7_readPart) (l1 := 0) (l2 := 160) dX7_readPart_51 FX7 3 wd283 (by decide) (tl86 hT) rfl I62 rfl 54 rfl (fun v67 ev67 pv67 qv67 => ?_)
            have wv67 : v67.toInt = (m60 86 3).toInt := congrArg Int32.toInt ev67
            refine pv_iconst (M := mX7_readPart) (v := 1) dX7_readPart_54 55 rfl (by decide) ?_
            refine iv_iadd (M := mX7_readPart) (X := v67.toInt) (Y := 1) dX7_readPart_55 56 rfl rfl (by decide) (by omega) (by omega) (fun v68 ev68 => ?_)
            refine iv_put (M := mX7_readPart) (l1 := 0) (l2 := 160) dX7_readPart_56 FX7 3 wd283 (by decide) rfl (tl86 hT) rfl rfl rfl I62 rfl (by omega) (by omega) 59 rfl (fun m69 e72 I70 => ?_)
            have K71 := K63.set e72 (by decide)
            have w73 : (m69 86 3).toInt = v68.toInt := by rw [e72, up2_eq]
            have w74 : (m69 86 2).toInt = (m60 86 2).toInt := by rw [e72, up2_ne (by omega)]
            have w75 : (m69 86 4).toInt = (m60 86 4).toInt := by rw [e72, up2_ne (by omega)]
            have w76 : (m69 lb 7).toInt = (m60 lb 7).toInt := by rw [e72, up2_ne (by omega)]
            refine iv_inc (M := mX7_readPart) (C := 1) dX7_readPart_59 62 rfl rfl (by decide) rfl rfl (by decide) (by omega) (by omega) (fun v77 ev77 => ?_)
            show PV _ _ _ _ _ _ _ 62 [.ref 86, .int 3, .int v3, .int v77] [] _
            refine pv_goto (M := mX7_readPart) (tgt := 10) dX7_readPart_62 (by decide) ?_
            have kbc : CN (tC m) 3 (m 86 3).toInt = CN (tC m) 3 (m69 86 3).toInt := by rw [kgc, k27, LB_cn kTX (by omega) kB]; congr 1; omega
            exact ih11 v77 m69 n61 (by first | omega | assumption | exact (iv_rng _).2 | exact (iv_rng _).1 | decide) (by first | omega | assumption | exact (iv_rng _).2 | exact (iv_rng _).1 | decide) (by first | omega | assumption | (show (m69 86 3).toInt ≤ (m69 86 2).toInt; omega) | decide) (by first | omega | assumption | (show (m69 86 2).toInt = (m 86 2).toInt; omega) | decide) (by first | omega | assumption | (show (m69 lb 7).toInt = (m lb 7).toInt; omega) | decide) (by first | omega | assumption | (show (m 86 3).toInt + 2 * v77.toInt ≤ (m69 86 3).toInt; omega) | decide) kbc I70 K71 (by omega)
          · have c55 := iv_ne (X := v51.toInt) (Y := 38) c55 rfl (by decide)
            refine pv_goto (M := mX7_readPart) (tgt := 65) dX7_readPart_36 (by decide) ?_
            refine pv_aload_n (M := mX7_readPart) 0 dX7_readPart_65 66 rfl rfl rfl ?_
            refine mv_get (M := mX7_readPart) (v := .ref lb) dX7_readPart_66 FX7 1 wd281 (by decide) (tl86 hT) rfl R.2.2.2.1 69 rfl ?_
            refine pv_bipush (M := mX7_readPart) (v := 38) dX7_readPart_69 71 rfl (by decide) ?_
            refine pv_iload_n (M := mX7_readPart) 2 dX7_readPart_71 72 rfl rfl rfl ?_
            have z79 : (38 : Int32).toInt = 38 := by decide
            refine pv_callv (M := mX7_readPart) (as := [.int 38, .int v3]) (st := []) (kc2 := 0) (ks2 := 0) dX7_readPart_72 wd678 YX6_aimLeaps ⟨wd679, wd680⟩ (mk_get R.2.2.2.2.2.2.1) rfl rfl (s_X6_aimLeaps_vx g hT I39 lb R.2.2.2.2.2 38 v3) rfl rfl (Nat.le_of_ble_eq_true rfl) (by decide) rfl rfl 75 rfl (fun rv h1 q80 => ?_)
            obtain ⟨m81, n82, rfl, rfl, I83, K84, rm81⟩ := q80
            replace rm81 : (m81 lb 7).toInt = (m37 lb 7).toInt := rm81
            have K84c := K84
            have w85 : (m81 86 3).toInt = (m37 86 3).toInt := congrArg Int32.toInt (K84 86 3 (wr_out (by omega)))
            have w86 : (m81 86 2).toInt = (m37 86 2).toInt := congrArg Int32.toInt (K84 86 2 (wr_out (by omega)))
            have w87 : (m81 86 4).toInt = (m37 86 4).toInt := congrArg Int32.toInt (K84 86 4 (wr_out (by omega)))
            have K84 := K40.trans (K84.sub (by first | exact wR7_r (by omega) | exact wR7_wr))
            show PV _ _ _ _ _ _ _ 75 [.ref 86, .int 3, .int v3, .int y4] [] _
            refine pv_iconst (M := mX7_readPart) (v := 1) dX7_readPart_75 76 rfl (by decide) ?_
            have z88 : (1 : Int32).toInt = 1 := by decide
            exact pv_iret (M := mX7_readPart) dX7_readPart_76 rfl rfl ⟨_, _, _, rfl, rfl, I83, K84, by decide, by decide, ⟨by omega, by omega, by omega, (by first | exact ⟨Or.inr (by omega), Or.inl ⟨by decide, by rw [kgc, k27]; congr 1; omega, by show tC m (m81 86 3).toInt ≠ 38; rw [show (m81 86 3).toInt = (m37 86 3).toInt by omega, ← k31]; omega⟩⟩ | (exfalso; omega)), by omega⟩⟩
        · have c44 := iv_eq (X := v41.toInt) (Y := 0) c44 rfl (by decide)
          refine pv_iconst (M := mX7_readPart) (v := 0) dX7_readPart_25 26 rfl (by decide) ?_
          have z89 : (0 : Int32).toInt = 0 := by decide
          exact pv_iret (M := mX7_readPart) dX7_readPart_26 rfl rfl ⟨_, _, _, rfl, rfl, I39, K40, by decide, by decide, ⟨by omega, by omega, by omega, ⟨Or.inl (by decide), Or.inr ⟨by decide, by rw [kgc]; exact CN_fl (RSX_fl k22 (by omega))⟩⟩, by omega⟩⟩
  have z90 : (0 : Int32).toInt = 0 := by decide
  exact lp10 (((160 - 0) : Int).toNat + 1) 0 m n (by first | omega | assumption | exact (iv_rng _).2 | exact (iv_rng _).1 | decide) (by first | omega | assumption | exact (iv_rng _).2 | exact (iv_rng _).1 | decide) (by first | omega | assumption | (show (m 86 3).toInt ≤ (m 86 2).toInt; omega) | decide) (by first | omega | assumption | (show (m 86 2).toInt = (m 86 2).toInt; omega) | decide) (by first | omega | assumption | (show (m lb 7).toInt = (m lb 7).toInt; omega) | decide) (by first | omega | assumption | (show (m 86 3).toInt + 2 * 0 ≤ (m 86 3).toInt; omega) | decide) rfl I Kp (by omega)

set_option maxHeartbeats 2000000 in
set_option maxRecDepth 20000 in
theorem s_X7_readCondition_v3x (g : pv_G) {T : List mv_T} {m : Nat → Nat → Int32} {n : Nat → Nat → Int64} {r : Nat → Value} {la lb : Nat} (hT : TX T) (I : IV BB m) (R : RX T r la lb) (hp0 : (m 86 3).toInt ≤ (m 86 2).toInt) (hp1 : TBC m) : PM g mX7_readCondition yX7_readCondition (sqI T BB wR7 r m 0 1 (fun m' v => (m 86 3).toInt ≤ (m' 86 3).toInt ∧ (m' 86 3).toInt ≤ (m' 86 2).toInt ∧ (m' 86 2).toInt = (m 86 2).toInt ∧ (RSX (CN (tC m) 3 (m 86 3).toInt) v.toInt (m' 86 3).toInt (m' 86 4).toInt) ∧ (m' lb 7).toInt = (m lb 7).toInt)) 19 0 0 [.ref 86, .int 3] (mk T m n r) := by
  have Kp : fr wR7 m m := fr.rf
  have R0 := R
  have zR := R.2.2.2.2.1.1
  have zR2 := R.2.2.2.2.2.1
  have z90 : 0 ≤ (m 86 3).toInt ∧ (m 86 3).toInt ≤ 160 := I 86 3
  have z91 : 0 ≤ (m 86 2).toInt ∧ (m 86 2).toInt ≤ 160 := I 86 2
  refine PM.of 2 (lo := [.ref 86, .int 3, pv_U, pv_U]) rfl (by decide) rfl rfl (Nat.le_of_ble_eq_true rfl) ?_
  have kTX := TXT_C I
  refine pv_aload_n (M := mX7_readCondition) 0 dX7_readCondition_0 1 rfl rfl rfl ?_
  refine mv_get (M := mX7_readCondition) (v := .ref lb) dX7_readCondition_1 FX7 1 wd281 (by decide) (tl86 hT) rfl R.2.2.2.1 4 rfl ?_
  refine pv_callv (M := mX7_readCondition) (as := []) (st := []) (kc2 := 0) (ks2 := 0) dX7_readCondition_4 wd666 YX6_steps ⟨wd667, wd668⟩ (mk_get R.2.2.2.2.2.2.1) rfl rfl (s_X6_steps g hT I lb R.2.2.2.2.2) rfl rfl (Nat.le_of_ble_eq_true rfl) (by decide) rfl rfl 7 rfl (fun rv h1 q2 => ?_)
  obtain ⟨v3, rfl, rfl, pv3, qv3, rv3⟩ := q2
  show PV _ _ _ _ _ _ _ 7 [.ref 86, .int 3, pv_U, pv_U] [.int v3] _
  refine pv_istore_n (M := mX7_readCondition) 2 (lo2 := [.ref 86, .int 3, .int v3, pv_U]) dX7_readCondition_7 8 rfl rfl (by decide) rfl rfl ?_
  refine pv_iconst (M := mX7_readCondition) (v := 0) dX7_readCondition_8 9 rfl (by decide) ?_
  refine pv_istore_n (M := mX7_readCondition) 3 (lo2 := [.ref 86, .int 3, .int v3, .int 0]) dX7_readCondition_9 10 rfl rfl (by decide) rfl rfl ?_
  have lp10 : ∀ (fuel9 : Nat) (y4 : Int32) (m5 : Nat → Nat → Int32) (n6 : Nat → Nat → Int64), (0 ≤ y4.toInt) → (y4.toInt ≤ 160) → ((m5 86 3).toInt ≤ (m5 86 2).toInt) → ((m5 86 2).toInt = (m 86 2).toInt) → ((m5 lb 7).toInt = (m lb 7).toInt) → ((m 86 3).toInt + 2 * y4.toInt ≤ (m5 86 3).toInt) → (CN (tC m) 3 (m 86 3).toInt = CN (tC m) 3 (m5 86 3).toInt) → IV BB m5 → fr wR7 m m5 → ((160 - y4.toInt) : Int).toNat < fuel9 → PV none g mX7_readCondition (sqI T BB wR7 r m 0 1 (fun m' v => (m 86 3).toInt ≤ (m' 86 3).toInt ∧ (m' 86 3).toInt ≤ (m' 86 2).toInt ∧ (m' 86 2).toInt = (m 86 2).toInt ∧ (RSX (CN (tC m) 3 (m 86 3).toInt) v.toInt (m' 86 3).toInt (m' 86 4).toInt) ∧ (m' lb 7).toInt = (m lb 7).toInt)) 19 0 0 10 [.ref 86, .int 3, .int v3, .int y4] [] (mk T m5 n6 r) := by
    intro fuel9
    induction fuel9 with
    | zero => intro y4 m5 n6 b12 b13 b14 b15 b16 b17 b18 I7 K8 z19; omega
    | succ fuel9 ih11 =>
      intro y4 m5 n6 b12 b13 b14 b15 b16 b17 b18 I7 K8 z19
      have z20 : 0 ≤ (m5 86 3).toInt ∧ (m5 86 3).toInt ≤ 160 := I7 86 3
      have z21 : 0 ≤ (m5 86 2).toInt ∧ (m5 86 2).toInt ≤ 160 := I7 86 2
      have kgc := (show CN (tC m) 3 (m 86 3).toInt = CN (tC m) 3 (m5 86 3).toInt by assumption)
      have kt10 : tC m5 = tC m := tC_eq (K8 86 2 rfl) (fun j => K8 87 j rfl)
      refine pv_iload_n (M := mX7_readCondition) 3 dX7_readCondition_10 11 rfl rfl rfl ?_
      refine pv_sipush (M := mX7_readCondition) (v := 160) dX7_readCondition_11 14 rfl (by decide) ?_
      refine pv_icmp_ge (M := mX7_readCondition) (tgt := 65) dX7_readCondition_14 17 rfl (by decide) (fun c24 => ?_) (fun c24 => ?_)
      · have c24 := iv_le (X := 160) (Y := y4.toInt) c24 (by decide) rfl
        refine pv_aload_n (M := mX7_readCondition) 0 dX7_readCondition_65 66 rfl rfl rfl ?_
        refine mv_get (M := mX7_readCondition) (v := .ref lb) dX7_readCondition_66 FX7 1 wd281 (by decide) (tl86 hT) rfl R.2.2.2.1 69 rfl ?_
        refine pv_bipush (M := mX7_readCondition) (v := 124) dX7_readCondition_69 71 rfl (by decide) ?_
        refine pv_iload_n (M := mX7_readCondition) 2 dX7_readCondition_71 72 rfl rfl rfl ?_
        have z25 : (124 : Int32).toInt = 124 := by decide
        refine pv_callv (M := mX7_readCondition) (as := [.int 124, .int v3]) (st := []) (kc2 := 0) (ks2 := 0) dX7_readCondition_72 wd678 YX6_aimLeaps ⟨wd679, wd680⟩ (mk_get R.2.2.2.2.2.2.1) rfl rfl (s_X6_aimLeaps_vx g hT I7 lb R.2.2.2.2.2 124 v3) rfl rfl (Nat.le_of_ble_eq_true rfl) (by decide) rfl rfl 75 rfl (fun rv h1 q26 => ?_)
        obtain ⟨m27, n28, rfl, rfl, I29, K30, rm27⟩ := q26
        replace rm27 : (m27 lb 7).toInt = (m5 lb 7).toInt := rm27
        have K30c := K30
        have w31 : (m27 86 3).toInt = (m5 86 3).toInt := congrArg Int32.toInt (K30 86 3 (wr_out (by omega)))
        have w32 : (m27 86 2).toInt = (m5 86 2).toInt := congrArg Int32.toInt (K30 86 2 (wr_out (by omega)))
        have w33 : (m27 86 4).toInt = (m5 86 4).toInt := congrArg Int32.toInt (K30 86 4 (wr_out (by omega)))
        have K30 := K8.trans (K30.sub (by first | exact wR7_r (by omega) | exact wR7_wr))
        show PV _ _ _ _ _ _ _ 75 [.ref 86, .int 3, .int v3, .int y4] [] _
        refine pv_iconst (M := mX7_readCondition) (v := 1) dX7_readCondition_75 76 rfl (by decide) ?_
        have z34 : (1 : Int32).toInt = 1 := by decide
        exact pv_iret (M := mX7_readCondition) dX7_readCondition_76 rfl rfl ⟨_, _, _, rfl, rfl, I29, K30, by decide, by decide, ⟨by omega, by omega, by omega, (by first | exact Or.inl ⟨by decide, by rw [kgc, k27, LB_no (isB_no k27n (by rw [← k31]; omega))]; congr 1; omega⟩ | (exfalso; omega)), by omega⟩⟩
      · have c24 := iv_nle (X := 160) (Y := y4.toInt) c24 (by decide) rfl
        refine pv_aload_n (M := mX7_readCondition) 0 dX7_readCondition_17 18 rfl rfl rfl ?_
        refine pv_iload_n (M := mX7_readCondition) 1 dX7_readCondition_18 19 rfl rfl rfl ?_
        have z35 : (3 : Int32).toInt = 3 := by decide
        refine pv_callv (M := mX7_readCondition) (as := [.int 3]) (st := []) (kc2 := 0) (ks2 := 0) dX7_readCondition_19 wd670 YX7_readPart ⟨wd672, wd13⟩ (mk_get (tl86 hT)) rfl rfl (s_X7_readPart_v3x g hT I7 R (by first | omega | assumption | exact (iv_rng _).2 | exact (iv_rng _).1 | decide) (TBC_eq hp1 kt10)) rfl rfl (Nat.le_of_ble_eq_true rfl) (by decide) rfl rfl 22 rfl (fun rv h1 q36 => ?_)
        obtain ⟨m37, n38, v41, rfl, rfl, I39, K40, pv41, qv41, rv41⟩ := q36
        replace rv41 : (m5 86 3).toInt ≤ (m37 86 3).toInt ∧ (m37 86 3).toInt ≤ (m37 86 2).toInt ∧ (m37 86 2).toInt = (m5 86 2).toInt ∧ ((v41.toInt = 0 ∨ (m5 86 3).toInt + 1 ≤ (m37 86 3).toInt) ∧ TRX (CN (tC m5) 3 (m5 86 3).toInt) (LB (tC m5) 3) (fun a => tC m5 a ≠ 38) v41.toInt (m37 86 3).toInt (m37 86 4).toInt) ∧ (m37 lb 7).toInt = (m5 lb 7).toInt := by have q_ := rv41; (try rw [z35] at q_); exact q_
        have K40c := K40
        have K40 := K8.trans (K40.sub (fun _ _ q => q))
        show PV _ _ _ _ _ _ _ 22 [.ref 86, .int 3, .int v3, .int y4] [.int v41] _
        have k22 := rv41.2.2.2.1.2
        have k22p := rv41.2.2.2.1.1
        rw [kt10] at k22
        refine pv_if_ne (M := mX7_readCondition) (tgt := 27) dX7_readCondition_22 25 rfl (by decide) (fun c45 => ?_) (fun c45 => ?_)
        · have c45 := iv_ne (X := v41.toInt) (Y := 0) c45 rfl (by decide)
          have k27 := (TRX_ok k22 (by omega)).1
          have k27n := (TRX_ok k22 (by omega)).2
          have kt27 : tC m37 = tC m := tC_eq (K40 86 2 rfl) (fun j => K40 87 j rfl)
          refine pv_aload_n (M := mX7_readCondition) 0 dX7_readCondition_27 28 rfl rfl rfl ?_
          refine pv_callv (M := mX7_readCondition) (as := []) (st := []) (kc2 := 0) (ks2 := 0) dX7_readCondition_28 wd527 YX7_peek ⟨wd529, wd2⟩ (mk_get (tl86 hT)) rfl rfl (s_X7_peek_vx g hT I39 R) rfl rfl (Nat.le_of_ble_eq_true rfl) (by decide) rfl rfl 31 rfl (fun rv h1 q49 => ?_)
          obtain ⟨v50, rfl, rfl, pv50, qv50, rv50⟩ := q49
          replace rv50 : v50.toInt = tC m37 (m37 86 3).toInt ∧ (v50.toInt = -1 ∨ (m37 86 3).toInt < (m37 86 2).toInt) := rv50
          show PV _ _ _ _ _ _ _ 31 [.ref 86, .int 3, .int v3, .int y4] [.int v50] _
          have k31 := rv50.1
          have k31b := rv50.2
          rw [kt27] at k31
          refine pv_bipush (M := mX7_readCondition) (v := 124) dX7_readCondition_31 33 rfl (by decide) ?_
          refine pv_icmp_eq (M := mX7_readCondition) (tgt := 39) dX7_readCondition_33 36 rfl (by decide) (fun c54 => ?_) (fun c54 => ?_)
          · have c54 := iv_eq (X := v50.toInt) (Y := 124) c54 rfl (by decide)
            have kB : isB (tC m (m37 86 3).toInt) = true := isB_y (by omega)
            refine pv_aload_n (M := mX7_readCondition) 0 dX7_readCondition_39 40 rfl rfl rfl ?_
            refine mv_get (M := mX7_readCondition) (v := .ref lb) dX7_readCondition_40 FX7 1 wd281 (by decide) (tl86 hT) rfl R.2.2.2.1 43 rfl ?_
            refine pv_bipush (M := mX7_readCondition) (v := 124) dX7_readCondition_43 45 rfl (by decide) ?_
            refine pv_iconst (M := mX7_readCondition) (v := (-1)) dX7_readCondition_45 46 rfl (by decide) ?_
            have z56 : (124 : Int32).toInt = 124 := by decide
            have z57 : ((-1) : Int32).toInt = (-1) := by decide
            refine pv_callv (M := mX7_readCondition) (as := [.int 124, .int (-1)]) (st := []) (kc2 := 0) (ks2 := 0) dX7_readCondition_46 wd567 YX6_emit ⟨wd568, wd569⟩ (mk_get R.2.2.2.2.2.2.1) rfl rfl (s_X6_emit_vx g hT I39 lb R.2.2.2.2.2 124 (-1) (by decide) (by decide)) rfl rfl (Nat.le_of_ble_eq_true rfl) (by decide) rfl rfl 49 rfl (fun rv h1 q58 => ?_)
            obtain ⟨m59, n60, rfl, rfl, I61, K62, rm59⟩ := q58
            replace rm59 : (m59 lb 7).toInt = (m37 lb 7).toInt := rm59
            have K62c := K62
            have w63 : (m59 86 3).toInt = (m37 86 3).toInt := congrArg Int32.toInt (K62 86 3 (wr_out (by omega)))
            have w64 : (m59 86 2).toInt = (m37 86 2).toInt := congrArg Int32.toInt (K62 86 2 (wr_out (by omega)))
            have w65 : (m59 86 4).toInt = (m37 86 4).toInt := congrArg Int32.toInt (K62 86 4 (wr_out (by omega)))
            have K62 := K40.trans (K62.sub (by first | exact wR7_r (by omega) | exact wR7_wr))
            show PV _ _ _ _ _ _ _ 49 [.ref 86, .int 3, .int v3, .int y4] [] _
            refine pv_aload_n (M := mX7_readCondition) 0 dX7_readCondition_49 50 rfl rfl rfl ?_
            refine pv_dup (M := mX7_readCondition) dX7_readCondition_50 51 rfl rfl ?_
            refine iv_get (M := mX7_readCondition) (l1 := 0) (l2 := 160) dX7_readCondition_51 FX7 3 wd283 (by decide) (tl86 hT) rfl I61 rfl 54 rfl (fun v66 ev66 pv66 qv66 => ?_)
            have wv66 : v66.toInt = (m59 86 3).toInt := congrArg Int32.toInt ev66
            refine pv_iconst (M := mX7_readCondition) (v := 1) dX7_readCondition_54 55 rfl (by decide) ?_
            refine iv_iadd (M := mX7_readCondition) (X := v66.toInt) (Y := 1) dX7_readCondition_55 56 rfl rfl (by decide) (by omega) (by omega) (fun v67 ev67 => ?_)
            refine iv_put (M := mX7_readCondition) (l1 := 0) (l2 := 160) dX7_readCondition_56 FX7 3 wd283 (by decide) rfl (tl86 hT) rfl rfl rfl I61 rfl (by omega) (by omega) 59 rfl (fun m68 e71 I69 => ?_)
            have K70 := K62.set e71 (by decide)
            have w72 : (m68 86 3).toInt = v67.toInt := by rw [e71, up2_eq]
            have w73 : (m68 86 2).toInt = (m59 86 2).toInt := by rw [e71, up2_ne (by omega)]
            have w74 : (m68 86 4).toInt = (m59 86 4).toInt := by rw [e71, up2_ne (by omega)]
            have w75 : (m68 lb 7).toInt = (m59 lb 7).toInt := by rw [e71, up2_ne (by omega)]
            refine iv_inc (M := mX7_readCondition) (C := 1) dX7_readCondition_59 62 rfl rfl (by decide) rfl rfl (by decide) (by omega) (by omega) (fun v76 ev76 => ?_)
            show PV _ _ _ _ _ _ _ 62 [.ref 86, .int 3, .int v3, .int v76] [] _
            refine pv_goto (M := mX7_readCondition) (tgt := 10) dX7_readCondition_62 (by decide) ?_
            have kbc : CN (tC m) 3 (m 86 3).toInt = CN (tC m) 3 (m68 86 3).toInt := by rw [kgc, k27, LB_cn kTX (by omega) kB]; congr 1; omega
            exact ih11 v76 m68 n60 (by first | omega | assumption | exact (iv_rng _).2 | exact (iv_rng _).1 | decide) (by first | omega | assumption | exact (iv_rng _).2 | exact (iv_rng _).1 | decide) (by first | omega | assumption | (show (m68 86 3).toInt ≤ (m68 86 2).toInt; omega) | decide) (by first | omega | assumption | (show (m68 86 2).toInt = (m 86 2).toInt; omega) | decide) (by first | omega | assumption | (show (m68 lb 7).toInt = (m lb 7).toInt; omega) | decide) (by first | omega | assumption | (show (m 86 3).toInt + 2 * v76.toInt ≤ (m68 86 3).toInt; omega) | decide) kbc I69 K70 (by omega)
          · have c54 := iv_ne (X := v50.toInt) (Y := 124) c54 rfl (by decide)
            refine pv_goto (M := mX7_readCondition) (tgt := 65) dX7_readCondition_36 (by decide) ?_
            refine pv_aload_n (M := mX7_readCondition) 0 dX7_readCondition_65 66 rfl rfl rfl ?_
            refine mv_get (M := mX7_readCondition) (v := .ref lb) dX7_readCondition_66 FX7 1 wd281 (by decide) (tl86 hT) rfl R.2.2.2.1 69 rfl ?_
            refine pv_bipush (M := mX7_readCondition) (v := 124) dX7_readCondition_69 71 rfl (by decide) ?_
            refine pv_iload_n (M := mX7_readCondition) 2 dX7_readCondition_71 72 rfl rfl rfl ?_
            have z78 : (124 : Int32).toInt = 124 := by decide
            refine pv_callv (M := mX7_readCondition) (as := [.int 124, .int v3]) (st := []) (kc2 := 0) (ks2 := 0) dX7_readCondition_72 wd678 YX6_aimLeaps ⟨wd679, wd680⟩ (mk_get R.2.2.2.2.2.2.1) rfl rfl (s_X6_aimLeaps_vx g hT I39 lb R.2.2.2.2.2 124 v3) rfl rfl (Nat.le_of_ble_eq_true rfl) (by decide) rfl rfl 75 rfl (fun rv h1 q79 => ?_)
            obtain ⟨m80, n81, rfl, rfl, I82, K83, rm80⟩ := q79
            replace rm80 : (m80 lb 7).toInt = (m37 lb 7).toInt := rm80
            have K83c := K83
            have w84 : (m80 86 3).toInt = (m37 86 3).toInt := congrArg Int32.toInt (K83 86 3 (wr_out (by omega)))
            have w85 : (m80 86 2).toInt = (m37 86 2).toInt := congrArg Int32.toInt (K83 86 2 (wr_out (by omega)))
            have w86 : (m80 86 4).toInt = (m37 86 4).toInt := congrArg Int32.toInt (K83 86 4 (wr_out (by omega)))
            have K83 := K40.trans (K83.sub (by first | exact wR7_r (by omega) | exact wR7_wr))
            show PV _ _ _ _ _ _ _ 75 [.ref 86, .int 3, .int v3, .int y4] [] _
            refine pv_iconst (M := mX7_readCondition) (v := 1) dX7_readCondition_75 76 rfl (by decide) ?_
            have z87 : (1 : Int32).toInt = 1 := by decide
            exact pv_iret (M := mX7_readCondition) dX7_readCondition_76 rfl rfl ⟨_, _, _, rfl, rfl, I82, K83, by decide, by decide, ⟨by omega, by omega, by omega, (by first | exact Or.inl ⟨by decide, by rw [kgc, k27, LB_no (isB_no k27n (by rw [← k31]; omega))]; congr 1; omega⟩ | (exfalso; omega)), by omega⟩⟩
        · have c45 := iv_eq (X := v41.toInt) (Y := 0) c45 rfl (by decide)
          refine pv_iconst (M := mX7_readCondition) (v := 0) dX7_readCondition_25 26 rfl (by decide) ?_
          have z88 : (0 : Int32).toInt = 0 := by decide
          exact pv_iret (M := mX7_readCondition) dX7_readCondition_26 rfl rfl ⟨_, _, _, rfl, rfl, I39, K40, by decide, by decide, ⟨by omega, by omega, by omega, Or.inr ⟨by decide, by rw [kgc]; exact TRX_fl k22 (by omega)⟩, by omega⟩⟩
  have z89 : (0 : Int32).toInt = 0 := by decide
  exact lp10 (((160 - 0) : Int).toNat + 1) 0 m n (by first | omega | assumption | exact (iv_rng _).2 | exact (iv_rng _).1 | decide) (by first | omega | assumption | exact (iv_rng _).2 | exact (iv_rng _).1 | decide) (by first | omega | assumption | (show (m 86 3).toInt ≤ (m 86 2).toInt; omega) | decide) (by first | omega | assumption | (show (m 86 2).toInt = (m 86 2).toInt; omega) | decide) (by first | omega | assumption | (show (m lb 7).toInt = (m lb 7).toInt; omega) | decide) (by first | omega | assumption | (show (m 86 3).toInt + 2 * 0 ≤ (m 86 3).toInt; omega) | decide) rfl I Kp (by omega)

set_option maxHeartbeats 2000000 in
set_option maxRecDepth 20000 in
theorem s_X7_readPiece_v2x (g : pv_G) {T : List mv_T} {m : Nat → Nat → Int32} {n : Nat → Nat → Int64} {r : Nat → Value} {la lb : Nat} (hT : TX T) (I : IV BB m) (R : RX T r la lb) (hp0 : (m 86 3).toInt ≤ (m 86 2).toInt) (hp1 : TBC m) : PM g mX7_readPiece yX7_readPiece (sqI T BB wR7 r m 0 1 (fun m' v => (m 86 3).toInt ≤ (m' 86 3).toInt ∧ (m' 86 3).toInt ≤ (m' 86 2).toInt ∧ (m' 86 2).toInt = (m 86 2).toInt ∧ (RSX (PI (tC m) 4 (m 86 3).toInt) v.toInt (m' 86 3).toInt (m' 86 4).toInt) ∧ (m' lb 7).toInt = (m lb 7).toInt)) 20 0 0 [.ref 86, .int 2] (mk T m n r) := by
  have Kp : fr wR7 m m := fr.rf
  have R0 := R
  have zR := R.2.2.2.2.1.1
  have zR2 := R.2.2.2.2.2.1
  have z216 : 0 ≤ (m 86 3).toInt ∧ (m 86 3).toInt ≤ 160 := I 86 3
  have z217 : 0 ≤ (m 86 2).toInt ∧ (m 86 2).toInt ≤ 160 := I 86 2
  refine PM.of 1 (lo := [.ref 86, .int 2, pv_U]) rfl (by decide) rfl rfl (Nat.le_of_ble_eq_true rfl) ?_
  refine pv_aload_n (M := mX7_readPiece) 0 dX7_readPiece_0 1 rfl rfl rfl ?_
  refine pv_callv (M := mX7_readPiece) (as := []) (st := []) (kc2 := 0) (ks2 := 0) dX7_readPiece_1 wd527 YX7_peek ⟨wd529, wd2⟩ (mk_get (tl86 hT)) rfl rfl (s_X7_peek_vx g hT I R) rfl rfl (Nat.le_of_ble_eq_true rfl) (by decide) rfl rfl 4 rfl (fun rv h1 q1 => ?_)
  obtain ⟨v2, rfl, rfl, pv2, qv2, rv2⟩ := q1
  replace rv2 : v2.toInt = tC m (m 86 3).toInt ∧ (v2.toInt = -1 ∨ (m 86 3).toInt < (m 86 2).toInt) := rv2
  show PV _ _ _ _ _ _ _ 4 [.ref 86, .int 2, pv_U] [.int v2] _
  have k4 := rv2.1
  have k4b := rv2.2
  refine pv_bipush (M := mX7_readPiece) (v := 33) dX7_readPiece_4 6 rfl (by decide) ?_
  refine pv_icmp_ne (M := mX7_readPiece) (tgt := 41) dX7_readPiece_6 9 rfl (by decide) (fun c5 => ?_) (fun c5 => ?_)
  · have c5 := iv_ne (X := v2.toInt) (Y := 33) c5 rfl (by decide)
    have kn33 : tC m (m 86 3).toInt ≠ 33 := by omega
    refine pv_aload_n (M := mX7_readPiece) 0 dX7_readPiece_41 42 rfl rfl rfl ?_
    refine pv_callv (M := mX7_readPiece) (as := []) (st := []) (kc2 := 0) (ks2 := 0) dX7_readPiece_42 wd527 YX7_peek ⟨wd529, wd2⟩ (mk_get (tl86 hT)) rfl rfl (s_X7_peek_vx g hT I R) rfl rfl (Nat.le_of_ble_eq_true rfl) (by decide) rfl rfl 45 rfl (fun rv h1 q7 => ?_)
    obtain ⟨v8, rfl, rfl, pv8, qv8, rv8⟩ := q7
    replace rv8 : v8.toInt = tC m (m 86 3).toInt ∧ (v8.toInt = -1 ∨ (m 86 3).toInt < (m 86 2).toInt) := rv8
    show PV _ _ _ _ _ _ _ 45 [.ref 86, .int 2, pv_U] [.int v8] _
    have k45 := rv8.1
    have k45b := rv8.2
    refine pv_bipush (M := mX7_readPiece) (v := 40) dX7_readPiece_45 47 rfl (by decide) ?_
    refine pv_icmp_ne (M := mX7_readPiece) (tgt := 83) dX7_readPiece_47 50 rfl (by decide) (fun c11 => ?_) (fun c11 => ?_)
    · have c11 := iv_ne (X := v8.toInt) (Y := 40) c11 rfl (by decide)
      have kn40 : tC m (m 86 3).toInt ≠ 40 := by omega
      refine pv_aload_n (M := mX7_readPiece) 0 dX7_readPiece_83 84 rfl rfl rfl ?_
      refine pv_iload_n (M := mX7_readPiece) 1 dX7_readPiece_84 85 rfl rfl rfl ?_
      have z13 : (2 : Int32).toInt = 2 := by decide
      refine pv_callv (M := mX7_readPiece) (as := [.int 2]) (st := []) (kc2 := 0) (ks2 := 0) dX7_readPiece_85 wd539 YX7_readSum ⟨wd541, wd4⟩ (mk_get (tl86 hT)) rfl rfl (s_X7_readSum_v2x g hT I R (by first | omega | assumption | exact (iv_rng _).2 | exact (iv_rng _).1 | decide) hp1) rfl rfl (Nat.le_of_ble_eq_true rfl) (by decide) rfl rfl 88 rfl (fun rv h1 q14 => ?_)
      obtain ⟨m15, n16, v19, rfl, rfl, I17, K18, pv19, qv19, rv19⟩ := q14
      replace rv19 : (m 86 3).toInt ≤ (m15 86 3).toInt ∧ (m15 86 3).toInt ≤ (m15 86 2).toInt ∧ (m15 86 2).toInt = (m 86 2).toInt ∧ (RSX (SU (tC m) 4 (m 86 3).toInt) v19.toInt (m15 86 3).toInt (m15 86 4).toInt) ∧ (m15 lb 7).toInt = (m lb 7).toInt := by have q_ := rv19; (try rw [z13] at q_); exact q_
      have K18c := K18
      have K18 := Kp.trans (K18.sub (fun _ _ q => q))
      show PV _ _ _ _ _ _ _ 88 [.ref 86, .int 2, pv_U] [.int v19] _
      have k88 := rv19.2.2.2.1
      refine pv_if_ne (M := mX7_readPiece) (tgt := 93) dX7_readPiece_88 91 rfl (by decide) (fun c21 => ?_) (fun c21 => ?_)
      · have c21 := iv_ne (X := v19.toInt) (Y := 0) c21 rfl (by decide)
        have k93 := RSX_ok k88 (by omega)
        have kt93 : tC m15 = tC m := tC_eq (K18 86 2 rfl) (fun j => K18 87 j rfl)
        have kA93 : (m15 86 3).toInt = (m15 86 3).toInt := rfl
        refine pv_aload_n (M := mX7_readPiece) 0 dX7_readPiece_93 94 rfl rfl rfl ?_
        refine pv_callv (M := mX7_readPiece) (as := []) (st := []) (kc2 := 0) (ks2 := 0) dX7_readPiece_94 wd527 YX7_peek ⟨wd529, wd2⟩ (mk_get (tl86 hT)) rfl rfl (s_X7_peek_vx g hT I17 R) rfl rfl (Nat.le_of_ble_eq_true rfl) (by decide) rfl rfl 97 rfl (fun rv h1 q25 => ?_)
        obtain ⟨v26, rfl, rfl, pv26, qv26, rv26⟩ := q25
        replace rv26 : v26.toInt = tC m15 (m15 86 3).toInt ∧ (v26.toInt = -1 ∨ (m15 86 3).toInt < (m15 86 2).toInt) := rv26
        show PV _ _ _ _ _ _ _ 97 [.ref 86, .int 2, pv_U] [.int v26] _
        have k97 := rv26.1
        have k97b := rv26.2
        rw [kt93] at k97
        refine pv_istore_n (M := mX7_readPiece) 2 (lo2 := [.ref 86, .int 2, .int v26]) dX7_readPiece_97 98 rfl rfl (by decide) rfl rfl ?_
        refine pv_iload_n (M := mX7_readPiece) 2 dX7_readPiece_98 99 rfl rfl rfl ?_
        refine pv_bipush (M := mX7_readPiece) (v := 60) dX7_readPiece_99 101 rfl (by decide) ?_
        refine pv_icmp_eq (M := mX7_readPiece) (tgt := 122) dX7_readPiece_101 104 rfl (by decide) (fun c30 => ?_) (fun c30 => ?_)
        · have c30 := iv_eq (X := v26.toInt) (Y := 60) c30 rfl (by decide)
          have kC : isC (tC m (m15 86 3).toInt) = true := by rw [← k97]; exact isC_y (by omega)
          refine pv_aload_n (M := mX7_readPiece) 0 dX7_readPiece_122 123 rfl rfl rfl ?_
          refine pv_dup (M := mX7_readPiece) dX7_readPiece_123 124 rfl rfl ?_
          refine iv_get (M := mX7_readPiece) (l1 := 0) (l2 := 160) dX7_readPiece_124 FX7 3 wd283 (by decide) (tl86 hT) rfl I17 rfl 127 rfl (fun v32 ev32 pv32 qv32 => ?_)
          have wv32 : v32.toInt = (m15 86 3).toInt := congrArg Int32.toInt ev32
          refine pv_iconst (M := mX7_readPiece) (v := 1) dX7_readPiece_127 128 rfl (by decide) ?_
          refine iv_iadd (M := mX7_readPiece) (X := v32.toInt) (Y := 1) dX7_readPiece_128 129 rfl rfl (by decide) (by omega) (by omega) (fun v33 ev33 => ?_)
          refine iv_put (M := mX7_readPiece) (l1 := 0) (l2 := 160) dX7_readPiece_129 FX7 3 wd283 (by decide) rfl (tl86 hT) rfl rfl rfl I17 rfl (by omega) (by omega) 132 rfl (fun m34 e37 I35 => ?_)
          have K36 := K18.set e37 (by decide)
          have w38 : (m34 86 3).toInt = v33.toInt := by rw [e37, up2_eq]
          have w39 : (m34 86 2).toInt = (m15 86 2).toInt := by rw [e37, up2_ne (by omega)]
          have w40 : (m34 86 4).toInt = (m15 86 4).toInt := by rw [e37, up2_ne (by omega)]
          have w41 : (m34 lb 7).toInt = (m15 lb 7).toInt := by rw [e37, up2_ne (by omega)]
          have kt132 : tC m34 = tC m := tC_eq (K36 86 2 rfl) (fun j => K36 87 j rfl)
          have kp132 : (m34 86 3).toInt = (m15 86 3).toInt + 1 := by omega
          refine pv_aload_n (M := mX7_readPiece) 0 dX7_readPiece_132 133 rfl rfl rfl ?_
          refine pv_iload_n (M := mX7_readPiece) 1 dX7_readPiece_133 134 rfl rfl rfl ?_
          have z44 : (2 : Int32).toInt = 2 := by decide
          refine pv_callv (M := mX7_readPiece) (as := [.int 2]) (st := []) (kc2 := 0) (ks2 := 0) dX7_readPiece_134 wd539 YX7_readSum ⟨wd541, wd4⟩ (mk_get (tl86 hT)) rfl rfl (s_X7_readSum_v2x g hT I35 R (by first | omega | assumption | exact (iv_rng _).2 | exact (iv_rng _).1 | decide) (TBC_eq hp1 kt132)) rfl rfl (Nat.le_of_ble_eq_true rfl) (by decide) rfl rfl 137 rfl (fun rv h1 q45 => ?_)
          obtain ⟨m46, n47, v50, rfl, rfl, I48, K49, pv50, qv50, rv50⟩ := q45
          replace rv50 : (m34 86 3).toInt ≤ (m46 86 3).toInt ∧ (m46 86 3).toInt ≤ (m46 86 2).toInt ∧ (m46 86 2).toInt = (m34 86 2).toInt ∧ (RSX (SU (tC m34) 4 (m34 86 3).toInt) v50.toInt (m46 86 3).toInt (m46 86 4).toInt) ∧ (m46 lb 7).toInt = (m34 lb 7).toInt := by have q_ := rv50; (try rw [z44] at q_); exact q_
          have K49c := K49
          have K49 := K36.trans (K49.sub (fun _ _ q => q))
          show PV _ _ _ _ _ _ _ 137 [.ref 86, .int 2, .int v26] [.int v50] _
          have k137 := rv50.2.2.2.1
          rw [kt132, kp132] at k137
          refine pv_if_ne (M := mX7_readPiece) (tgt := 142) dX7_readPiece_137 140 rfl (by decide) (fun c53 => ?_) (fun c53 => ?_)
          · have c53 := iv_ne (X := v50.toInt) (Y := 0) c53 rfl (by decide)
            refine pv_aload_n (M := mX7_readPiece) 0 dX7_readPiece_142 143 rfl rfl rfl ?_
            refine mv_get (M := mX7_readPiece) (v := .ref lb) dX7_readPiece_143 FX7 1 wd281 (by decide) (tl86 hT) rfl R.2.2.2.1 146 rfl ?_
            refine pv_iload_n (M := mX7_readPiece) 2 dX7_readPiece_146 147 rfl rfl rfl ?_
            refine pv_iconst (M := mX7_readPiece) (v := 0) dX7_readPiece_147 148 rfl (by decide) ?_
            have z54 : (0 : Int32).toInt = 0 := by decide
            refine pv_callv (M := mX7_readPiece) (as := [.int v26, .int 0]) (st := []) (kc2 := 0) (ks2 := 0) dX7_readPiece_148 wd567 YX6_emit ⟨wd568, wd569⟩ (mk_get R.2.2.2.2.2.2.1) rfl rfl (s_X6_emit_vx g hT I48 lb R.2.2.2.2.2 v26 0 (by decide) (by decide)) rfl rfl (Nat.le_of_ble_eq_true rfl) (by decide) rfl rfl 151 rfl (fun rv h1 q55 => ?_)
            obtain ⟨m56, n57, rfl, rfl, I58, K59, rm56⟩ := q55
            replace rm56 : (m56 lb 7).toInt = (m46 lb 7).toInt := rm56
            have K59c := K59
            have w60 : (m56 86 3).toInt = (m46 86 3).toInt := congrArg Int32.toInt (K59 86 3 (wr_out (by omega)))
            have w61 : (m56 86 2).toInt = (m46 86 2).toInt := congrArg Int32.toInt (K59 86 2 (wr_out (by omega)))
            have w62 : (m56 86 4).toInt = (m46 86 4).toInt := congrArg Int32.toInt (K59 86 4 (wr_out (by omega)))
            have K59 := K49.trans (K59.sub (by first | exact wR7_r (by omega) | exact wR7_wr))
            show PV _ _ _ _ _ _ _ 151 [.ref 86, .int 2, .int v26] [] _
            refine pv_iconst (M := mX7_readPiece) (v := 1) dX7_readPiece_151 152 rfl (by decide) ?_
            have z63 : (1 : Int32).toInt = 1 := by decide
            exact pv_iret (M := mX7_readPiece) dX7_readPiece_152 rfl rfl ⟨_, _, _, rfl, rfl, I58, K59, by decide, by decide, ⟨by omega, by omega, by omega, Or.inl ⟨by decide, by rw [PI_cm kn33 kn40, CM_ok k93 kC, RSX_ok k137 (by omega), show (m46 86 3).toInt = (m56 86 3).toInt by omega]⟩, by omega⟩⟩
          · have c53 := iv_eq (X := v50.toInt) (Y := 0) c53 rfl (by decide)
            refine pv_iconst (M := mX7_readPiece) (v := 0) dX7_readPiece_140 141 rfl (by decide) ?_
            have z64 : (0 : Int32).toInt = 0 := by decide
            exact pv_iret (M := mX7_readPiece) dX7_readPiece_141 rfl rfl ⟨_, _, _, rfl, rfl, I48, K49, by decide, by decide, ⟨by omega, by omega, by omega, Or.inr ⟨by decide, by rw [PI_cm kn33 kn40, CM_ok k93 kC]; exact RSX_fl k137 (by omega)⟩, by omega⟩⟩
        · have c30 := iv_ne (X := v26.toInt) (Y := 60) c30 rfl (by decide)
          refine pv_iload_n (M := mX7_readPiece) 2 dX7_readPiece_104 105 rfl rfl rfl ?_
          refine pv_bipush (M := mX7_readPiece) (v := 62) dX7_readPiece_105 107 rfl (by decide) ?_
          refine pv_icmp_eq (M := mX7_readPiece) (tgt := 122) dX7_readPiece_107 110 rfl (by decide) (fun c65 => ?_) (fun c65 => ?_)
          · have c65 := iv_eq (X := v26.toInt) (Y := 62) c65 rfl (by decide)
            have kC : isC (tC m (m15 86 3).toInt) = true := by rw [← k97]; exact isC_y (by omega)
            refine pv_aload_n (M := mX7_readPiece) 0 dX7_readPiece_122 123 rfl rfl rfl ?_
            refine pv_dup (M := mX7_readPiece) dX7_readPiece_123 124 rfl rfl ?_
            refine iv_get (M := mX7_readPiece) (l1 := 0) (l2 := 160) dX7_readPiece_124 FX7 3 wd283 (by decide) (tl86 hT) rfl I17 rfl 127 rfl (fun v67 ev67 pv67 qv67 => ?_)
            have wv67 : v67.toInt = (m15 86 3).toInt := congrArg Int32.toInt ev67
            refine pv_iconst (M := mX7_readPiece) (v := 1) dX7_readPiece_127 128 rfl (by decide) ?_
            refine iv_iadd (M := mX7_readPiece) (X := v67.toInt) (Y := 1) dX7_readPiece_128 129 rfl rfl (by decide) (by omega) (by omega) (fun v68 ev68 => ?_)
            refine iv_put (M := mX7_readPiece) (l1 := 0) (l2 := 160) dX7_readPiece_129 FX7 3 wd283 (by decide) rfl (tl86 hT) rfl rfl rfl I17 rfl (by omega) (by omega) 132 rfl (fun m69 e72 I70 => ?_)
            have K71 := K18.set e72 (by decide)
            have w73 : (m69 86 3).toInt = v68.toInt := by rw [e72, up2_eq]
            have w74 : (m69 86 2).toInt = (m15 86 2).toInt := by rw [e72, up2_ne (by omega)]
            have w75 : (m69 86 4).toInt = (m15 86 4).toInt := by rw [e72, up2_ne (by omega)]
            have w76 : (m69 lb 7).toInt = (m15 lb 7).toInt := by rw [e72, up2_ne (by omega)]
            have kt132 : tC m69 = tC m := tC_eq (K71 86 2 rfl) (fun j => K71 87 j rfl)
            have kp132 : (m69 86 3).toInt = (m15 86 3).toInt + 1 := by omega
            refine pv_aload_n (M := mX7_readPiece) 0 dX7_readPiece_132 133 rfl rfl rfl ?_
            refine pv_iload_n (M := mX7_readPiece) 1 dX7_readPiece_133 134 rfl rfl rfl ?_
            have z79 : (2 : Int32).toInt = 2 := by decide
            refine pv_callv (M := mX7_readPiece) (as := [.int 2]) (st := []) (kc2 := 0) (ks2 := 0) dX7_readPiece_134 wd539 YX7_readSum ⟨wd541, wd4⟩ (mk_get (tl86 hT)) rfl rfl (s_X7_readSum_v2x g hT I70 R (by first | omega | assumption | exact (iv_rng _).2 | exact (iv_rng _).1 | decide) (TBC_eq hp1 kt132)) rfl rfl (Nat.le_of_ble_eq_true rfl) (by decide) rfl rfl 137 rfl (fun rv h1 q80 => ?_)
            obtain ⟨m81, n82, v85, rfl, rfl, I83, K84, pv85, qv85, rv85⟩ := q80
            replace rv85 : (m69 86 3).toInt ≤ (m81 86 3).toInt ∧ (m81 86 3).toInt ≤ (m81 86 2).toInt ∧ (m81 86 2).toInt = (m69 86 2).toInt ∧ (RSX (SU (tC m69) 4 (m69 86 3).toInt) v85.toInt (m81 86 3).toInt (m81 86 4).toInt) ∧ (m81 lb 7).toInt = (m69 lb 7).toInt := by have q_ := rv85; (try rw [z79] at q_); exact q_
            have K84c := K84
            have K84 := K71.trans (K84.sub (fun _ _ q => q))
            show PV _ _ _ _ _ _ _ 137 [.ref 86, .int 2, .int v26] [.int v85] _
            have k137 := rv85.2.2.2.1
            rw [kt132, kp132] at k137
            refine pv_if_ne (M := mX7_readPiece) (tgt := 142) dX7_readPiece_137 140 rfl (by decide) (fun c88 => ?_) (fun c88 => ?_)
            · have c88 := iv_ne (X := v85.toInt) (Y := 0) c88 rfl (by decide)
              refine pv_aload_n (M := mX7_readPiece) 0 dX7_readPiece_142 143 rfl rfl rfl ?_
              refine mv_get (M := mX7_readPiece) (v := .ref lb) dX7_readPiece_143 FX7 1 wd281 (by decide) (tl86 hT) rfl R.2.2.2.1 146 rfl ?_
              refine pv_iload_n (M := mX7_readPiece) 2 dX7_readPiece_146 147 rfl rfl rfl ?_
              refine pv_iconst (M := mX7_readPiece) (v := 0) dX7_readPiece_147 148 rfl (by decide) ?_
              have z89 : (0 : Int32).toInt = 0 := by decide
              refine pv_callv (M := mX7_readPiece) (as := [.int v26, .int 0]) (st := []) (kc2 := 0) (ks2 := 0) dX7_readPiece_148 wd567 YX6_emit ⟨wd568, wd569⟩ (mk_get R.2.2.2.2.2.2.1) rfl rfl (s_X6_emit_vx g hT I83 lb R.2.2.2.2.2 v26 0 (by decide) (by decide)) rfl rfl (Nat.le_of_ble_eq_true rfl) (by decide) rfl rfl 151 rfl (fun rv h1 q90 => ?_)
              obtain ⟨m91, n92, rfl, rfl, I93, K94, rm91⟩ := q90
              replace rm91 : (m91 lb 7).toInt = (m81 lb 7).toInt := rm91
              have K94c := K94
              have w95 : (m91 86 3).toInt = (m81 86 3).toInt := congrArg Int32.toInt (K94 86 3 (wr_out (by omega)))
              have w96 : (m91 86 2).toInt = (m81 86 2).toInt := congrArg Int32.toInt (K94 86 2 (wr_out (by omega)))
              have w97 : (m91 86 4).toInt = (m81 86 4).toInt := congrArg Int32.toInt (K94 86 4 (wr_out (by omega)))
              have K94 := K84.trans (K94.sub (by first | exact wR7_r (by omega) | exact wR7_wr))
              show PV _ _ _ _ _ _ _ 151 [.ref 86, .int 2, .int v26] [] _
              refine pv_iconst (M := mX7_readPiece) (v := 1) dX7_readPiece_151 152 rfl (by decide) ?_
              have z98 : (1 : Int32).toInt = 1 := by decide
              exact pv_iret (M := mX7_readPiece) dX7_readPiece_152 rfl rfl ⟨_, _, _, rfl, rfl, I93, K94, by decide, by decide, ⟨by omega, by omega, by omega, Or.inl ⟨by decide, by rw [PI_cm kn33 kn40, CM_ok k93 kC, RSX_ok k137 (by omega), show (m81 86 3).toInt = (m91 86 3).toInt by omega]⟩, by omega⟩⟩
            · have c88 := iv_eq (X := v85.toInt) (Y := 0) c88 rfl (by decide)
              refine pv_iconst (M := mX7_readPiece) (v := 0) dX7_readPiece_140 141 rfl (by decide) ?_
              have z99 : (0 : Int32).toInt = 0 := by decide
              exact pv_iret (M := mX7_readPiece) dX7_readPiece_141 rfl rfl ⟨_, _, _, rfl, rfl, I83, K84, by decide, by decide, ⟨by omega, by omega, by omega, Or.inr ⟨by decide, by rw [PI_cm kn33 kn40, CM_ok k93 kC]; exact RSX_fl k137 (by omega)⟩, by omega⟩⟩
          · have c65 := iv_ne (X := v26.toInt) (Y := 62) c65 rfl (by decide)
            refine pv_iload_n (M := mX7_readPiece) 2 dX7_readPiece_110 111 rfl rfl rfl ?_
            refine pv_bipush (M := mX7_readPiece) (v := 61) dX7_readPiece_111 113 rfl (by decide) ?_
            refine pv_icmp_eq (M := mX7_readPiece) (tgt := 122) dX7_readPiece_113 116 rfl (by decide) (fun c100 => ?_) (fun c100 => ?_)
            · have c100 := iv_eq (X := v26.toInt) (Y := 61) c100 rfl (by decide)
              have kC : isC (tC m (m15 86 3).toInt) = true := by rw [← k97]; exact isC_y (by omega)
              refine pv_aload_n (M := mX7_readPiece) 0 dX7_readPiece_122 123 rfl rfl rfl ?_
              refine pv_dup (M := mX7_readPiece) dX7_readPiece_123 124 rfl rfl ?_
              refine iv_get (M := mX7_readPiece) (l1 := 0) (l2 := 160) dX7_readPiece_124 FX7 3 wd283 (by decide) (tl86 hT) rfl I17 rfl 127 rfl (fun v102 ev102 pv102 qv102 => ?_)
              have wv102 : v102.toInt = (m15 86 3).toInt := congrArg Int32.toInt ev102
              refine pv_iconst (M := mX7_readPiece) (v := 1) dX7_readPiece_127 128 rfl (by decide) ?_
              refine iv_iadd (M := mX7_readPiece) (X := v102.toInt) (Y := 1) dX7_readPiece_128 129 rfl rfl (by decide) (by omega) (by omega) (fun v103 ev103 => ?_)
              refine iv_put (M := mX7_readPiece) (l1 := 0) (l2 := 160) dX7_readPiece_129 FX7 3 wd283 (by decide) rfl (tl86 hT) rfl rfl rfl I17 rfl (by omega) (by omega) 132 rfl (fun m104 e107 I105 => ?_)
              have K106 := K18.set e107 (by decide)
              have w108 : (m104 86 3).toInt = v103.toInt := by rw [e107, up2_eq]
              have w109 : (m104 86 2).toInt = (m15 86 2).toInt := by rw [e107, up2_ne (by omega)]
              have w110 : (m104 86 4).toInt = (m15 86 4).toInt := by rw [e107, up2_ne (by omega)]
              have w111 : (m104 lb 7).toInt = (m15 lb 7).toInt := by rw [e107, up2_ne (by omega)]
              have kt132 : tC m104 = tC m := tC_eq (K106 86 2 rfl) (fun j => K106 87 j rfl)
              have kp132 : (m104 86 3).toInt = (m15 86 3).toInt + 1 := by omega
              refine pv_aload_n (M := mX7_readPiece) 0 dX7_readPiece_132 133 rfl rfl rfl ?_
              refine pv_iload_n (M := mX7_readPiece) 1 dX7_readPiece_133 134 rfl rfl rfl ?_
              have z114 : (2 : Int32).toInt = 2 := by decide
              refine pv_callv (M := mX7_readPiece) (as := [.int 2]) (st := []) (kc2 := 0) (ks2 := 0) dX7_readPiece_134 wd539 YX7_readSum ⟨wd541, wd4⟩ (mk_get (tl86 hT)) rfl rfl (s_X7_readSum_v2x g hT I105 R (by first | omega | assumption | exact (iv_rng _).2 | exact (iv_rng _).1 | decide) (TBC_eq hp1 kt132)) rfl rfl (Nat.le_of_ble_eq_true rfl) (by decide) rfl rfl 137 rfl (fun rv h1 q115 => ?_)
              obtain ⟨m116, n117, v120, rfl, rfl, I118, K119, pv120, qv120, rv120⟩ := q115
              replace rv120 : (m104 86 3).toInt ≤ (m116 86 3).toInt ∧ (m116 86 3).toInt ≤ (m116 86 2).toInt ∧ (m116 86 2).toInt = (m104 86 2).toInt ∧ (RSX (SU (tC m104) 4 (m104 86 3).toInt) v120.toInt (m116 86 3).toInt (m116 86 4).toInt) ∧ (m116 lb 7).toInt = (m104 lb 7).toInt := by have q_ := rv120; (try rw [z114] at q_); exact q_
              have K119c := K119
              have K119 := K106.trans (K119.sub (fun _ _ q => q))
              show PV _ _ _ _ _ _ _ 137 [.ref 86, .int 2, .int v26] [.int v120] _
              have k137 := rv120.2.2.2.1
              rw [kt132, kp132] at k137
              refine pv_if_ne (M := mX7_readPiece) (tgt := 142) dX7_readPiece_137 140 rfl (by decide) (fun c123 => ?_) (fun c123 => ?_)
              · have c123 := iv_ne (X := v120.toInt) (Y := 0) c123 rfl (by decide)
                refine pv_aload_n (M := mX7_readPiece) 0 dX7_readPiece_142 143 rfl rfl rfl ?_
                refine mv_get (M := mX7_readPiece) (v := .ref lb) dX7_readPiece_143 FX7 1 wd281 (by decide) (tl86 hT) rfl R.2.2.2.1 146 rfl ?_
                refine pv_iload_n (M := mX7_readPiece) 2 dX7_readPiece_146 147 rfl rfl rfl ?_
                refine pv_iconst (M := mX7_readPiece) (v := 0) dX7_readPiece_147 148 rfl (by decide) ?_
                have z124 : (0 : Int32).toInt = 0 := by decide
                refine pv_callv (M := mX7_readPiece) (as := [.int v26, .int 0]) (st := []) (kc2 := 0) (ks2 := 0) dX7_readPiece_148 wd567 YX6_emit ⟨wd568, wd569⟩ (mk_get R.2.2.2.2.2.2.1) rfl rfl (s_X6_emit_vx g hT I118 lb R.2.2.2.2.2 v26 0 (by decide) (by decide)) rfl rfl (Nat.le_of_ble_eq_true rfl) (by decide) rfl rfl 151 rfl (fun rv h1 q125 => ?_)
                obtain ⟨m126, n127, rfl, rfl, I128, K129, rm126⟩ := q125
                replace rm126 : (m126 lb 7).toInt = (m116 lb 7).toInt := rm126
                have K129c := K129
                have w130 : (m126 86 3).toInt = (m116 86 3).toInt := congrArg Int32.toInt (K129 86 3 (wr_out (by omega)))
                have w131 : (m126 86 2).toInt = (m116 86 2).toInt := congrArg Int32.toInt (K129 86 2 (wr_out (by omega)))
                have w132 : (m126 86 4).toInt = (m116 86 4).toInt := congrArg Int32.toInt (K129 86 4 (wr_out (by omega)))
                have K129 := K119.trans (K129.sub (by first | exact wR7_r (by omega) | exact wR7_wr))
                show PV _ _ _ _ _ _ _ 151 [.ref 86, .int 2, .int v26] [] _
                refine pv_iconst (M := mX7_readPiece) (v := 1) dX7_readPiece_151 152 rfl (by decide) ?_
                have z133 : (1 : Int32).toInt = 1 := by decide
                exact pv_iret (M := mX7_readPiece) dX7_readPiece_152 rfl rfl ⟨_, _, _, rfl, rfl, I128, K129, by decide, by decide, ⟨by omega, by omega, by omega, Or.inl ⟨by decide, by rw [PI_cm kn33 kn40, CM_ok k93 kC, RSX_ok k137 (by omega), show (m116 86 3).toInt = (m126 86 3).toInt by omega]⟩, by omega⟩⟩
              · have c123 := iv_eq (X := v120.toInt) (Y := 0) c123 rfl (by decide)
                refine pv_iconst (M := mX7_readPiece) (v := 0) dX7_readPiece_140 141 rfl (by decide) ?_
                have z134 : (0 : Int32).toInt = 0 := by decide
                exact pv_iret (M := mX7_readPiece) dX7_readPiece_141 rfl rfl ⟨_, _, _, rfl, rfl, I118, K119, by decide, by decide, ⟨by omega, by omega, by omega, Or.inr ⟨by decide, by rw [PI_cm kn33 kn40, CM_ok k93 kC]; exact RSX_fl k137 (by omega)⟩, by omega⟩⟩
            · have c100 := iv_ne (X := v26.toInt) (Y := 61) c100 rfl (by decide)
              refine pv_aload_n (M := mX7_readPiece) 0 dX7_readPiece_116 117 rfl rfl rfl ?_
              refine pv_iconst (M := mX7_readPiece) (v := 1) dX7_readPiece_117 118 rfl (by decide) ?_
              have z135 : (1 : Int32).toInt = 1 := by decide
              refine pv_callv (M := mX7_readPiece) (as := [.int 1]) (st := []) (kc2 := 0) (ks2 := 0) dX7_readPiece_118 wd531 YX7_fail ⟨wd533, wd3⟩ (mk_get (tl86 hT)) rfl rfl (s_X7_fail_vx g hT I17 R 1 (by decide) (by decide) (by first | omega | assumption | exact (iv_rng _).2 | exact (iv_rng _).1 | decide)) rfl rfl (Nat.le_of_ble_eq_true rfl) (by decide) rfl rfl 121 rfl (fun rv h1 q136 => ?_)
              obtain ⟨m137, n138, v141, rfl, rfl, I139, K140, pv141, qv141, rv141⟩ := q136
              replace rv141 : (m15 86 3).toInt ≤ (m137 86 3).toInt ∧ (m137 86 3).toInt ≤ (m137 86 2).toInt ∧ (m137 86 2).toInt = (m15 86 2).toInt ∧ (v141.toInt = 0 ∧ (m137 86 3).toInt = (m15 86 3).toInt ∧ (m137 86 4).toInt = -1000 * (1 : Int) - (m15 86 3).toInt) ∧ (m137 lb 7).toInt = (m15 lb 7).toInt := by have q_ := rv141; (try rw [z135] at q_); exact q_
              have K140c := K140
              have K140 := K18.trans (K140.sub (fun _ _ q => q))
              show PV _ _ _ _ _ _ _ 121 [.ref 86, .int 2, .int v26] [.int v141] _
              exact pv_iret (M := mX7_readPiece) dX7_readPiece_121 rfl (iv_nz (by omega) (by omega)) ⟨_, _, _, rfl, rfl, I139, K140, by omega, by omega, ⟨by omega, by omega, by omega, Or.inr ⟨by omega, by rw [PI_cm kn33 kn40]; exact CM_no k93 (isC_no (by omega) (by omega) (by omega)) (by omega)⟩, by omega⟩⟩
      · have c21 := iv_eq (X := v19.toInt) (Y := 0) c21 rfl (by decide)
        refine pv_iconst (M := mX7_readPiece) (v := 0) dX7_readPiece_91 92 rfl (by decide) ?_
        have z142 : (0 : Int32).toInt = 0 := by decide
        exact pv_iret (M := mX7_readPiece) dX7_readPiece_92 rfl rfl ⟨_, _, _, rfl, rfl, I17, K18, by decide, by decide, ⟨by omega, by omega, by omega, Or.inr ⟨by decide, by rw [PI_cm kn33 kn40]; exact CM_fl (RSX_fl k88 (by omega))⟩, by omega⟩⟩
    · have c11 := iv_eq (X := v8.toInt) (Y := 40) c11 rfl (by decide)
      have k40 : tC m (m 86 3).toInt = 40 := by omega
      refine pv_aload_n (M := mX7_readPiece) 0 dX7_readPiece_50 51 rfl rfl rfl ?_
      refine pv_iload_n (M := mX7_readPiece) 1 dX7_readPiece_51 52 rfl rfl rfl ?_
      have z144 : (2 : Int32).toInt = 2 := by decide
      refine pv_callv (M := mX7_readPiece) (as := [.int 2]) (st := []) (kc2 := 0) (ks2 := 0) dX7_readPiece_52 wd551 YX7_open ⟨wd553, wd7⟩ (mk_get (tl86 hT)) rfl rfl (s_X7_open_vx g hT I R 2 (by decide) (by decide) (by first | omega | assumption | exact (iv_rng _).2 | exact (iv_rng _).1 | decide)) rfl rfl (Nat.le_of_ble_eq_true rfl) (by decide) rfl rfl 55 rfl (fun rv h1 q145 => ?_)
      obtain ⟨m146, n147, v150, rfl, rfl, I148, K149, pv150, qv150, rv150⟩ := q145
      replace rv150 : (v150 = 0 ∨ (2 : Int) ≤ 5) ∧ (m 86 3).toInt ≤ (m146 86 3).toInt ∧ (m146 86 3).toInt ≤ (m146 86 2).toInt ∧ (m146 86 2).toInt = (m 86 2).toInt ∧ ((v150.toInt = 1 ∧ (2 : Int) ≤ 5 ∧ (m146 86 3).toInt = (m 86 3).toInt + 1) ∨ (v150.toInt = 0 ∧ 6 ≤ (2 : Int) ∧ (m146 86 4).toInt = -5000 - (m 86 3).toInt ∧ (m146 86 3).toInt = (m 86 3).toInt)) ∧ (m146 lb 7).toInt = (m lb 7).toInt := by have q_ := rv150; (try rw [z144] at q_); exact q_
      have K149c := K149
      have K149 := Kp.trans (K149.sub (fun _ _ q => q))
      show PV _ _ _ _ _ _ _ 55 [.ref 86, .int 2, pv_U] [.int v150] _
      refine pv_if_eq (M := mX7_readPiece) (tgt := 81) dX7_readPiece_55 58 rfl (by decide) (fun c151 => ?_) (fun c151 => ?_)
      · have c151 := iv_eq (X := v150.toInt) (Y := 0) c151 rfl (by decide)
        refine pv_iconst (M := mX7_readPiece) (v := 0) dX7_readPiece_81 82 rfl (by decide) ?_
        have z152 : (0 : Int32).toInt = 0 := by decide
        exact pv_iret (M := mX7_readPiece) dX7_readPiece_82 rfl rfl ⟨_, _, _, rfl, rfl, I148, K149, by decide, by decide, ⟨by omega, by omega, by omega, (by first | exact Or.inr ⟨by decide, PX_deep (Or.inr k40) (by omega)⟩ | exact Or.inr ⟨by decide, PX_cn k40 k68 (fun z => by omega) (by omega)⟩ | exact Or.inl ⟨by decide, PX_co k40 k68 (by omega) (by omega)⟩ | exact Or.inr ⟨by decide, PX_con k40 (RSX_fl k65 (by omega))⟩ | (exfalso; omega)), by omega⟩⟩
      · have pc151 := rv150.1.resolve_left c151
        have c151 := iv_ne (X := v150.toInt) (Y := 0) c151 rfl (by decide)
        have kt58 : tC m146 = tC m := tC_eq (K149 86 2 rfl) (fun j => K149 87 j rfl)
        have kp58 : (m146 86 3).toInt = (m 86 3).toInt + 1 := by omega
        refine pv_aload_n (M := mX7_readPiece) 0 dX7_readPiece_58 59 rfl rfl rfl ?_
        refine pv_iload_n (M := mX7_readPiece) 1 dX7_readPiece_59 60 rfl rfl rfl ?_
        refine pv_iconst (M := mX7_readPiece) (v := 1) dX7_readPiece_60 61 rfl (by decide) ?_
        refine pv_iadd (M := mX7_readPiece) (v := 3) dX7_readPiece_61 62 rfl (by decide) ?_
        have z156 : (3 : Int32).toInt = 3 := by decide
        refine pv_callv (M := mX7_readPiece) (as := [.int 3]) (st := []) (kc2 := 0) (ks2 := 0) dX7_readPiece_62 wd662 YX7_readCondition ⟨wd664, wd12⟩ (mk_get (tl86 hT)) rfl rfl (s_X7_readCondition_v3x g hT I148 R (by first | omega | assumption | exact (iv_rng _).2 | exact (iv_rng _).1 | decide) (TBC_eq hp1 kt58)) rfl rfl (Nat.le_of_ble_eq_true rfl) (by decide) rfl rfl 65 rfl (fun rv h1 q157 => ?_)
        obtain ⟨m158, n159, v162, rfl, rfl, I160, K161, pv162, qv162, rv162⟩ := q157
        replace rv162 : (m146 86 3).toInt ≤ (m158 86 3).toInt ∧ (m158 86 3).toInt ≤ (m158 86 2).toInt ∧ (m158 86 2).toInt = (m146 86 2).toInt ∧ (RSX (CN (tC m146) 3 (m146 86 3).toInt) v162.toInt (m158 86 3).toInt (m158 86 4).toInt) ∧ (m158 lb 7).toInt = (m146 lb 7).toInt := by have q_ := rv162; (try rw [z156] at q_); exact q_
        have K161c := K161
        have K161 := K149.trans (K161.sub (fun _ _ q => q))
        show PV _ _ _ _ _ _ _ 65 [.ref 86, .int 2, pv_U] [.int v162] _
        have k65 := rv162.2.2.2.1
        rw [kt58, kp58] at k65
        refine pv_if_eq (M := mX7_readPiece) (tgt := 81) dX7_readPiece_65 68 rfl (by decide) (fun c165 => ?_) (fun c165 => ?_)
        · have c165 := iv_eq (X := v162.toInt) (Y := 0) c165 rfl (by decide)
          refine pv_iconst (M := mX7_readPiece) (v := 0) dX7_readPiece_81 82 rfl (by decide) ?_
          have z166 : (0 : Int32).toInt = 0 := by decide
          exact pv_iret (M := mX7_readPiece) dX7_readPiece_82 rfl rfl ⟨_, _, _, rfl, rfl, I160, K161, by decide, by decide, ⟨by omega, by omega, by omega, (by first | exact Or.inr ⟨by decide, PX_deep (Or.inr k40) (by omega)⟩ | exact Or.inr ⟨by decide, PX_cn k40 k68 (fun z => by omega) (by omega)⟩ | exact Or.inl ⟨by decide, PX_co k40 k68 (by omega) (by omega)⟩ | exact Or.inr ⟨by decide, PX_con k40 (RSX_fl k65 (by omega))⟩ | (exfalso; omega)), by omega⟩⟩
        · have c165 := iv_ne (X := v162.toInt) (Y := 0) c165 rfl (by decide)
          have k68 := RSX_ok k65 (by omega)
          have kt68 : tC m158 = tC m := tC_eq (K161 86 2 rfl) (fun j => K161 87 j rfl)
          refine pv_aload_n (M := mX7_readPiece) 0 dX7_readPiece_68 69 rfl rfl rfl ?_
          refine pv_bipush (M := mX7_readPiece) (v := 41) dX7_readPiece_69 71 rfl (by decide) ?_
          have z169 : (41 : Int32).toInt = 41 := by decide
          refine pv_callv (M := mX7_readPiece) (as := [.int 41]) (st := []) (kc2 := 0) (ks2 := 0) dX7_readPiece_71 wd555 YX7_pass ⟨wd557, wd8⟩ (mk_get (tl86 hT)) rfl rfl (s_X7_pass_vx g hT I160 R 41 (by decide) (by decide) (by first | omega | assumption | exact (iv_rng _).2 | exact (iv_rng _).1 | decide)) rfl rfl (Nat.le_of_ble_eq_true rfl) (by decide) rfl rfl 74 rfl (fun rv h1 q170 => ?_)
          obtain ⟨m171, n172, v175, rfl, rfl, I173, K174, pv175, qv175, rv175⟩ := q170
          replace rv175 : (m158 86 3).toInt ≤ (m171 86 3).toInt ∧ (m171 86 3).toInt ≤ (m171 86 2).toInt ∧ (m171 86 2).toInt = (m158 86 2).toInt ∧ ((v175.toInt = 1 ∧ tC m158 (m158 86 3).toInt = (41 : Int) ∧ (m171 86 3).toInt = (m158 86 3).toInt + 1) ∨ (v175.toInt = 0 ∧ tC m158 (m158 86 3).toInt ≠ (41 : Int) ∧ (m171 86 4).toInt = -1000 - (m158 86 3).toInt ∧ (m171 86 3).toInt = (m158 86 3).toInt)) ∧ (m171 lb 7).toInt = (m158 lb 7).toInt := by have q_ := rv175; (try rw [z169] at q_); exact q_
          have K174c := K174
          have K174 := K161.trans (K174.sub (fun _ _ q => q))
          show PV _ _ _ _ _ _ _ 74 [.ref 86, .int 2, pv_U] [.int v175] _
          have k74 := rv175.2.2.2.1
          rw [kt68] at k74
          refine pv_if_eq (M := mX7_readPiece) (tgt := 81) dX7_readPiece_74 77 rfl (by decide) (fun c178 => ?_) (fun c178 => ?_)
          · have c178 := iv_eq (X := v175.toInt) (Y := 0) c178 rfl (by decide)
            refine pv_iconst (M := mX7_readPiece) (v := 0) dX7_readPiece_81 82 rfl (by decide) ?_
            have z179 : (0 : Int32).toInt = 0 := by decide
            exact pv_iret (M := mX7_readPiece) dX7_readPiece_82 rfl rfl ⟨_, _, _, rfl, rfl, I173, K174, by decide, by decide, ⟨by omega, by omega, by omega, (by first | exact Or.inr ⟨by decide, PX_deep (Or.inr k40) (by omega)⟩ | exact Or.inr ⟨by decide, PX_cn k40 k68 (fun z => by omega) (by omega)⟩ | exact Or.inl ⟨by decide, PX_co k40 k68 (by omega) (by omega)⟩ | exact Or.inr ⟨by decide, PX_con k40 (RSX_fl k65 (by omega))⟩ | (exfalso; omega)), by omega⟩⟩
          · have c178 := iv_ne (X := v175.toInt) (Y := 0) c178 rfl (by decide)
            refine pv_iconst (M := mX7_readPiece) (v := 1) dX7_readPiece_77 78 rfl (by decide) ?_
            refine pv_goto (M := mX7_readPiece) (tgt := 82) dX7_readPiece_78 (by decide) ?_
            have z180 : (1 : Int32).toInt = 1 := by decide
            exact pv_iret (M := mX7_readPiece) dX7_readPiece_82 rfl rfl ⟨_, _, _, rfl, rfl, I173, K174, by decide, by decide, ⟨by omega, by omega, by omega, (by first | exact Or.inr ⟨by decide, PX_deep (Or.inr k40) (by omega)⟩ | exact Or.inr ⟨by decide, PX_cn k40 k68 (fun z => by omega) (by omega)⟩ | exact Or.inl ⟨by decide, PX_co k40 k68 (by omega) (by omega)⟩ | exact Or.inr ⟨by decide, PX_con k40 (RSX_fl k65 (by omega))⟩ | (exfalso; omega)), by omega⟩⟩
  · have c5 := iv_eq (X := v2.toInt) (Y := 33) c5 rfl (by decide)
    have k33 : tC m (m 86 3).toInt = 33 := by omega
    refine pv_aload_n (M := mX7_readPiece) 0 dX7_readPiece_9 10 rfl rfl rfl ?_
    refine pv_iload_n (M := mX7_readPiece) 1 dX7_readPiece_10 11 rfl rfl rfl ?_
    have z182 : (2 : Int32).toInt = 2 := by decide
    refine pv_callv (M := mX7_readPiece) (as := [.int 2]) (st := []) (kc2 := 0) (ks2 := 0) dX7_readPiece_11 wd551 YX7_open ⟨wd553, wd7⟩ (mk_get (tl86 hT)) rfl rfl (s_X7_open_vx g hT I R 2 (by decide) (by decide) (by first | omega | assumption | exact (iv_rng _).2 | exact (iv_rng _).1 | decide)) rfl rfl (Nat.le_of_ble_eq_true rfl) (by decide) rfl rfl 14 rfl (fun rv h1 q183 => ?_)
    obtain ⟨m184, n185, v188, rfl, rfl, I186, K187, pv188, qv188, rv188⟩ := q183
    replace rv188 : (v188 = 0 ∨ (2 : Int) ≤ 5) ∧ (m 86 3).toInt ≤ (m184 86 3).toInt ∧ (m184 86 3).toInt ≤ (m184 86 2).toInt ∧ (m184 86 2).toInt = (m 86 2).toInt ∧ ((v188.toInt = 1 ∧ (2 : Int) ≤ 5 ∧ (m184 86 3).toInt = (m 86 3).toInt + 1) ∨ (v188.toInt = 0 ∧ 6 ≤ (2 : Int) ∧ (m184 86 4).toInt = -5000 - (m 86 3).toInt ∧ (m184 86 3).toInt = (m 86 3).toInt)) ∧ (m184 lb 7).toInt = (m lb 7).toInt := by have q_ := rv188; (try rw [z182] at q_); exact q_
    have K187c := K187
    have K187 := Kp.trans (K187.sub (fun _ _ q => q))
    show PV _ _ _ _ _ _ _ 14 [.ref 86, .int 2, pv_U] [.int v188] _
    refine pv_if_eq (M := mX7_readPiece) (tgt := 27) dX7_readPiece_14 17 rfl (by decide) (fun c189 => ?_) (fun c189 => ?_)
    · have c189 := iv_eq (X := v188.toInt) (Y := 0) c189 rfl (by decide)
      refine pv_iconst (M := mX7_readPiece) (v := 0) dX7_readPiece_27 28 rfl (by decide) ?_
      have z190 : (0 : Int32).toInt = 0 := by decide
      exact pv_iret (M := mX7_readPiece) dX7_readPiece_28 rfl rfl ⟨_, _, _, rfl, rfl, I186, K187, by decide, by decide, ⟨by omega, by omega, by omega, (by first | exact Or.inr ⟨by decide, PX_deep (Or.inl k33) (by omega)⟩ | exact Or.inr ⟨by decide, by rw [PI_not k33]; exact RSX_fl k24 (by omega)⟩ | (exfalso; omega)), by omega⟩⟩
    · have pc189 := rv188.1.resolve_left c189
      have c189 := iv_ne (X := v188.toInt) (Y := 0) c189 rfl (by decide)
      have kt17 : tC m184 = tC m := tC_eq (K187 86 2 rfl) (fun j => K187 87 j rfl)
      have kp17 : (m184 86 3).toInt = (m 86 3).toInt + 1 := by omega
      refine pv_aload_n (M := mX7_readPiece) 0 dX7_readPiece_17 18 rfl rfl rfl ?_
      refine pv_iload_n (M := mX7_readPiece) 1 dX7_readPiece_18 19 rfl rfl rfl ?_
      refine pv_iconst (M := mX7_readPiece) (v := 1) dX7_readPiece_19 20 rfl (by decide) ?_
      refine pv_iadd (M := mX7_readPiece) (v := 3) dX7_readPiece_20 21 rfl (by decide) ?_
      have z194 : (3 : Int32).toInt = 3 := by decide
      refine pv_callv (M := mX7_readPiece) (as := [.int 3]) (st := []) (kc2 := 0) (ks2 := 0) dX7_readPiece_21 wd674 YX7_readPiece ⟨wd676, wd14⟩ (mk_get (tl86 hT)) rfl rfl (s_X7_readPiece_v3x g hT I186 R (by first | omega | assumption | exact (iv_rng _).2 | exact (iv_rng _).1 | decide) (TBC_eq hp1 kt17)) rfl rfl (Nat.le_of_ble_eq_true rfl) (by decide) rfl rfl 24 rfl (fun rv h1 q195 => ?_)
      obtain ⟨m196, n197, v200, rfl, rfl, I198, K199, pv200, qv200, rv200⟩ := q195
      replace rv200 : (m184 86 3).toInt ≤ (m196 86 3).toInt ∧ (m196 86 3).toInt ≤ (m196 86 2).toInt ∧ (m196 86 2).toInt = (m184 86 2).toInt ∧ (RSX (PI (tC m184) 3 (m184 86 3).toInt) v200.toInt (m196 86 3).toInt (m196 86 4).toInt) ∧ (m196 lb 7).toInt = (m184 lb 7).toInt := by have q_ := rv200; (try rw [z194] at q_); exact q_
      have K199c := K199
      have K199 := K187.trans (K199.sub (fun _ _ q => q))
      show PV _ _ _ _ _ _ _ 24 [.ref 86, .int 2, pv_U] [.int v200] _
      have k24 := rv200.2.2.2.1
      rw [kt17, kp17] at k24
      refine pv_if_ne (M := mX7_readPiece) (tgt := 29) dX7_readPiece_24 27 rfl (by decide) (fun c203 => ?_) (fun c203 => ?_)
      · have c203 := iv_ne (X := v200.toInt) (Y := 0) c203 rfl (by decide)
        refine pv_aload_n (M := mX7_readPiece) 0 dX7_readPiece_29 30 rfl rfl rfl ?_
        refine mv_get (M := mX7_readPiece) (v := .ref lb) dX7_readPiece_30 FX7 1 wd281 (by decide) (tl86 hT) rfl R.2.2.2.1 33 rfl ?_
        refine pv_bipush (M := mX7_readPiece) (v := 33) dX7_readPiece_33 35 rfl (by decide) ?_
        refine pv_iconst (M := mX7_readPiece) (v := 0) dX7_readPiece_35 36 rfl (by decide) ?_
        have z204 : (33 : Int32).toInt = 33 := by decide
        have z205 : (0 : Int32).toInt = 0 := by decide
        refine pv_callv (M := mX7_readPiece) (as := [.int 33, .int 0]) (st := []) (kc2 := 0) (ks2 := 0) dX7_readPiece_36 wd567 YX6_emit ⟨wd568, wd569⟩ (mk_get R.2.2.2.2.2.2.1) rfl rfl (s_X6_emit_vx g hT I198 lb R.2.2.2.2.2 33 0 (by decide) (by decide)) rfl rfl (Nat.le_of_ble_eq_true rfl) (by decide) rfl rfl 39 rfl (fun rv h1 q206 => ?_)
        obtain ⟨m207, n208, rfl, rfl, I209, K210, rm207⟩ := q206
        replace rm207 : (m207 lb 7).toInt = (m196 lb 7).toInt := rm207
        have K210c := K210
        have w211 : (m207 86 3).toInt = (m196 86 3).toInt := congrArg Int32.toInt (K210 86 3 (wr_out (by omega)))
        have w212 : (m207 86 2).toInt = (m196 86 2).toInt := congrArg Int32.toInt (K210 86 2 (wr_out (by omega)))
        have w213 : (m207 86 4).toInt = (m196 86 4).toInt := congrArg Int32.toInt (K210 86 4 (wr_out (by omega)))
        have K210 := K199.trans (K210.sub (by first | exact wR7_r (by omega) | exact wR7_wr))
        show PV _ _ _ _ _ _ _ 39 [.ref 86, .int 2, pv_U] [] _
        refine pv_iconst (M := mX7_readPiece) (v := 1) dX7_readPiece_39 40 rfl (by decide) ?_
        have z214 : (1 : Int32).toInt = 1 := by decide
        exact pv_iret (M := mX7_readPiece) dX7_readPiece_40 rfl rfl ⟨_, _, _, rfl, rfl, I209, K210, by decide, by decide, ⟨by omega, by omega, by omega, Or.inl ⟨by decide, by rw [PI_not k33, RSX_ok k24 (by omega), show (m196 86 3).toInt = (m207 86 3).toInt by omega]⟩, by omega⟩⟩
      · have c203 := iv_eq (X := v200.toInt) (Y := 0) c203 rfl (by decide)
        refine pv_iconst (M := mX7_readPiece) (v := 0) dX7_readPiece_27 28 rfl (by decide) ?_
        have z215 : (0 : Int32).toInt = 0 := by decide
        exact pv_iret (M := mX7_readPiece) dX7_readPiece_28 rfl rfl ⟨_, _, _, rfl, rfl, I198, K199, by decide, by decide, ⟨by omega, by omega, by omega, (by first | exact Or.inr ⟨by decide, PX_deep (Or.inl k33) (by omega)⟩ | exact Or.inr ⟨by decide, by rw [PI_not k33]; exact RSX_fl k24 (by omega)⟩ | (exfalso; omega)), by omega⟩⟩

set_option maxHeartbeats 2000000 in
set_option maxRecDepth 20000 in
theorem s_X7_readPart_v2x (g : pv_G) {T : List mv_T} {m : Nat → Nat → Int32} {n : Nat → Nat → Int64} {r : Nat → Value} {la lb : Nat} (hT : TX T) (I : IV BB m) (R : RX T r la lb) (hp0 : (m 86 3).toInt ≤ (m 86 2).toInt) (hp1 : TBC m) : PM g mX7_readPart yX7_readPart (sqI T BB wR7 r m 0 1 (fun m' v => (m 86 3).toInt ≤ (m' 86 3).toInt ∧ (m' 86 3).toInt ≤ (m' 86 2).toInt ∧ (m' 86 2).toInt = (m 86 2).toInt ∧ ((v.toInt = 0 ∨ (m 86 3).toInt + 1 ≤ (m' 86 3).toInt) ∧ TRX (CN (tC m) 4 (m 86 3).toInt) (LB (tC m) 4) (fun a => tC m a ≠ 38) v.toInt (m' 86 3).toInt (m' 86 4).toInt) ∧ (m' lb 7).toInt = (m lb 7).toInt)) 21 0 0 [.ref 86, .int 2] (mk T m n r) := by
  have Kp : fr wR7 m m := fr.rf
  have R0 := R
  have zR := R.2.2.2.2.1.1
  have zR2 := R.2.2.2.2.2.1
  have z91 : 0 ≤ (m 86 3).toInt ∧ (m 86 3).toInt ≤ 160 := I 86 3
  have z92 : 0 ≤ (m 86 2).toInt ∧ (m 86 2).toInt ≤ 160 := I 86 2
  refine PM.of 2 (lo := [.ref 86, .int 2, pv_U, pv_U]) rfl (by decide) rfl rfl (Nat.le_of_ble_eq_true rfl) ?_
  have kTX := TXT_C I
  refine pv_aload_n (M := mX7_readPart) 0 dX7_readPart_0 1 rfl rfl rfl ?_
  refine mv_get (M := mX7_readPart) (v := .ref lb) dX7_readPart_1 FX7 1 wd281 (by decide) (tl86 hT) rfl R.2.2.2.1 4 rfl ?_
  refine pv_callv (M := mX7_readPart) (as := []) (st := []) (kc2 := 0) (ks2 := 0) dX7_readPart_4 wd666 YX6_steps ⟨wd667, wd668⟩ (mk_get R.2.2.2.2.2.2.1) rfl rfl (s_X6_steps g hT I lb R.2.2.2.2.2) rfl rfl (Nat.le_of_ble_eq_true rfl) (by decide) rfl rfl 7 rfl (fun rv h1 q2 => ?_)
  obtain ⟨v3, rfl, rfl, pv3, qv3, rv3⟩ := q2
  show PV _ _ _ _ _ _ _ 7 [.ref 86, .int 2, pv_U, pv_U] [.int v3] _
  refine pv_istore_n (M := mX7_readPart) 2 (lo2 := [.ref 86, .int 2, .int v3, pv_U]) dX7_readPart_7 8 rfl rfl (by decide) rfl rfl ?_
  refine pv_iconst (M := mX7_readPart) (v := 0) dX7_readPart_8 9 rfl (by decide) ?_
  refine pv_istore_n (M := mX7_readPart) 3 (lo2 := [.ref 86, .int 2, .int v3, .int 0]) dX7_readPart_9 10 rfl rfl (by decide) rfl rfl ?_
  have lp10 : ∀ (fuel9 : Nat) (y4 : Int32) (m5 : Nat → Nat → Int32) (n6 : Nat → Nat → Int64), (0 ≤ y4.toInt) → (y4.toInt ≤ 160) → ((m5 86 3).toInt ≤ (m5 86 2).toInt) → ((m5 86 2).toInt = (m 86 2).toInt) → ((m5 lb 7).toInt = (m lb 7).toInt) → ((m 86 3).toInt + 2 * y4.toInt ≤ (m5 86 3).toInt) → (CN (tC m) 4 (m 86 3).toInt = CN (tC m) 4 (m5 86 3).toInt) → IV BB m5 → fr wR7 m m5 → ((160 - y4.toInt) : Int).toNat < fuel9 → PV none g mX7_readPart (sqI T BB wR7 r m 0 1 (fun m' v => (m 86 3).toInt ≤ (m' 86 3).toInt ∧ (m' 86 3).toInt ≤ (m' 86 2).toInt ∧ (m' 86 2).toInt = (m 86 2).toInt ∧ ((v.toInt = 0 ∨ (m 86 3).toInt + 1 ≤ (m' 86 3).toInt) ∧ TRX (CN (tC m) 4 (m 86 3).toInt) (LB (tC m) 4) (fun a => tC m a ≠ 38) v.toInt (m' 86 3).toInt (m' 86 4).toInt) ∧ (m' lb 7).toInt = (m lb 7).toInt)) 21 0 0 10 [.ref 86, .int 2, .int v3, .int y4] [] (mk T m5 n6 r) := by
    intro fuel9
    induction fuel9 with
    | zero => intro y4 m5 n6 b12 b13 b14 b15 b16 b17 b18 I7 K8 z19; omega
    | succ fuel9 ih11 =>
      intro y4 m5 n6 b12 b13 b14 b15 b16 b17 b18 I7 K8 z19
      have z20 : 0 ≤ (m5 86 3).toInt ∧ (m5 86 3).toInt ≤ 160 := I7 86 3
      have z21 : 0 ≤ (m5 86 2).toInt ∧ (m5 86 2).toInt ≤ 160 := I7 86 2
      have kgc := (show CN (tC m) 4 (m 86 3).toInt = CN (tC m) 4 (m5 86 3).toInt by assumption)
      have kt10 : tC m5 = tC m := tC_eq (K8 86 2 rfl) (fun j => K8 87 j rfl)
      refine pv_iload_n (M := mX7_readPart) 3 dX7_readPart_10 11 rfl rfl rfl ?_
      refine pv_sipush (M := mX7_readPart) (v := 160) dX7_readPart_11 14 rfl (by decide) ?_
      refine pv_icmp_ge (M := mX7_readPart) (tgt := 65) dX7_readPart_14 17 rfl (by decide) (fun c24 => ?_) (fun c24 => ?_)
      · have c24 := iv_le (X := 160) (Y := y4.toInt) c24 (by decide) rfl
        refine pv_aload_n (M := mX7_readPart) 0 dX7_readPart_65 66 rfl rfl rfl ?_
        refine mv_get (M := mX7_readPart) (v := .ref lb) dX7_readPart_66 FX7 1 wd281 (by decide) (tl86 hT) rfl R.2.2.2.1 69 rfl ?_
        refine pv_bipush (M := mX7_readPart) (v := 38) dX7_readPart_69 71 rfl (by decide) ?_
        refine pv_iload_n (M := mX7_readPart) 2 dX7_readPart_71 72 rfl rfl rfl ?_
        have z25 : (38 : Int32).toInt = 38 := by decide
        refine pv_callv (M := mX7_readPart) (as := [.int 38, .int v3]) (st := []) (kc2 := 0) (ks2 := 0) dX7_readPart_72 wd678 YX6_aimLeaps ⟨wd679, wd680⟩ (mk_get R.2.2.2.2.2.2.1) rfl rfl (s_X6_aimLeaps_vx g hT I7 lb R.2.2.2.2.2 38 v3) rfl rfl (Nat.le_of_ble_eq_true rfl) (by decide) rfl rfl 75 rfl (fun rv h1 q26 => ?_)
        obtain ⟨m27, n28, rfl, rfl, I29, K30, rm27⟩ := q26
        replace rm27 : (m27 lb 7).toInt = (m5 lb 7).toInt := rm27
        have K30c := K30
        have w31 : (m27 86 3).toInt = (m5 86 3).toInt := congrArg Int32.toInt (K30 86 3 (wr_out (by omega)))
        have w32 : (m27 86 2).toInt = (m5 86 2).toInt := congrArg Int32.toInt (K30 86 2 (wr_out (by omega)))
        have w33 : (m27 86 4).toInt = (m5 86 4).toInt := congrArg Int32.toInt (K30 86 4 (wr_out (by omega)))
        have K30 := K8.trans (K30.sub (by first | exact wR7_r (by omega) | exact wR7_wr))
        show PV _ _ _ _ _ _ _ 75 [.ref 86, .int 2, .int v3, .int y4] [] _
        refine pv_iconst (M := mX7_readPart) (v := 1) dX7_readPart_75 76 rfl (by decide) ?_
        have z34 : (1 : Int32).toInt = 1 := by decide
        exact pv_iret (M := mX7_readPart) dX7_readPart_76 rfl rfl ⟨_, _, _, rfl, rfl, I29, K30, by decide, by decide, ⟨by omega, by omega, by omega, (by first | exact ⟨Or.inr (by omega), Or.inl ⟨by decide, by rw [kgc, k27]; congr 1; omega, by show tC m (m27 86 3).toInt ≠ 38; rw [show (m27 86 3).toInt = (m5 86 3).toInt by omega, ← k31]; omega⟩⟩ | (exfalso; omega)), by omega⟩⟩
      · have c24 := iv_nle (X := 160) (Y := y4.toInt) c24 (by decide) rfl
        refine pv_aload_n (M := mX7_readPart) 0 dX7_readPart_17 18 rfl rfl rfl ?_
        refine pv_iload_n (M := mX7_readPart) 1 dX7_readPart_18 19 rfl rfl rfl ?_
        have z35 : (2 : Int32).toInt = 2 := by decide
        refine pv_callv (M := mX7_readPart) (as := [.int 2]) (st := []) (kc2 := 0) (ks2 := 0) dX7_readPart_19 wd674 YX7_readPiece ⟨wd676, wd14⟩ (mk_get (tl86 hT)) rfl rfl (s_X7_readPiece_v2x g hT I7 R (by first | omega | assumption | exact (iv_rng _).2 | exact (iv_rng _).1 | decide) (TBC_eq hp1 kt10)) rfl rfl (Nat.le_of_ble_eq_true rfl) (by decide) rfl rfl 22 rfl (fun rv h1 q36 => ?_)
        obtain ⟨m37, n38, v41, rfl, rfl, I39, K40, pv41, qv41, rv41⟩ := q36
        replace rv41 : (m5 86 3).toInt ≤ (m37 86 3).toInt ∧ (m37 86 3).toInt ≤ (m37 86 2).toInt ∧ (m37 86 2).toInt = (m5 86 2).toInt ∧ (RSX (PI (tC m5) 4 (m5 86 3).toInt) v41.toInt (m37 86 3).toInt (m37 86 4).toInt) ∧ (m37 lb 7).toInt = (m5 lb 7).toInt := by have q_ := rv41; (try rw [z35] at q_); exact q_
        have K40c := K40
        have K40 := K8.trans (K40.sub (fun _ _ q => q))
        show PV _ _ _ _ _ _ _ 22 [.ref 86, .int 2, .int v3, .int y4] [.int v41] _
        have k22 := rv41.2.2.2.1
        rw [kt10] at k22
        refine pv_if_ne (M := mX7_readPart) (tgt := 27) dX7_readPart_22 25 rfl (by decide) (fun c44 => ?_) (fun c44 => ?_)
        · have c44 := iv_ne (X := v41.toInt) (Y := 0) c44 rfl (by decide)
          have k27o := RSX_ok k22 (by omega)
          have k27 := CN_ok k27o
          have k27p := PI_le 4 (m5 86 3).toInt (by rw [k27o])
          rw [k27o] at k27p
          have kt27 : tC m37 = tC m := tC_eq (K40 86 2 rfl) (fun j => K40 87 j rfl)
          refine pv_aload_n (M := mX7_readPart) 0 dX7_readPart_27 28 rfl rfl rfl ?_
          refine pv_callv (M := mX7_readPart) (as := []) (st := []) (kc2 := 0) (ks2 := 0) dX7_readPart_28 wd527 YX7_peek ⟨wd529, wd2⟩ (mk_get (tl86 hT)) rfl rfl (s_X7_peek_vx g hT I39 R) rfl rfl (Nat.le_of_ble_eq_true rfl) (by decide) rfl rfl 31 rfl (fun rv h1 q50 => ?_)
          obtain ⟨v51, rfl, rfl, pv51, qv51, rv51⟩ := q50
          replace rv51 : v51.toInt = tC m37 (m37 86 3).toInt ∧ (v51.toInt = -1 ∨ (m37 86 3).toInt < (m37 86 2).toInt) := rv51
          show PV _ _ _ _ _ _ _ 31 [.ref 86, .int 2, .int v3, .int y4] [.int v51] _
          have k31 := rv51.1
          have k31b := rv51.2
          rw [kt27] at k31
          refine pv_bipush (M := mX7_readPart) (v := 38) dX7_readPart_31 33 rfl (by decide) ?_
          refine pv_icmp_eq (M := mX7_readPart) (tgt := 39) dX7_readPart_33 36 rfl (by decide) (fun c55 => ?_) (fun c55 => ?_)
          · have c55 := iv_eq (X := v51.toInt) (Y := 38) c55 rfl (by decide)
            have kB : isB (tC m (m37 86 3).toInt) = true := isB_y (by omega)
            refine pv_aload_n (M := mX7_readPart) 0 dX7_readPart_39 40 rfl rfl rfl ?_
            refine mv_get (M := mX7_readPart) (v := .ref lb) dX7_readPart_40 FX7 1 wd281 (by decide) (tl86 hT) rfl R.2.2.2.1 43 rfl ?_
            refine pv_bipush (M := mX7_readPart) (v := 38) dX7_readPart_43 45 rfl (by decide) ?_
            refine pv_iconst (M := mX7_readPart) (v := (-1)) dX7_readPart_45 46 rfl (by decide) ?_
            have z57 : (38 : Int32).toInt = 38 := by decide
            have z58 : ((-1) : Int32).toInt = (-1) := by decide
            refine pv_callv (M := mX7_readPart) (as := [.int 38, .int (-1)]) (st := []) (kc2 := 0) (ks2 := 0) dX7_readPart_46 wd567 YX6_emit ⟨wd568, wd569⟩ (mk_get R.2.2.2.2.2.2.1) rfl rfl (s_X6_emit_vx g hT I39 lb R.2.2.2.2.2 38 (-1) (by decide) (by decide)) rfl rfl (Nat.le_of_ble_eq_true rfl) (by decide) rfl rfl 49 rfl (fun rv h1 q59 => ?_)
            obtain ⟨m60, n61, rfl, rfl, I62, K63, rm60⟩ := q59
            replace rm60 : (m60 lb 7).toInt = (m37 lb 7).toInt := rm60
            have K63c := K63
            have w64 : (m60 86 3).toInt = (m37 86 3).toInt := congrArg Int32.toInt (K63 86 3 (wr_out (by omega)))
            have w65 : (m60 86 2).toInt = (m37 86 2).toInt := congrArg Int32.toInt (K63 86 2 (wr_out (by omega)))
            have w66 : (m60 86 4).toInt = (m37 86 4).toInt := congrArg Int32.toInt (K63 86 4 (wr_out (by omega)))
            have K63 := K40.trans (K63.sub (by first | exact wR7_r (by omega) | exact wR7_wr))
            show PV _ _ _ _ _ _ _ 49 [.ref 86, .int 2, .int v3, .int y4] [] _
            refine pv_aload_n (M := mX7_readPart) 0 dX7_readPart_49 50 rfl rfl rfl ?_
            refine pv_dup (M := mX7_readPart) dX7_readPart_50 51 rfl rfl ?_
            refine iv_get (M := mX7_readPart) (l1 := 0) (l2 := 160) dX7_readPart_51 FX7 3 wd283 (by decide) (tl86 hT) rfl I62 rfl 54 rfl (fun v67 ev67 pv67 qv67 => ?_)
            have wv67 : v67.toInt = (m60 86 3).toInt := congrArg Int32.toInt ev67
            refine pv_iconst (M := mX7_readPart) (v := 1) dX7_readPart_54 55 rfl (by decide) ?_
            refine iv_iadd (M := mX7_readPart) (X := v67.toInt) (Y := 1) dX7_readPart_55 56 rfl rfl (by decide) (by omega) (by omega) (fun v68 ev68 => ?_)
            refine iv_put (M := mX7_readPart) (l1 := 0) (l2 := 160) dX7_readPart_56 FX7 3 wd283 (by decide) rfl (tl86 hT) rfl rfl rfl I62 rfl (by omega) (by omega) 59 rfl (fun m69 e72 I70 => ?_)
            have K71 := K63.set e72 (by decide)
            have w73 : (m69 86 3).toInt = v68.toInt := by rw [e72, up2_eq]
            have w74 : (m69 86 2).toInt = (m60 86 2).toInt := by rw [e72, up2_ne (by omega)]
            have w75 : (m69 86 4).toInt = (m60 86 4).toInt := by rw [e72, up2_ne (by omega)]
            have w76 : (m69 lb 7).toInt = (m60 lb 7).toInt := by rw [e72, up2_ne (by omega)]
            refine iv_inc (M := mX7_readPart) (C := 1) dX7_readPart_59 62 rfl rfl (by decide) rfl rfl (by decide) (by omega) (by omega) (fun v77 ev77 => ?_)
            show PV _ _ _ _ _ _ _ 62 [.ref 86, .int 2, .int v3, .int v77] [] _
            refine pv_goto (M := mX7_readPart) (tgt := 10) dX7_readPart_62 (by decide) ?_
            have kbc : CN (tC m) 4 (m 86 3).toInt = CN (tC m) 4 (m69 86 3).toInt := by rw [kgc, k27, LB_cn kTX (by omega) kB]; congr 1; omega
            exact ih11 v77 m69 n61 (by first | omega | assumption | exact (iv_rng _).2 | exact (iv_rng _).1 | decide) (by first | omega | assumption | exact (iv_rng _).2 | exact (iv_rng _).1 | decide) (by first | omega | assumption | (show (m69 86 3).toInt ≤ (m69 86 2).toInt; omega) | decide) (by first | omega | assumption | (show (m69 86 2).toInt = (m 86 2).toInt; omega) | decide) (by first | omega | assumption | (show (m69 lb 7).toInt = (m lb 7).toInt; omega) | decide) (by first | omega | assumption | (show (m 86 3).toInt + 2 * v77.toInt ≤ (m69 86 3).toInt; omega) | decide) kbc I70 K71 (by omega)
          · have c55 := iv_ne (X := v51.toInt) (Y := 38) c55 rfl (by decide)
            refine pv_goto (M := mX7_readPart) (tgt := 65) dX7_readPart_36 (by decide) ?_
            refine pv_aload_n (M := mX7_readPart) 0 dX7_readPart_65 66 rfl rfl rfl ?_
            refine mv_get (M := mX7_readPart) (v := .ref lb) dX7_readPart_66 FX7 1 wd281 (by decide) (tl86 hT) rfl R.2.2.2.1 69 rfl ?_
            refine pv_bipush (M := mX7_readPart) (v := 38) dX7_readPart_69 71 rfl (by decide) ?_
            refine pv_iload_n (M := mX7_readPart) 2 dX7_readPart_71 72 rfl rfl rfl ?_
            have z79 : (38 : Int32).toInt = 38 := by decide
            refine pv_callv (M := mX7_readPart) (as := [.int 38, .int v3]) (st := []) (kc2 := 0) (ks2 := 0) dX7_readPart_72 wd678 YX6_aimLeaps ⟨wd679, wd680⟩ (mk_get R.2.2.2.2.2.2.1) rfl rfl (s_X6_aimLeaps_vx g hT I39 lb R.2.2.2.2.2 38 v3) rfl rfl (Nat.le_of_ble_eq_true rfl) (by decide) rfl rfl 75 rfl (fun rv h1 q80 => ?_)
            obtain ⟨m81, n82, rfl, rfl, I83, K84, rm81⟩ := q80
            replace rm81 : (m81 lb 7).toInt = (m37 lb 7).toInt := rm81
            have K84c := K84
            have w85 : (m81 86 3).toInt = (m37 86 3).toInt := congrArg Int32.toInt (K84 86 3 (wr_out (by omega)))
            have w86 : (m81 86 2).toInt = (m37 86 2).toInt := congrArg Int32.toInt (K84 86 2 (wr_out (by omega)))
            have w87 : (m81 86 4).toInt = (m37 86 4).toInt := congrArg Int32.toInt (K84 86 4 (wr_out (by omega)))
            have K84 := K40.trans (K84.sub (by first | exact wR7_r (by omega) | exact wR7_wr))
            show PV _ _ _ _ _ _ _ 75 [.ref 86, .int 2, .int v3, .int y4] [] _
            refine pv_iconst (M := mX7_readPart) (v := 1) dX7_readPart_75 76 rfl (by decide) ?_
            have z88 : (1 : Int32).toInt = 1 := by decide
            exact pv_iret (M := mX7_readPart) dX7_readPart_76 rfl rfl ⟨_, _, _, rfl, rfl, I83, K84, by decide, by decide, ⟨by omega, by omega, by omega, (by first | exact ⟨Or.inr (by omega), Or.inl ⟨by decide, by rw [kgc, k27]; congr 1; omega, by show tC m (m81 86 3).toInt ≠ 38; rw [show (m81 86 3).toInt = (m37 86 3).toInt by omega, ← k31]; omega⟩⟩ | (exfalso; omega)), by omega⟩⟩
        · have c44 := iv_eq (X := v41.toInt) (Y := 0) c44 rfl (by decide)
          refine pv_iconst (M := mX7_readPart) (v := 0) dX7_readPart_25 26 rfl (by decide) ?_
          have z89 : (0 : Int32).toInt = 0 := by decide
          exact pv_iret (M := mX7_readPart) dX7_readPart_26 rfl rfl ⟨_, _, _, rfl, rfl, I39, K40, by decide, by decide, ⟨by omega, by omega, by omega, ⟨Or.inl (by decide), Or.inr ⟨by decide, by rw [kgc]; exact CN_fl (RSX_fl k22 (by omega))⟩⟩, by omega⟩⟩
  have z90 : (0 : Int32).toInt = 0 := by decide
  exact lp10 (((160 - 0) : Int).toNat + 1) 0 m n (by first | omega | assumption | exact (iv_rng _).2 | exact (iv_rng _).1 | decide) (by first | omega | assumption | exact (iv_rng _).2 | exact (iv_rng _).1 | decide) (by first | omega | assumption | (show (m 86 3).toInt ≤ (m 86 2).toInt; omega) | decide) (by first | omega | assumption | (show (m 86 2).toInt = (m 86 2).toInt; omega) | decide) (by first | omega | assumption | (show (m lb 7).toInt = (m lb 7).toInt; omega) | decide) (by first | omega | assumption | (show (m 86 3).toInt + 2 * 0 ≤ (m 86 3).toInt; omega) | decide) rfl I Kp (by omega)

set_option maxHeartbeats 2000000 in
set_option maxRecDepth 20000 in
theorem s_X7_readCondition_v2x (g : pv_G) {T : List mv_T} {m : Nat → Nat → Int32} {n : Nat → Nat → Int64} {r : Nat → Value} {la lb : Nat} (hT : TX T) (I : IV BB m) (R : RX T r la lb) (hp0 : (m 86 3).toInt ≤ (m 86 2).toInt) (hp1 : TBC m) : PM g mX7_readCondition yX7_readCondition (sqI T BB wR7 r m 0 1 (fun m' v => (m 86 3).toInt ≤ (m' 86 3).toInt ∧ (m' 86 3).toInt ≤ (m' 86 2).toInt ∧ (m' 86 2).toInt = (m 86 2).toInt ∧ (RSX (CN (tC m) 4 (m 86 3).toInt) v.toInt (m' 86 3).toInt (m' 86 4).toInt) ∧ (m' lb 7).toInt = (m lb 7).toInt)) 22 0 0 [.ref 86, .int 2] (mk T m n r) := by
  have Kp : fr wR7 m m := fr.rf
  have R0 := R
  have zR := R.2.2.2.2.1.1
  have zR2 := R.2.2.2.2.2.1
  have z90 : 0 ≤ (m 86 3).toInt ∧ (m 86 3).toInt ≤ 160 := I 86 3
  have z91 : 0 ≤ (m 86 2).toInt ∧ (m 86 2).toInt ≤ 160 := I 86 2
  refine PM.of 2 (lo := [.ref 86, .int 2, pv_U, pv_U]) rfl (by decide) rfl rfl (Nat.le_of_ble_eq_true rfl) ?_
  have kTX := TXT_C I
  refine pv_aload_n (M := mX7_readCondition) 0 dX7_readCondition_0 1 rfl rfl rfl ?_
  refine mv_get (M := mX7_readCondition) (v := .ref lb) dX7_readCondition_1 FX7 1 wd281 (by decide) (tl86 hT) rfl R.2.2.2.1 4 rfl ?_
  refine pv_callv (M := mX7_readCondition) (as := []) (st := []) (kc2 := 0) (ks2 := 0) dX7_readCondition_4 wd666 YX6_steps ⟨wd667, wd668⟩ (mk_get R.2.2.2.2.2.2.1) rfl rfl (s_X6_steps g hT I lb R.2.2.2.2.2) rfl rfl (Nat.le_of_ble_eq_true rfl) (by decide) rfl rfl 7 rfl (fun rv h1 q2 => ?_)
  obtain ⟨v3, rfl, rfl, pv3, qv3, rv3⟩ := q2
  show PV _ _ _ _ _ _ _ 7 [.ref 86, .int 2, pv_U, pv_U] [.int v3] _
  refine pv_istore_n (M := mX7_readCondition) 2 (lo2 := [.ref 86, .int 2, .int v3, pv_U]) dX7_readCondition_7 8 rfl rfl (by decide) rfl rfl ?_
  refine pv_iconst (M := mX7_readCondition) (v := 0) dX7_readCondition_8 9 rfl (by decide) ?_
  refine pv_istore_n (M := mX7_readCondition) 3 (lo2 := [.ref 86, .int 2, .int v3, .int 0]) dX7_readCondition_9 10 rfl rfl (by decide) rfl rfl ?_
  have lp10 : ∀ (fuel9 : Nat) (y4 : Int32) (m5 : Nat → Nat → Int32) (n6 : Nat → Nat → Int64), (0 ≤ y4.toInt) → (y4.toInt ≤ 160) → ((m5 86 3).toInt ≤ (m5 86 2).toInt) → ((m5 86 2).toInt = (m 86 2).toInt) → ((m5 lb 7).toInt = (m lb 7).toInt) → ((m 86 3).toInt + 2 * y4.toInt ≤ (m5 86 3).toInt) → (CN (tC m) 4 (m 86 3).toInt = CN (tC m) 4 (m5 86 3).toInt) → IV BB m5 → fr wR7 m m5 → ((160 - y4.toInt) : Int).toNat < fuel9 → PV none g mX7_readCondition (sqI T BB wR7 r m 0 1 (fun m' v => (m 86 3).toInt ≤ (m' 86 3).toInt ∧ (m' 86 3).toInt ≤ (m' 86 2).toInt ∧ (m' 86 2).toInt = (m 86 2).toInt ∧ (RSX (CN (tC m) 4 (m 86 3).toInt) v.toInt (m' 86 3).toInt (m' 86 4).toInt) ∧ (m' lb 7).toInt = (m lb 7).toInt)) 22 0 0 10 [.ref 86, .int 2, .int v3, .int y4] [] (mk T m5 n6 r) := by
    intro fuel9
    induction fuel9 with
    | zero => intro y4 m5 n6 b12 b13 b14 b15 b16 b17 b18 I7 K8 z19; omega
    | succ fuel9 ih11 =>
      intro y4 m5 n6 b12 b13 b14 b15 b16 b17 b18 I7 K8 z19
      have z20 : 0 ≤ (m5 86 3).toInt ∧ (m5 86 3).toInt ≤ 160 := I7 86 3
      have z21 : 0 ≤ (m5 86 2).toInt ∧ (m5 86 2).toInt ≤ 160 := I7 86 2
      have kgc := (show CN (tC m) 4 (m 86 3).toInt = CN (tC m) 4 (m5 86 3).toInt by assumption)
      have kt10 : tC m5 = tC m := tC_eq (K8 86 2 rfl) (fun j => K8 87 j rfl)
      refine pv_iload_n (M := mX7_readCondition) 3 dX7_readCondition_10 11 rfl rfl rfl ?_
      refine pv_sipush (M := mX7_readCondition) (v := 160) dX7_readCondition_11 14 rfl (by decide) ?_
      refine pv_icmp_ge (M := mX7_readCondition) (tgt := 65) dX7_readCondition_14 17 rfl (by decide) (fun c24 => ?_) (fun c24 => ?_)
      · have c24 := iv_le (X := 160) (Y := y4.toInt) c24 (by decide) rfl
        refine pv_aload_n (M := mX7_readCondition) 0 dX7_readCondition_65 66 rfl rfl rfl ?_
        refine mv_get (M := mX7_readCondition) (v := .ref lb) dX7_readCondition_66 FX7 1 wd281 (by decide) (tl86 hT) rfl R.2.2.2.1 69 rfl ?_
        refine pv_bipush (M := mX7_readCondition) (v := 124) dX7_readCondition_69 71 rfl (by decide) ?_
        refine pv_iload_n (M := mX7_readCondition) 2 dX7_readCondition_71 72 rfl rfl rfl ?_
        have z25 : (124 : Int32).toInt = 124 := by decide
        refine pv_callv (M := mX7_readCondition) (as := [.int 124, .int v3]) (st := []) (kc2 := 0) (ks2 := 0) dX7_readCondition_72 wd678 YX6_aimLeaps ⟨wd679, wd680⟩ (mk_get R.2.2.2.2.2.2.1) rfl rfl (s_X6_aimLeaps_vx g hT I7 lb R.2.2.2.2.2 124 v3) rfl rfl (Nat.le_of_ble_eq_true rfl) (by decide) rfl rfl 75 rfl (fun rv h1 q26 => ?_)
        obtain ⟨m27, n28, rfl, rfl, I29, K30, rm27⟩ := q26
        replace rm27 : (m27 lb 7).toInt = (m5 lb 7).toInt := rm27
        have K30c := K30
        have w31 : (m27 86 3).toInt = (m5 86 3).toInt := congrArg Int32.toInt (K30 86 3 (wr_out (by omega)))
        have w32 : (m27 86 2).toInt = (m5 86 2).toInt := congrArg Int32.toInt (K30 86 2 (wr_out (by omega)))
        have w33 : (m27 86 4).toInt = (m5 86 4).toInt := congrArg Int32.toInt (K30 86 4 (wr_out (by omega)))
        have K30 := K8.trans (K30.sub (by first | exact wR7_r (by omega) | exact wR7_wr))
        show PV _ _ _ _ _ _ _ 75 [.ref 86, .int 2, .int v3, .int y4] [] _
        refine pv_iconst (M := mX7_readCondition) (v := 1) dX7_readCondition_75 76 rfl (by decide) ?_
        have z34 : (1 : Int32).toInt = 1 := by decide
        exact pv_iret (M := mX7_readCondition) dX7_readCondition_76 rfl rfl ⟨_, _, _, rfl, rfl, I29, K30, by decide, by decide, ⟨by omega, by omega, by omega, (by first | exact Or.inl ⟨by decide, by rw [kgc, k27, LB_no (isB_no k27n (by rw [← k31]; omega))]; congr 1; omega⟩ | (exfalso; omega)), by omega⟩⟩
      · have c24 := iv_nle (X := 160) (Y := y4.toInt) c24 (by decide) rfl
        refine pv_aload_n (M := mX7_readCondition) 0 dX7_readCondition_17 18 rfl rfl rfl ?_
        refine pv_iload_n (M := mX7_readCondition) 1 dX7_readCondition_18 19 rfl rfl rfl ?_
        have z35 : (2 : Int32).toInt = 2 := by decide
        refine pv_callv (M := mX7_readCondition) (as := [.int 2]) (st := []) (kc2 := 0) (ks2 := 0) dX7_readCondition_19 wd670 YX7_readPart ⟨wd672, wd13⟩ (mk_get (tl86 hT)) rfl rfl (s_X7_readPart_v2x g hT I7 R (by first | omega | assumption | exact (iv_rng _).2 | exact (iv_rng _).1 | decide) (TBC_eq hp1 kt10)) rfl rfl (Nat.le_of_ble_eq_true rfl) (by decide) rfl rfl 22 rfl (fun rv h1 q36 => ?_)
        obtain ⟨m37, n38, v41, rfl, rfl, I39, K40, pv41, qv41, rv41⟩ := q36
        replace rv41 : (m5 86 3).toInt ≤ (m37 86 3).toInt ∧ (m37 86 3).toInt ≤ (m37 86 2).toInt ∧ (m37 86 2).toInt = (m5 86 2).toInt ∧ ((v41.toInt = 0 ∨ (m5 86 3).toInt + 1 ≤ (m37 86 3).toInt) ∧ TRX (CN (tC m5) 4 (m5 86 3).toInt) (LB (tC m5) 4) (fun a => tC m5 a ≠ 38) v41.toInt (m37 86 3).toInt (m37 86 4).toInt) ∧ (m37 lb 7).toInt = (m5 lb 7).toInt := by have q_ := rv41; (try rw [z35] at q_); exact q_
        have K40c := K40
        have K40 := K8.trans (K40.sub (fun _ _ q => q))
        show PV _ _ _ _ _ _ _ 22 [.ref 86, .int 2, .int v3, .int y4] [.int v41] _
        have k22 := rv41.2.2.2.1.2
        have k22p := rv41.2.2.2.1.1
        rw [kt10] at k22
        refine pv_if_ne (M := mX7_readCondition) (tgt := 27) dX7_readCondition_22 25 rfl (by decide) (fun c45 => ?_) (fun c45 => ?_)
        · have c45 := iv_ne (X := v41.toInt) (Y := 0) c45 rfl (by decide)
          have k27 := (TRX_ok k22 (by omega)).1
          have k27n := (TRX_ok k22 (by omega)).2
          have kt27 : tC m37 = tC m := tC_eq (K40 86 2 rfl) (fun j => K40 87 j rfl)
          refine pv_aload_n (M := mX7_readCondition) 0 dX7_readCondition_27 28 rfl rfl rfl ?_
          refine pv_callv (M := mX7_readCondition) (as := []) (st := []) (kc2 := 0) (ks2 := 0) dX7_readCondition_28 wd527 YX7_peek ⟨wd529, wd2⟩ (mk_get (tl86 hT)) rfl rfl (s_X7_peek_vx g hT I39 R) rfl rfl (Nat.le_of_ble_eq_true rfl) (by decide) rfl rfl 31 rfl (fun rv h1 q49 => ?_)
          obtain ⟨v50, rfl, rfl, pv50, qv50, rv50⟩ := q49
          replace rv50 : v50.toInt = tC m37 (m37 86 3).toInt ∧ (v50.toInt = -1 ∨ (m37 86 3).toInt < (m37 86 2).toInt) := rv50
          show PV _ _ _ _ _ _ _ 31 [.ref 86, .int 2, .int v3, .int y4] [.int v50] _
          have k31 := rv50.1
          have k31b := rv50.2
          rw [kt27] at k31
          refine pv_bipush (M := mX7_readCondition) (v := 124) dX7_readCondition_31 33 rfl (by decide) ?_
          refine pv_icmp_eq (M := mX7_readCondition) (tgt := 39) dX7_readCondition_33 36 rfl (by decide) (fun c54 => ?_) (fun c54 => ?_)
          · have c54 := iv_eq (X := v50.toInt) (Y := 124) c54 rfl (by decide)
            have kB : isB (tC m (m37 86 3).toInt) = true := isB_y (by omega)
            refine pv_aload_n (M := mX7_readCondition) 0 dX7_readCondition_39 40 rfl rfl rfl ?_
            refine mv_get (M := mX7_readCondition) (v := .ref lb) dX7_readCondition_40 FX7 1 wd281 (by decide) (tl86 hT) rfl R.2.2.2.1 43 rfl ?_
            refine pv_bipush (M := mX7_readCondition) (v := 124) dX7_readCondition_43 45 rfl (by decide) ?_
            refine pv_iconst (M := mX7_readCondition) (v := (-1)) dX7_readCondition_45 46 rfl (by decide) ?_
            have z56 : (124 : Int32).toInt = 124 := by decide
            have z57 : ((-1) : Int32).toInt = (-1) := by decide
            refine pv_callv (M := mX7_readCondition) (as := [.int 124, .int (-1)]) (st := []) (kc2 := 0) (ks2 := 0) dX7_readCondition_46 wd567 YX6_emit ⟨wd568, wd569⟩ (mk_get R.2.2.2.2.2.2.1) rfl rfl (s_X6_emit_vx g hT I39 lb R.2.2.2.2.2 124 (-1) (by decide) (by decide)) rfl rfl (Nat.le_of_ble_eq_true rfl) (by decide) rfl rfl 49 rfl (fun rv h1 q58 => ?_)
            obtain ⟨m59, n60, rfl, rfl, I61, K62, rm59⟩ := q58
            replace rm59 : (m59 lb 7).toInt = (m37 lb 7).toInt := rm59
            have K62c := K62
            have w63 : (m59 86 3).toInt = (m37 86 3).toInt := congrArg Int32.toInt (K62 86 3 (wr_out (by omega)))
            have w64 : (m59 86 2).toInt = (m37 86 2).toInt := congrArg Int32.toInt (K62 86 2 (wr_out (by omega)))
            have w65 : (m59 86 4).toInt = (m37 86 4).toInt := congrArg Int32.toInt (K62 86 4 (wr_out (by omega)))
            have K62 := K40.trans (K62.sub (by first | exact wR7_r (by omega) | exact wR7_wr))
            show PV _ _ _ _ _ _ _ 49 [.ref 86, .int 2, .int v3, .int y4] [] _
            refine pv_aload_n (M := mX7_readCondition) 0 dX7_readCondition_49 50 rfl rfl rfl ?_
            refine pv_dup (M := mX7_readCondition) dX7_readCondition_50 51 rfl rfl ?_
            refine iv_get (M := mX7_readCondition) (l1 := 0) (l2 := 160) dX7_readCondition_51 FX7 3 wd283 (by decide) (tl86 hT) rfl I61 rfl 54 rfl (fun v66 ev66 pv66 qv66 => ?_)
            have wv66 : v66.toInt = (m59 86 3).toInt := congrArg Int32.toInt ev66
            refine pv_iconst (M := mX7_readCondition) (v := 1) dX7_readCondition_54 55 rfl (by decide) ?_
            refine iv_iadd (M := mX7_readCondition) (X := v66.toInt) (Y := 1) dX7_readCondition_55 56 rfl rfl (by decide) (by omega) (by omega) (fun v67 ev67 => ?_)
            refine iv_put (M := mX7_readCondition) (l1 := 0) (l2 := 160) dX7_readCondition_56 FX7 3 wd283 (by decide) rfl (tl86 hT) rfl rfl rfl I61 rfl (by omega) (by omega) 59 rfl (fun m68 e71 I69 => ?_)
            have K70 := K62.set e71 (by decide)
            have w72 : (m68 86 3).toInt = v67.toInt := by rw [e71, up2_eq]
            have w73 : (m68 86 2).toInt = (m59 86 2).toInt := by rw [e71, up2_ne (by omega)]
            have w74 : (m68 86 4).toInt = (m59 86 4).toInt := by rw [e71, up2_ne (by omega)]
            have w75 : (m68 lb 7).toInt = (m59 lb 7).toInt := by rw [e71, up2_ne (by omega)]
            refine iv_inc (M := mX7_readCondition) (C := 1) dX7_readCondition_59 62 rfl rfl (by decide) rfl rfl (by decide) (by omega) (by omega) (fun v76 ev76 => ?_)
            show PV _ _ _ _ _ _ _ 62 [.ref 86, .int 2, .int v3, .int v76] [] _
            refine pv_goto (M := mX7_readCondition) (tgt := 10) dX7_readCondition_62 (by decide) ?_
            have kbc : CN (tC m) 4 (m 86 3).toInt = CN (tC m) 4 (m68 86 3).toInt := by rw [kgc, k27, LB_cn kTX (by omega) kB]; congr 1; omega
            exact ih11 v76 m68 n60 (by first | omega | assumption | exact (iv_rng _).2 | exact (iv_rng _).1 | decide) (by first | omega | assumption | exact (iv_rng _).2 | exact (iv_rng _).1 | decide) (by first | omega | assumption | (show (m68 86 3).toInt ≤ (m68 86 2).toInt; omega) | decide) (by first | omega | assumption | (show (m68 86 2).toInt = (m 86 2).toInt; omega) | decide) (by first | omega | assumption | (show (m68 lb 7).toInt = (m lb 7).toInt; omega) | decide) (by first | omega | assumption | (show (m 86 3).toInt + 2 * v76.toInt ≤ (m68 86 3).toInt; omega) | decide) kbc I69 K70 (by omega)
          · have c54 := iv_ne (X := v50.toInt) (Y := 124) c54 rfl (by decide)
            refine pv_goto (M := mX7_readCondition) (tgt := 65) dX7_readCondition_36 (by decide) ?_
            refine pv_aload_n (M := mX7_readCondition) 0 dX7_readCondition_65 66 rfl rfl rfl ?_
            refine mv_get (M := mX7_readCondition) (v := .ref lb) dX7_readCondition_66 FX7 1 wd281 (by decide) (tl86 hT) rfl R.2.2.2.1 69 rfl ?_
            refine pv_bipush (M := mX7_readCondition) (v := 124) dX7_readCondition_69 71 rfl (by decide) ?_
            refine pv_iload_n (M := mX7_readCondition) 2 dX7_readCondition_71 72 rfl rfl rfl ?_
            have z78 : (124 : Int32).toInt = 124 := by decide
            refine pv_callv (M := mX7_readCondition) (as := [.int 124, .int v3]) (st := []) (kc2 := 0) (ks2 := 0) dX7_readCondition_72 wd678 YX6_aimLeaps ⟨wd679, wd680⟩ (mk_get R.2.2.2.2.2.2.1) rfl rfl (s_X6_aimLeaps_vx g hT I39 lb R.2.2.2.2.2 124 v3) rfl rfl (Nat.le_of_ble_eq_true rfl) (by decide) rfl rfl 75 rfl (fun rv h1 q79 => ?_)
            obtain ⟨m80, n81, rfl, rfl, I82, K83, rm80⟩ := q79
            replace rm80 : (m80 lb 7).toInt = (m37 lb 7).toInt := rm80
            have K83c := K83
            have w84 : (m80 86 3).toInt = (m37 86 3).toInt := congrArg Int32.toInt (K83 86 3 (wr_out (by omega)))
            have w85 : (m80 86 2).toInt = (m37 86 2).toInt := congrArg Int32.toInt (K83 86 2 (wr_out (by omega)))
            have w86 : (m80 86 4).toInt = (m37 86 4).toInt := congrArg Int32.toInt (K83 86 4 (wr_out (by omega)))
            have K83 := K40.trans (K83.sub (by first | exact wR7_r (by omega) | exact wR7_wr))
            show PV _ _ _ _ _ _ _ 75 [.ref 86, .int 2, .int v3, .int y4] [] _
            refine pv_iconst (M := mX7_readCondition) (v := 1) dX7_readCondition_75 76 rfl (by decide) ?_
            have z87 : (1 : Int32).toInt = 1 := by decide
            exact pv_iret (M := mX7_readCondition) dX7_readCondition_76 rfl rfl ⟨_, _, _, rfl, rfl, I82, K83, by decide, by decide, ⟨by omega, by omega, by omega, (by first | exact Or.inl ⟨by decide, by rw [kgc, k27, LB_no (isB_no k27n (by rw [← k31]; omega))]; congr 1; omega⟩ | (exfalso; omega)), by omega⟩⟩
        · have c45 := iv_eq (X := v41.toInt) (Y := 0) c45 rfl (by decide)
          refine pv_iconst (M := mX7_readCondition) (v := 0) dX7_readCondition_25 26 rfl (by decide) ?_
          have z88 : (0 : Int32).toInt = 0 := by decide
          exact pv_iret (M := mX7_readCondition) dX7_readCondition_26 rfl rfl ⟨_, _, _, rfl, rfl, I39, K40, by decide, by decide, ⟨by omega, by omega, by omega, Or.inr ⟨by decide, by rw [kgc]; exact TRX_fl k22 (by omega)⟩, by omega⟩⟩
  have z89 : (0 : Int32).toInt = 0 := by decide
  exact lp10 (((160 - 0) : Int).toNat + 1) 0 m n (by first | omega | assumption | exact (iv_rng _).2 | exact (iv_rng _).1 | decide) (by first | omega | assumption | exact (iv_rng _).2 | exact (iv_rng _).1 | decide) (by first | omega | assumption | (show (m 86 3).toInt ≤ (m 86 2).toInt; omega) | decide) (by first | omega | assumption | (show (m 86 2).toInt = (m 86 2).toInt; omega) | decide) (by first | omega | assumption | (show (m lb 7).toInt = (m lb 7).toInt; omega) | decide) (by first | omega | assumption | (show (m 86 3).toInt + 2 * 0 ≤ (m 86 3).toInt; omega) | decide) rfl I Kp (by omega)

set_option maxHeartbeats 2000000 in
set_option maxRecDepth 20000 in
theorem s_X7_readPiece_v1x (g : pv_G) {T : List mv_T} {m : Nat → Nat → Int32} {n : Nat → Nat → Int64} {r : Nat → Value} {la lb : Nat} (hT : TX T) (I : IV BB m) (R : RX T r la lb) (hp0 : (m 86 3).toInt ≤ (m 86 2).toInt) (hp1 : TBC m) : PM g mX7_readPiece yX7_readPiece (sqI T BB wR7 r m 0 1 (fun m' v => (m 86 3).toInt ≤ (m' 86 3).toInt ∧ (m' 86 3).toInt ≤ (m' 86 2).toInt ∧ (m' 86 2).toInt = (m 86 2).toInt ∧ (RSX (PI (tC m) 5 (m 86 3).toInt) v.toInt (m' 86 3).toInt (m' 86 4).toInt) ∧ (m' lb 7).toInt = (m lb 7).toInt)) 23 0 0 [.ref 86, .int 1] (mk T m n r) := by
  have Kp : fr wR7 m m := fr.rf
  have R0 := R
  have zR := R.2.2.2.2.1.1
  have zR2 := R.2.2.2.2.2.1
  have z216 : 0 ≤ (m 86 3).toInt ∧ (m 86 3).toInt ≤ 160 := I 86 3
  have z217 : 0 ≤ (m 86 2).toInt ∧ (m 86 2).toInt ≤ 160 := I 86 2
  refine PM.of 1 (lo := [.ref 86, .int 1, pv_U]) rfl (by decide) rfl rfl (Nat.le_of_ble_eq_true rfl) ?_
  refine pv_aload_n (M := mX7_readPiece) 0 dX7_readPiece_0 1 rfl rfl rfl ?_
  refine pv_callv (M := mX7_readPiece) (as := []) (st := []) (kc2 := 0) (ks2 := 0) dX7_readPiece_1 wd527 YX7_peek ⟨wd529, wd2⟩ (mk_get (tl86 hT)) rfl rfl (s_X7_peek_vx g hT I R) rfl rfl (Nat.le_of_ble_eq_true rfl) (by decide) rfl rfl 4 rfl (fun rv h1 q1 => ?_)
  obtain ⟨v2, rfl, rfl, pv2, qv2, rv2⟩ := q1
  replace rv2 : v2.toInt = tC m (m 86 3).toInt ∧ (v2.toInt = -1 ∨ (m 86 3).toInt < (m 86 2).toInt) := rv2
  show PV _ _ _ _ _ _ _ 4 [.ref 86, .int 1, pv_U] [.int v2] _
  have k4 := rv2.1
  have k4b := rv2.2
  refine pv_bipush (M := mX7_readPiece) (v := 33) dX7_readPiece_4 6 rfl (by decide) ?_
  refine pv_icmp_ne (M := mX7_readPiece) (tgt := 41) dX7_readPiece_6 9 rfl (by decide) (fun c5 => ?_) (fun c5 => ?_)
  · have c5 := iv_ne (X := v2.toInt) (Y := 33) c5 rfl (by decide)
    have kn33 : tC m (m 86 3).toInt ≠ 33 := by omega
    refine pv_aload_n (M := mX7_readPiece) 0 dX7_readPiece_41 42 rfl rfl rfl ?_
    refine pv_callv (M := mX7_readPiece) (as := []) (st := []) (kc2 := 0) (ks2 := 0) dX7_readPiece_42 wd527 YX7_peek ⟨wd529, wd2⟩ (mk_get (tl86 hT)) rfl rfl (s_X7_peek_vx g hT I R) rfl rfl (Nat.le_of_ble_eq_true rfl) (by decide) rfl rfl 45 rfl (fun rv h1 q7 => ?_)
    obtain ⟨v8, rfl, rfl, pv8, qv8, rv8⟩ := q7
    replace rv8 : v8.toInt = tC m (m 86 3).toInt ∧ (v8.toInt = -1 ∨ (m 86 3).toInt < (m 86 2).toInt) := rv8
    show PV _ _ _ _ _ _ _ 45 [.ref 86, .int 1, pv_U] [.int v8] _
    have k45 := rv8.1
    have k45b := rv8.2
    refine pv_bipush (M := mX7_readPiece) (v := 40) dX7_readPiece_45 47 rfl (by decide) ?_
    refine pv_icmp_ne (M := mX7_readPiece) (tgt := 83) dX7_readPiece_47 50 rfl (by decide) (fun c11 => ?_) (fun c11 => ?_)
    · have c11 := iv_ne (X := v8.toInt) (Y := 40) c11 rfl (by decide)
      have kn40 : tC m (m 86 3).toInt ≠ 40 := by omega
      refine pv_aload_n (M := mX7_readPiece) 0 dX7_readPiece_83 84 rfl rfl rfl ?_
      refine pv_iload_n (M := mX7_readPiece) 1 dX7_readPiece_84 85 rfl rfl rfl ?_
      have z13 : (1 : Int32).toInt = 1 := by decide
      refine pv_callv (M := mX7_readPiece) (as := [.int 1]) (st := []) (kc2 := 0) (ks2 := 0) dX7_readPiece_85 wd539 YX7_readSum ⟨wd541, wd4⟩ (mk_get (tl86 hT)) rfl rfl (s_X7_readSum_v1x g hT I R (by first | omega | assumption | exact (iv_rng _).2 | exact (iv_rng _).1 | decide) hp1) rfl rfl (Nat.le_of_ble_eq_true rfl) (by decide) rfl rfl 88 rfl (fun rv h1 q14 => ?_)
      obtain ⟨m15, n16, v19, rfl, rfl, I17, K18, pv19, qv19, rv19⟩ := q14
      replace rv19 : (m 86 3).toInt ≤ (m15 86 3).toInt ∧ (m15 86 3).toInt ≤ (m15 86 2).toInt ∧ (m15 86 2).toInt = (m 86 2).toInt ∧ (RSX (SU (tC m) 5 (m 86 3).toInt) v19.toInt (m15 86 3).toInt (m15 86 4).toInt) ∧ (m15 lb 7).toInt = (m lb 7).toInt := by have q_ := rv19; (try rw [z13] at q_); exact q_
      have K18c := K18
      have K18 := Kp.trans (K18.sub (fun _ _ q => q))
      show PV _ _ _ _ _ _ _ 88 [.ref 86, .int 1, pv_U] [.int v19] _
      have k88 := rv19.2.2.2.1
      refine pv_if_ne (M := mX7_readPiece) (tgt := 93) dX7_readPiece_88 91 rfl (by decide) (fun c21 => ?_) (fun c21 => ?_)
      · have c21 := iv_ne (X := v19.toInt) (Y := 0) c21 rfl (by decide)
        have k93 := RSX_ok k88 (by omega)
        have kt93 : tC m15 = tC m := tC_eq (K18 86 2 rfl) (fun j => K18 87 j rfl)
        have kA93 : (m15 86 3).toInt = (m15 86 3).toInt := rfl
        refine pv_aload_n (M := mX7_readPiece) 0 dX7_readPiece_93 94 rfl rfl rfl ?_
        refine pv_callv (M := mX7_readPiece) (as := []) (st := []) (kc2 := 0) (ks2 := 0) dX7_readPiece_94 wd527 YX7_peek ⟨wd529, wd2⟩ (mk_get (tl86 hT)) rfl rfl (s_X7_peek_vx g hT I17 R) rfl rfl (Nat.le_of_ble_eq_true rfl) (by decide) rfl rfl 97 rfl (fun rv h1 q25 => ?_)
        obtain ⟨v26, rfl, rfl, pv26, qv26, rv26⟩ := q25
        replace rv26 : v26.toInt = tC m15 (m15 86 3).toInt ∧ (v26.toInt = -1 ∨ (m15 86 3).toInt < (m15 86 2).toInt) := rv26
        show PV _ _ _ _ _ _ _ 97 [.ref 86, .int 1, pv_U] [.int v26] _
        have k97 := rv26.1
        have k97b := rv26.2
        rw [kt93] at k97
        refine pv_istore_n (M := mX7_readPiece) 2 (lo2 := [.ref 86, .int 1, .int v26]) dX7_readPiece_97 98 rfl rfl (by decide) rfl rfl ?_
        refine pv_iload_n (M := mX7_readPiece) 2 dX7_readPiece_98 99 rfl rfl rfl ?_
        refine pv_bipush (M := mX7_readPiece) (v := 60) dX7_readPiece_99 101 rfl (by decide) ?_
        refine pv_icmp_eq (M := mX7_readPiece) (tgt := 122) dX7_readPiece_101 104 rfl (by decide) (fun c30 => ?_) (fun c30 => ?_)
        · have c30 := iv_eq (X := v26.toInt) (Y := 60) c30 rfl (by decide)
          have kC : isC (tC m (m15 86 3).toInt) = true := by rw [← k97]; exact isC_y (by omega)
          refine pv_aload_n (M := mX7_readPiece) 0 dX7_readPiece_122 123 rfl rfl rfl ?_
          refine pv_dup (M := mX7_readPiece) dX7_readPiece_123 124 rfl rfl ?_
          refine iv_get (M := mX7_readPiece) (l1 := 0) (l2 := 160) dX7_readPiece_124 FX7 3 wd283 (by decide) (tl86 hT) rfl I17 rfl 127 rfl (fun v32 ev32 pv32 qv32 => ?_)
          have wv32 : v32.toInt = (m15 86 3).toInt := congrArg Int32.toInt ev32
          refine pv_iconst (M := mX7_readPiece) (v := 1) dX7_readPiece_127 128 rfl (by decide) ?_
          refine iv_iadd (M := mX7_readPiece) (X := v32.toInt) (Y := 1) dX7_readPiece_128 129 rfl rfl (by decide) (by omega) (by omega) (fun v33 ev33 => ?_)
          refine iv_put (M := mX7_readPiece) (l1 := 0) (l2 := 160) dX7_readPiece_129 FX7 3 wd283 (by decide) rfl (tl86 hT) rfl rfl rfl I17 rfl (by omega) (by omega) 132 rfl (fun m34 e37 I35 => ?_)
          have K36 := K18.set e37 (by decide)
          have w38 : (m34 86 3).toInt = v33.toInt := by rw [e37, up2_eq]
          have w39 : (m34 86 2).toInt = (m15 86 2).toInt := by rw [e37, up2_ne (by omega)]
          have w40 : (m34 86 4).toInt = (m15 86 4).toInt := by rw [e37, up2_ne (by omega)]
          have w41 : (m34 lb 7).toInt = (m15 lb 7).toInt := by rw [e37, up2_ne (by omega)]
          have kt132 : tC m34 = tC m := tC_eq (K36 86 2 rfl) (fun j => K36 87 j rfl)
          have kp132 : (m34 86 3).toInt = (m15 86 3).toInt + 1 := by omega
          refine pv_aload_n (M := mX7_readPiece) 0 dX7_readPiece_132 133 rfl rfl rfl ?_
          refine pv_iload_n (M := mX7_readPiece) 1 dX7_readPiece_133 134 rfl rfl rfl ?_
          have z44 : (1 : Int32).toInt = 1 := by decide
          refine pv_callv (M := mX7_readPiece) (as := [.int 1]) (st := []) (kc2 := 0) (ks2 := 0) dX7_readPiece_134 wd539 YX7_readSum ⟨wd541, wd4⟩ (mk_get (tl86 hT)) rfl rfl (s_X7_readSum_v1x g hT I35 R (by first | omega | assumption | exact (iv_rng _).2 | exact (iv_rng _).1 | decide) (TBC_eq hp1 kt132)) rfl rfl (Nat.le_of_ble_eq_true rfl) (by decide) rfl rfl 137 rfl (fun rv h1 q45 => ?_)
          obtain ⟨m46, n47, v50, rfl, rfl, I48, K49, pv50, qv50, rv50⟩ := q45
          replace rv50 : (m34 86 3).toInt ≤ (m46 86 3).toInt ∧ (m46 86 3).toInt ≤ (m46 86 2).toInt ∧ (m46 86 2).toInt = (m34 86 2).toInt ∧ (RSX (SU (tC m34) 5 (m34 86 3).toInt) v50.toInt (m46 86 3).toInt (m46 86 4).toInt) ∧ (m46 lb 7).toInt = (m34 lb 7).toInt := by have q_ := rv50; (try rw [z44] at q_); exact q_
          have K49c := K49
          have K49 := K36.trans (K49.sub (fun _ _ q => q))
          show PV _ _ _ _ _ _ _ 137 [.ref 86, .int 1, .int v26] [.int v50] _
          have k137 := rv50.2.2.2.1
          rw [kt132, kp132] at k137
          refine pv_if_ne (M := mX7_readPiece) (tgt := 142) dX7_readPiece_137 140 rfl (by decide) (fun c53 => ?_) (fun c53 => ?_)
          · have c53 := iv_ne (X := v50.toInt) (Y := 0) c53 rfl (by decide)
            refine pv_aload_n (M := mX7_readPiece) 0 dX7_readPiece_142 143 rfl rfl rfl ?_
            refine mv_get (M := mX7_readPiece) (v := .ref lb) dX7_readPiece_143 FX7 1 wd281 (by decide) (tl86 hT) rfl R.2.2.2.1 146 rfl ?_
            refine pv_iload_n (M := mX7_readPiece) 2 dX7_readPiece_146 147 rfl rfl rfl ?_
            refine pv_iconst (M := mX7_readPiece) (v := 0) dX7_readPiece_147 148 rfl (by decide) ?_
            have z54 : (0 : Int32).toInt = 0 := by decide
            refine pv_callv (M := mX7_readPiece) (as := [.int v26, .int 0]) (st := []) (kc2 := 0) (ks2 := 0) dX7_readPiece_148 wd567 YX6_emit ⟨wd568, wd569⟩ (mk_get R.2.2.2.2.2.2.1) rfl rfl (s_X6_emit_vx g hT I48 lb R.2.2.2.2.2 v26 0 (by decide) (by decide)) rfl rfl (Nat.le_of_ble_eq_true rfl) (by decide) rfl rfl 151 rfl (fun rv h1 q55 => ?_)
            obtain ⟨m56, n57, rfl, rfl, I58, K59, rm56⟩ := q55
            replace rm56 : (m56 lb 7).toInt = (m46 lb 7).toInt := rm56
            have K59c := K59
            have w60 : (m56 86 3).toInt = (m46 86 3).toInt := congrArg Int32.toInt (K59 86 3 (wr_out (by omega)))
            have w61 : (m56 86 2).toInt = (m46 86 2).toInt := congrArg Int32.toInt (K59 86 2 (wr_out (by omega)))
            have w62 : (m56 86 4).toInt = (m46 86 4).toInt := congrArg Int32.toInt (K59 86 4 (wr_out (by omega)))
            have K59 := K49.trans (K59.sub (by first | exact wR7_r (by omega) | exact wR7_wr))
            show PV _ _ _ _ _ _ _ 151 [.ref 86, .int 1, .int v26] [] _
            refine pv_iconst (M := mX7_readPiece) (v := 1) dX7_readPiece_151 152 rfl (by decide) ?_
            have z63 : (1 : Int32).toInt = 1 := by decide
            exact pv_iret (M := mX7_readPiece) dX7_readPiece_152 rfl rfl ⟨_, _, _, rfl, rfl, I58, K59, by decide, by decide, ⟨by omega, by omega, by omega, Or.inl ⟨by decide, by rw [PI_cm kn33 kn40, CM_ok k93 kC, RSX_ok k137 (by omega), show (m46 86 3).toInt = (m56 86 3).toInt by omega]⟩, by omega⟩⟩
          · have c53 := iv_eq (X := v50.toInt) (Y := 0) c53 rfl (by decide)
            refine pv_iconst (M := mX7_readPiece) (v := 0) dX7_readPiece_140 141 rfl (by decide) ?_
            have z64 : (0 : Int32).toInt = 0 := by decide
            exact pv_iret (M := mX7_readPiece) dX7_readPiece_141 rfl rfl ⟨_, _, _, rfl, rfl, I48, K49, by decide, by decide, ⟨by omega, by omega, by omega, Or.inr ⟨by decide, by rw [PI_cm kn33 kn40, CM_ok k93 kC]; exact RSX_fl k137 (by omega)⟩, by omega⟩⟩
        · have c30 := iv_ne (X := v26.toInt) (Y := 60) c30 rfl (by decide)
          refine pv_iload_n (M := mX7_readPiece) 2 dX7_readPiece_104 105 rfl rfl rfl ?_
          refine pv_bipush (M := mX7_readPiece) (v := 62) dX7_readPiece_105 107 rfl (by decide) ?_
          refine pv_icmp_eq (M := mX7_readPiece) (tgt := 122) dX7_readPiece_107 110 rfl (by decide) (fun c65 => ?_) (fun c65 => ?_)
          · have c65 := iv_eq (X := v26.toInt) (Y := 62) c65 rfl (by decide)
            have kC : isC (tC m (m15 86 3).toInt) = true := by rw [← k97]; exact isC_y (by omega)
            refine pv_aload_n (M := mX7_readPiece) 0 dX7_readPiece_122 123 rfl rfl rfl ?_
            refine pv_dup (M := mX7_readPiece) dX7_readPiece_123 124 rfl rfl ?_
            refine iv_get (M := mX7_readPiece) (l1 := 0) (l2 := 160) dX7_readPiece_124 FX7 3 wd283 (by decide) (tl86 hT) rfl I17 rfl 127 rfl (fun v67 ev67 pv67 qv67 => ?_)
            have wv67 : v67.toInt = (m15 86 3).toInt := congrArg Int32.toInt ev67
            refine pv_iconst (M := mX7_readPiece) (v := 1) dX7_readPiece_127 128 rfl (by decide) ?_
            refine iv_iadd (M := mX7_readPiece) (X := v67.toInt) (Y := 1) dX7_readPiece_128 129 rfl rfl (by decide) (by omega) (by omega) (fun v68 ev68 => ?_)
            refine iv_put (M := mX7_readPiece) (l1 := 0) (l2 := 160) dX7_readPiece_129 FX7 3 wd283 (by decide) rfl (tl86 hT) rfl rfl rfl I17 rfl (by omega) (by omega) 132 rfl (fun m69 e72 I70 => ?_)
            have K71 := K18.set e72 (by decide)
            have w73 : (m69 86 3).toInt = v68.toInt := by rw [e72, up2_eq]
            have w74 : (m69 86 2).toInt = (m15 86 2).toInt := by rw [e72, up2_ne (by omega)]
            have w75 : (m69 86 4).toInt = (m15 86 4).toInt := by rw [e72, up2_ne (by omega)]
            have w76 : (m69 lb 7).toInt = (m15 lb 7).toInt := by rw [e72, up2_ne (by omega)]
            have kt132 : tC m69 = tC m := tC_eq (K71 86 2 rfl) (fun j => K71 87 j rfl)
            have kp132 : (m69 86 3).toInt = (m15 86 3).toInt + 1 := by omega
            refine pv_aload_n (M := mX7_readPiece) 0 dX7_readPiece_132 133 rfl rfl rfl ?_
            refine pv_iload_n (M := mX7_readPiece) 1 dX7_readPiece_133 134 rfl rfl rfl ?_
            have z79 : (1 : Int32).toInt = 1 := by decide
            refine pv_callv (M := mX7_readPiece) (as := [.int 1]) (st := []) (kc2 := 0) (ks2 := 0) dX7_readPiece_134 wd539 YX7_readSum ⟨wd541, wd4⟩ (mk_get (tl86 hT)) rfl rfl (s_X7_readSum_v1x g hT I70 R (by first | omega | assumption | exact (iv_rng _).2 | exact (iv_rng _).1 | decide) (TBC_eq hp1 kt132)) rfl rfl (Nat.le_of_ble_eq_true rfl) (by decide) rfl rfl 137 rfl (fun rv h1 q80 => ?_)
            obtain ⟨m81, n82, v85, rfl, rfl, I83, K84, pv85, qv85, rv85⟩ := q80
            replace rv85 : (m69 86 3).toInt ≤ (m81 86 3).toInt ∧ (m81 86 3).toInt ≤ (m81 86 2).toInt ∧ (m81 86 2).toInt = (m69 86 2).toInt ∧ (RSX (SU (tC m69) 5 (m69 86 3).toInt) v85.toInt (m81 86 3).toInt (m81 86 4).toInt) ∧ (m81 lb 7).toInt = (m69 lb 7).toInt := by have q_ := rv85; (try rw [z79] at q_); exact q_
            have K84c := K84
            have K84 := K71.trans (K84.sub (fun _ _ q => q))
            show PV _ _ _ _ _ _ _ 137 [.ref 86, .int 1, .int v26] [.int v85] _
            have k137 := rv85.2.2.2.1
            rw [kt132, kp132] at k137
            refine pv_if_ne (M := mX7_readPiece) (tgt := 142) dX7_readPiece_137 140 rfl (by decide) (fun c88 => ?_) (fun c88 => ?_)
            · have c88 := iv_ne (X := v85.toInt) (Y := 0) c88 rfl (by decide)
              refine pv_aload_n (M := mX7_readPiece) 0 dX7_readPiece_142 143 rfl rfl rfl ?_
              refine mv_get (M := mX7_readPiece) (v := .ref lb) dX7_readPiece_143 FX7 1 wd281 (by decide) (tl86 hT) rfl R.2.2.2.1 146 rfl ?_
              refine pv_iload_n (M := mX7_readPiece) 2 dX7_readPiece_146 147 rfl rfl rfl ?_
              refine pv_iconst (M := mX7_readPiece) (v := 0) dX7_readPiece_147 148 rfl (by decide) ?_
              have z89 : (0 : Int32).toInt = 0 := by decide
              refine pv_callv (M := mX7_readPiece) (as := [.int v26, .int 0]) (st := []) (kc2 := 0) (ks2 := 0) dX7_readPiece_148 wd567 YX6_emit ⟨wd568, wd569⟩ (mk_get R.2.2.2.2.2.2.1) rfl rfl (s_X6_emit_vx g hT I83 lb R.2.2.2.2.2 v26 0 (by decide) (by decide)) rfl rfl (Nat.le_of_ble_eq_true rfl) (by decide) rfl rfl 151 rfl (fun rv h1 q90 => ?_)
              obtain ⟨m91, n92, rfl, rfl, I93, K94, rm91⟩ := q90
              replace rm91 : (m91 lb 7).toInt = (m81 lb 7).toInt := rm91
              have K94c := K94
              have w95 : (m91 86 3).toInt = (m81 86 3).toInt := congrArg Int32.toInt (K94 86 3 (wr_out (by omega)))
              have w96 : (m91 86 2).toInt = (m81 86 2).toInt := congrArg Int32.toInt (K94 86 2 (wr_out (by omega)))
              have w97 : (m91 86 4).toInt = (m81 86 4).toInt := congrArg Int32.toInt (K94 86 4 (wr_out (by omega)))
              have K94 := K84.trans (K94.sub (by first | exact wR7_r (by omega) | exact wR7_wr))
              show PV _ _ _ _ _ _ _ 151 [.ref 86, .int 1, .int v26] [] _
              refine pv_iconst (M := mX7_readPiece) (v := 1) dX7_readPiece_151 152 rfl (by decide) ?_
              have z98 : (1 : Int32).toInt = 1 := by decide
              exact pv_iret (M := mX7_readPiece) dX7_readPiece_152 rfl rfl ⟨_, _, _, rfl, rfl, I93, K94, by decide, by decide, ⟨by omega, by omega, by omega, Or.inl ⟨by decide, by rw [PI_cm kn33 kn40, CM_ok k93 kC, RSX_ok k137 (by omega), show (m81 86 3).toInt = (m91 86 3).toInt by omega]⟩, by omega⟩⟩
            · have c88 := iv_eq (X := v85.toInt) (Y := 0) c88 rfl (by decide)
              refine pv_iconst (M := mX7_readPiece) (v := 0) dX7_readPiece_140 141 rfl (by decide) ?_
              have z99 : (0 : Int32).toInt = 0 := by decide
              exact pv_iret (M := mX7_readPiece) dX7_readPiece_141 rfl rfl ⟨_, _, _, rfl, rfl, I83, K84, by decide, by decide, ⟨by omega, by omega, by omega, Or.inr ⟨by decide, by rw [PI_cm kn33 kn40, CM_ok k93 kC]; exact RSX_fl k137 (by omega)⟩, by omega⟩⟩
          · have c65 := iv_ne (X := v26.toInt) (Y := 62) c65 rfl (by decide)
            refine pv_iload_n (M := mX7_readPiece) 2 dX7_readPiece_110 111 rfl rfl rfl ?_
            refine pv_bipush (M := mX7_readPiece) (v := 61) dX7_readPiece_111 113 rfl (by decide) ?_
            refine pv_icmp_eq (M := mX7_readPiece) (tgt := 122) dX7_readPiece_113 116 rfl (by decide) (fun c100 => ?_) (fun c100 => ?_)
            · have c100 := iv_eq (X := v26.toInt) (Y := 61) c100 rfl (by decide)
              have kC : isC (tC m (m15 86 3).toInt) = true := by rw [← k97]; exact isC_y (by omega)
              refine pv_aload_n (M := mX7_readPiece) 0 dX7_readPiece_122 123 rfl rfl rfl ?_
              refine pv_dup (M := mX7_readPiece) dX7_readPiece_123 124 rfl rfl ?_
              refine iv_get (M := mX7_readPiece) (l1 := 0) (l2 := 160) dX7_readPiece_124 FX7 3 wd283 (by decide) (tl86 hT) rfl I17 rfl 127 rfl (fun v102 ev102 pv102 qv102 => ?_)
              have wv102 : v102.toInt = (m15 86 3).toInt := congrArg Int32.toInt ev102
              refine pv_iconst (M := mX7_readPiece) (v := 1) dX7_readPiece_127 128 rfl (by decide) ?_
              refine iv_iadd (M := mX7_readPiece) (X := v102.toInt) (Y := 1) dX7_readPiece_128 129 rfl rfl (by decide) (by omega) (by omega) (fun v103 ev103 => ?_)
              refine iv_put (M := mX7_readPiece) (l1 := 0) (l2 := 160) dX7_readPiece_129 FX7 3 wd283 (by decide) rfl (tl86 hT) rfl rfl rfl I17 rfl (by omega) (by omega) 132 rfl (fun m104 e107 I105 => ?_)
              have K106 := K18.set e107 (by decide)
              have w108 : (m104 86 3).toInt = v103.toInt := by rw [e107, up2_eq]
              have w109 : (m104 86 2).toInt = (m15 86 2).toInt := by rw [e107, up2_ne (by omega)]
              have w110 : (m104 86 4).toInt = (m15 86 4).toInt := by rw [e107, up2_ne (by omega)]
              have w111 : (m104 lb 7).toInt = (m15 lb 7).toInt := by rw [e107, up2_ne (by omega)]
              have kt132 : tC m104 = tC m := tC_eq (K106 86 2 rfl) (fun j => K106 87 j rfl)
              have kp132 : (m104 86 3).toInt = (m15 86 3).toInt + 1 := by omega
              refine pv_aload_n (M := mX7_readPiece) 0 dX7_readPiece_132 133 rfl rfl rfl ?_
              refine pv_iload_n (M := mX7_readPiece) 1 dX7_readPiece_133 134 rfl rfl rfl ?_
              have z114 : (1 : Int32).toInt = 1 := by decide
              refine pv_callv (M := mX7_readPiece) (as := [.int 1]) (st := []) (kc2 := 0) (ks2 := 0) dX7_readPiece_134 wd539 YX7_readSum ⟨wd541, wd4⟩ (mk_get (tl86 hT)) rfl rfl (s_X7_readSum_v1x g hT I105 R (by first | omega | assumption | exact (iv_rng _).2 | exact (iv_rng _).1 | decide) (TBC_eq hp1 kt132)) rfl rfl (Nat.le_of_ble_eq_true rfl) (by decide) rfl rfl 137 rfl (fun rv h1 q115 => ?_)
              obtain ⟨m116, n117, v120, rfl, rfl, I118, K119, pv120, qv120, rv120⟩ := q115
              replace rv120 : (m104 86 3).toInt ≤ (m116 86 3).toInt ∧ (m116 86 3).toInt ≤ (m116 86 2).toInt ∧ (m116 86 2).toInt = (m104 86 2).toInt ∧ (RSX (SU (tC m104) 5 (m104 86 3).toInt) v120.toInt (m116 86 3).toInt (m116 86 4).toInt) ∧ (m116 lb 7).toInt = (m104 lb 7).toInt := by have q_ := rv120; (try rw [z114] at q_); exact q_
              have K119c := K119
              have K119 := K106.trans (K119.sub (fun _ _ q => q))
              show PV _ _ _ _ _ _ _ 137 [.ref 86, .int 1, .int v26] [.int v120] _
              have k137 := rv120.2.2.2.1
              rw [kt132, kp132] at k137
              refine pv_if_ne (M := mX7_readPiece) (tgt := 142) dX7_readPiece_137 140 rfl (by decide) (fun c123 => ?_) (fun c123 => ?_)
              · have c123 := iv_ne (X := v120.toInt) (Y := 0) c123 rfl (by decide)
                refine pv_aload_n (M := mX7_readPiece) 0 dX7_readPiece_142 143 rfl rfl rfl ?_
                refine mv_get (M := mX7_readPiece) (v := .ref lb) dX7_readPiece_143 FX7 1 wd281 (by decide) (tl86 hT) rfl R.2.2.2.1 146 rfl ?_
                refine pv_iload_n (M := mX7_readPiece) 2 dX7_readPiece_146 147 rfl rfl rfl ?_
                refine pv_iconst (M := mX7_readPiece) (v := 0) dX7_readPiece_147 148 rfl (by decide) ?_
                have z124 : (0 : Int32).toInt = 0 := by decide
                refine pv_callv (M := mX7_readPiece) (as := [.int v26, .int 0]) (st := []) (kc2 := 0) (ks2 := 0) dX7_readPiece_148 wd567 YX6_emit ⟨wd568, wd569⟩ (mk_get R.2.2.2.2.2.2.1) rfl rfl (s_X6_emit_vx g hT I118 lb R.2.2.2.2.2 v26 0 (by decide) (by decide)) rfl rfl (Nat.le_of_ble_eq_true rfl) (by decide) rfl rfl 151 rfl (fun rv h1 q125 => ?_)
                obtain ⟨m126, n127, rfl, rfl, I128, K129, rm126⟩ := q125
                replace rm126 : (m126 lb 7).toInt = (m116 lb 7).toInt := rm126
                have K129c := K129
                have w130 : (m126 86 3).toInt = (m116 86 3).toInt := congrArg Int32.toInt (K129 86 3 (wr_out (by omega)))
                have w131 : (m126 86 2).toInt = (m116 86 2).toInt := congrArg Int32.toInt (K129 86 2 (wr_out (by omega)))
                have w132 : (m126 86 4).toInt = (m116 86 4).toInt := congrArg Int32.toInt (K129 86 4 (wr_out (by omega)))
                have K129 := K119.trans (K129.sub (by first | exact wR7_r (by omega) | exact wR7_wr))
                show PV _ _ _ _ _ _ _ 151 [.ref 86, .int 1, .int v26] [] _
                refine pv_iconst (M := mX7_readPiece) (v := 1) dX7_readPiece_151 152 rfl (by decide) ?_
                have z133 : (1 : Int32).toInt = 1 := by decide
                exact pv_iret (M := mX7_readPiece) dX7_readPiece_152 rfl rfl ⟨_, _, _, rfl, rfl, I128, K129, by decide, by decide, ⟨by omega, by omega, by omega, Or.inl ⟨by decide, by rw [PI_cm kn33 kn40, CM_ok k93 kC, RSX_ok k137 (by omega), show (m116 86 3).toInt = (m126 86 3).toInt by omega]⟩, by omega⟩⟩
              · have c123 := iv_eq (X := v120.toInt) (Y := 0) c123 rfl (by decide)
                refine pv_iconst (M := mX7_readPiece) (v := 0) dX7_readPiece_140 141 rfl (by decide) ?_
                have z134 : (0 : Int32).toInt = 0 := by decide
                exact pv_iret (M := mX7_readPiece) dX7_readPiece_141 rfl rfl ⟨_, _, _, rfl, rfl, I118, K119, by decide, by decide, ⟨by omega, by omega, by omega, Or.inr ⟨by decide, by rw [PI_cm kn33 kn40, CM_ok k93 kC]; exact RSX_fl k137 (by omega)⟩, by omega⟩⟩
            · have c100 := iv_ne (X := v26.toInt) (Y := 61) c100 rfl (by decide)
              refine pv_aload_n (M := mX7_readPiece) 0 dX7_readPiece_116 117 rfl rfl rfl ?_
              refine pv_iconst (M := mX7_readPiece) (v := 1) dX7_readPiece_117 118 rfl (by decide) ?_
              have z135 : (1 : Int32).toInt = 1 := by decide
              refine pv_callv (M := mX7_readPiece) (as := [.int 1]) (st := []) (kc2 := 0) (ks2 := 0) dX7_readPiece_118 wd531 YX7_fail ⟨wd533, wd3⟩ (mk_get (tl86 hT)) rfl rfl (s_X7_fail_vx g hT I17 R 1 (by decide) (by decide) (by first | omega | assumption | exact (iv_rng _).2 | exact (iv_rng _).1 | decide)) rfl rfl (Nat.le_of_ble_eq_true rfl) (by decide) rfl rfl 121 rfl (fun rv h1 q136 => ?_)
              obtain ⟨m137, n138, v141, rfl, rfl, I139, K140, pv141, qv141, rv141⟩ := q136
              replace rv141 : (m15 86 3).toInt ≤ (m137 86 3).toInt ∧ (m137 86 3).toInt ≤ (m137 86 2).toInt ∧ (m137 86 2).toInt = (m15 86 2).toInt ∧ (v141.toInt = 0 ∧ (m137 86 3).toInt = (m15 86 3).toInt ∧ (m137 86 4).toInt = -1000 * (1 : Int) - (m15 86 3).toInt) ∧ (m137 lb 7).toInt = (m15 lb 7).toInt := by have q_ := rv141; (try rw [z135] at q_); exact q_
              have K140c := K140
              have K140 := K18.trans (K140.sub (fun _ _ q => q))
              show PV _ _ _ _ _ _ _ 121 [.ref 86, .int 1, .int v26] [.int v141] _
              exact pv_iret (M := mX7_readPiece) dX7_readPiece_121 rfl (iv_nz (by omega) (by omega)) ⟨_, _, _, rfl, rfl, I139, K140, by omega, by omega, ⟨by omega, by omega, by omega, Or.inr ⟨by omega, by rw [PI_cm kn33 kn40]; exact CM_no k93 (isC_no (by omega) (by omega) (by omega)) (by omega)⟩, by omega⟩⟩
      · have c21 := iv_eq (X := v19.toInt) (Y := 0) c21 rfl (by decide)
        refine pv_iconst (M := mX7_readPiece) (v := 0) dX7_readPiece_91 92 rfl (by decide) ?_
        have z142 : (0 : Int32).toInt = 0 := by decide
        exact pv_iret (M := mX7_readPiece) dX7_readPiece_92 rfl rfl ⟨_, _, _, rfl, rfl, I17, K18, by decide, by decide, ⟨by omega, by omega, by omega, Or.inr ⟨by decide, by rw [PI_cm kn33 kn40]; exact CM_fl (RSX_fl k88 (by omega))⟩, by omega⟩⟩
    · have c11 := iv_eq (X := v8.toInt) (Y := 40) c11 rfl (by decide)
      have k40 : tC m (m 86 3).toInt = 40 := by omega
      refine pv_aload_n (M := mX7_readPiece) 0 dX7_readPiece_50 51 rfl rfl rfl ?_
      refine pv_iload_n (M := mX7_readPiece) 1 dX7_readPiece_51 52 rfl rfl rfl ?_
      have z144 : (1 : Int32).toInt = 1 := by decide
      refine pv_callv (M := mX7_readPiece) (as := [.int 1]) (st := []) (kc2 := 0) (ks2 := 0) dX7_readPiece_52 wd551 YX7_open ⟨wd553, wd7⟩ (mk_get (tl86 hT)) rfl rfl (s_X7_open_vx g hT I R 1 (by decide) (by decide) (by first | omega | assumption | exact (iv_rng _).2 | exact (iv_rng _).1 | decide)) rfl rfl (Nat.le_of_ble_eq_true rfl) (by decide) rfl rfl 55 rfl (fun rv h1 q145 => ?_)
      obtain ⟨m146, n147, v150, rfl, rfl, I148, K149, pv150, qv150, rv150⟩ := q145
      replace rv150 : (v150 = 0 ∨ (1 : Int) ≤ 5) ∧ (m 86 3).toInt ≤ (m146 86 3).toInt ∧ (m146 86 3).toInt ≤ (m146 86 2).toInt ∧ (m146 86 2).toInt = (m 86 2).toInt ∧ ((v150.toInt = 1 ∧ (1 : Int) ≤ 5 ∧ (m146 86 3).toInt = (m 86 3).toInt + 1) ∨ (v150.toInt = 0 ∧ 6 ≤ (1 : Int) ∧ (m146 86 4).toInt = -5000 - (m 86 3).toInt ∧ (m146 86 3).toInt = (m 86 3).toInt)) ∧ (m146 lb 7).toInt = (m lb 7).toInt := by have q_ := rv150; (try rw [z144] at q_); exact q_
      have K149c := K149
      have K149 := Kp.trans (K149.sub (fun _ _ q => q))
      show PV _ _ _ _ _ _ _ 55 [.ref 86, .int 1, pv_U] [.int v150] _
      refine pv_if_eq (M := mX7_readPiece) (tgt := 81) dX7_readPiece_55 58 rfl (by decide) (fun c151 => ?_) (fun c151 => ?_)
      · have c151 := iv_eq (X := v150.toInt) (Y := 0) c151 rfl (by decide)
        refine pv_iconst (M := mX7_readPiece) (v := 0) dX7_readPiece_81 82 rfl (by decide) ?_
        have z152 : (0 : Int32).toInt = 0 := by decide
        exact pv_iret (M := mX7_readPiece) dX7_readPiece_82 rfl rfl ⟨_, _, _, rfl, rfl, I148, K149, by decide, by decide, ⟨by omega, by omega, by omega, (by first | exact Or.inr ⟨by decide, PX_deep (Or.inr k40) (by omega)⟩ | exact Or.inr ⟨by decide, PX_cn k40 k68 (fun z => by omega) (by omega)⟩ | exact Or.inl ⟨by decide, PX_co k40 k68 (by omega) (by omega)⟩ | exact Or.inr ⟨by decide, PX_con k40 (RSX_fl k65 (by omega))⟩ | (exfalso; omega)), by omega⟩⟩
      · have pc151 := rv150.1.resolve_left c151
        have c151 := iv_ne (X := v150.toInt) (Y := 0) c151 rfl (by decide)
        have kt58 : tC m146 = tC m := tC_eq (K149 86 2 rfl) (fun j => K149 87 j rfl)
        have kp58 : (m146 86 3).toInt = (m 86 3).toInt + 1 := by omega
        refine pv_aload_n (M := mX7_readPiece) 0 dX7_readPiece_58 59 rfl rfl rfl ?_
        refine pv_iload_n (M := mX7_readPiece) 1 dX7_readPiece_59 60 rfl rfl rfl ?_
        refine pv_iconst (M := mX7_readPiece) (v := 1) dX7_readPiece_60 61 rfl (by decide) ?_
        refine pv_iadd (M := mX7_readPiece) (v := 2) dX7_readPiece_61 62 rfl (by decide) ?_
        have z156 : (2 : Int32).toInt = 2 := by decide
        refine pv_callv (M := mX7_readPiece) (as := [.int 2]) (st := []) (kc2 := 0) (ks2 := 0) dX7_readPiece_62 wd662 YX7_readCondition ⟨wd664, wd12⟩ (mk_get (tl86 hT)) rfl rfl (s_X7_readCondition_v2x g hT I148 R (by first | omega | assumption | exact (iv_rng _).2 | exact (iv_rng _).1 | decide) (TBC_eq hp1 kt58)) rfl rfl (Nat.le_of_ble_eq_true rfl) (by decide) rfl rfl 65 rfl (fun rv h1 q157 => ?_)
        obtain ⟨m158, n159, v162, rfl, rfl, I160, K161, pv162, qv162, rv162⟩ := q157
        replace rv162 : (m146 86 3).toInt ≤ (m158 86 3).toInt ∧ (m158 86 3).toInt ≤ (m158 86 2).toInt ∧ (m158 86 2).toInt = (m146 86 2).toInt ∧ (RSX (CN (tC m146) 4 (m146 86 3).toInt) v162.toInt (m158 86 3).toInt (m158 86 4).toInt) ∧ (m158 lb 7).toInt = (m146 lb 7).toInt := by have q_ := rv162; (try rw [z156] at q_); exact q_
        have K161c := K161
        have K161 := K149.trans (K161.sub (fun _ _ q => q))
        show PV _ _ _ _ _ _ _ 65 [.ref 86, .int 1, pv_U] [.int v162] _
        have k65 := rv162.2.2.2.1
        rw [kt58, kp58] at k65
        refine pv_if_eq (M := mX7_readPiece) (tgt := 81) dX7_readPiece_65 68 rfl (by decide) (fun c165 => ?_) (fun c165 => ?_)
        · have c165 := iv_eq (X := v162.toInt) (Y := 0) c165 rfl (by decide)
          refine pv_iconst (M := mX7_readPiece) (v := 0) dX7_readPiece_81 82 rfl (by decide) ?_
          have z166 : (0 : Int32).toInt = 0 := by decide
          exact pv_iret (M := mX7_readPiece) dX7_readPiece_82 rfl rfl ⟨_, _, _, rfl, rfl, I160, K161, by decide, by decide, ⟨by omega, by omega, by omega, (by first | exact Or.inr ⟨by decide, PX_deep (Or.inr k40) (by omega)⟩ | exact Or.inr ⟨by decide, PX_cn k40 k68 (fun z => by omega) (by omega)⟩ | exact Or.inl ⟨by decide, PX_co k40 k68 (by omega) (by omega)⟩ | exact Or.inr ⟨by decide, PX_con k40 (RSX_fl k65 (by omega))⟩ | (exfalso; omega)), by omega⟩⟩
        · have c165 := iv_ne (X := v162.toInt) (Y := 0) c165 rfl (by decide)
          have k68 := RSX_ok k65 (by omega)
          have kt68 : tC m158 = tC m := tC_eq (K161 86 2 rfl) (fun j => K161 87 j rfl)
          refine pv_aload_n (M := mX7_readPiece) 0 dX7_readPiece_68 69 rfl rfl rfl ?_
          refine pv_bipush (M := mX7_readPiece) (v := 41) dX7_readPiece_69 71 rfl (by decide) ?_
          have z169 : (41 : Int32).toInt = 41 := by decide
          refine pv_callv (M := mX7_readPiece) (as := [.int 41]) (st := []) (kc2 := 0) (ks2 := 0) dX7_readPiece_71 wd555 YX7_pass ⟨wd557, wd8⟩ (mk_get (tl86 hT)) rfl rfl (s_X7_pass_vx g hT I160 R 41 (by decide) (by decide) (by first | omega | assumption | exact (iv_rng _).2 | exact (iv_rng _).1 | decide)) rfl rfl (Nat.le_of_ble_eq_true rfl) (by decide) rfl rfl 74 rfl (fun rv h1 q170 => ?_)
          obtain ⟨m171, n172, v175, rfl, rfl, I173, K174, pv175, qv175, rv175⟩ := q170
          replace rv175 : (m158 86 3).toInt ≤ (m171 86 3).toInt ∧ (m171 86 3).toInt ≤ (m171 86 2).toInt ∧ (m171 86 2).toInt = (m158 86 2).toInt ∧ ((v175.toInt = 1 ∧ tC m158 (m158 86 3).toInt = (41 : Int) ∧ (m171 86 3).toInt = (m158 86 3).toInt + 1) ∨ (v175.toInt = 0 ∧ tC m158 (m158 86 3).toInt ≠ (41 : Int) ∧ (m171 86 4).toInt = -1000 - (m158 86 3).toInt ∧ (m171 86 3).toInt = (m158 86 3).toInt)) ∧ (m171 lb 7).toInt = (m158 lb 7).toInt := by have q_ := rv175; (try rw [z169] at q_); exact q_
          have K174c := K174
          have K174 := K161.trans (K174.sub (fun _ _ q => q))
          show PV _ _ _ _ _ _ _ 74 [.ref 86, .int 1, pv_U] [.int v175] _
          have k74 := rv175.2.2.2.1
          rw [kt68] at k74
          refine pv_if_eq (M := mX7_readPiece) (tgt := 81) dX7_readPiece_74 77 rfl (by decide) (fun c178 => ?_) (fun c178 => ?_)
          · have c178 := iv_eq (X := v175.toInt) (Y := 0) c178 rfl (by decide)
            refine pv_iconst (M := mX7_readPiece) (v := 0) dX7_readPiece_81 82 rfl (by decide) ?_
            have z179 : (0 : Int32).toInt = 0 := by decide
            exact pv_iret (M := mX7_readPiece) dX7_readPiece_82 rfl rfl ⟨_, _, _, rfl, rfl, I173, K174, by decide, by decide, ⟨by omega, by omega, by omega, (by first | exact Or.inr ⟨by decide, PX_deep (Or.inr k40) (by omega)⟩ | exact Or.inr ⟨by decide, PX_cn k40 k68 (fun z => by omega) (by omega)⟩ | exact Or.inl ⟨by decide, PX_co k40 k68 (by omega) (by omega)⟩ | exact Or.inr ⟨by decide, PX_con k40 (RSX_fl k65 (by omega))⟩ | (exfalso; omega)), by omega⟩⟩
          · have c178 := iv_ne (X := v175.toInt) (Y := 0) c178 rfl (by decide)
            refine pv_iconst (M := mX7_readPiece) (v := 1) dX7_readPiece_77 78 rfl (by decide) ?_
            refine pv_goto (M := mX7_readPiece) (tgt := 82) dX7_readPiece_78 (by decide) ?_
            have z180 : (1 : Int32).toInt = 1 := by decide
            exact pv_iret (M := mX7_readPiece) dX7_readPiece_82 rfl rfl ⟨_, _, _, rfl, rfl, I173, K174, by decide, by decide, ⟨by omega, by omega, by omega, (by first | exact Or.inr ⟨by decide, PX_deep (Or.inr k40) (by omega)⟩ | exact Or.inr ⟨by decide, PX_cn k40 k68 (fun z => by omega) (by omega)⟩ | exact Or.inl ⟨by decide, PX_co k40 k68 (by omega) (by omega)⟩ | exact Or.inr ⟨by decide, PX_con k40 (RSX_fl k65 (by omega))⟩ | (exfalso; omega)), by omega⟩⟩
  · have c5 := iv_eq (X := v2.toInt) (Y := 33) c5 rfl (by decide)
    have k33 : tC m (m 86 3).toInt = 33 := by omega
    refine pv_aload_n (M := mX7_readPiece) 0 dX7_readPiece_9 10 rfl rfl rfl ?_
    refine pv_iload_n (M := mX7_readPiece) 1 dX7_readPiece_10 11 rfl rfl rfl ?_
    have z182 : (1 : Int32).toInt = 1 := by decide
    refine pv_callv (M := mX7_readPiece) (as := [.int 1]) (st := []) (kc2 := 0) (ks2 := 0) dX7_readPiece_11 wd551 YX7_open ⟨wd553, wd7⟩ (mk_get (tl86 hT)) rfl rfl (s_X7_open_vx g hT I R 1 (by decide) (by decide) (by first | omega | assumption | exact (iv_rng _).2 | exact (iv_rng _).1 | decide)) rfl rfl (Nat.le_of_ble_eq_true rfl) (by decide) rfl rfl 14 rfl (fun rv h1 q183 => ?_)
    obtain ⟨m184, n185, v188, rfl, rfl, I186, K187, pv188, qv188, rv188⟩ := q183
    replace rv188 : (v188 = 0 ∨ (1 : Int) ≤ 5) ∧ (m 86 3).toInt ≤ (m184 86 3).toInt ∧ (m184 86 3).toInt ≤ (m184 86 2).toInt ∧ (m184 86 2).toInt = (m 86 2).toInt ∧ ((v188.toInt = 1 ∧ (1 : Int) ≤ 5 ∧ (m184 86 3).toInt = (m 86 3).toInt + 1) ∨ (v188.toInt = 0 ∧ 6 ≤ (1 : Int) ∧ (m184 86 4).toInt = -5000 - (m 86 3).toInt ∧ (m184 86 3).toInt = (m 86 3).toInt)) ∧ (m184 lb 7).toInt = (m lb 7).toInt := by have q_ := rv188; (try rw [z182] at q_); exact q_
    have K187c := K187
    have K187 := Kp.trans (K187.sub (fun _ _ q => q))
    show PV _ _ _ _ _ _ _ 14 [.ref 86, .int 1, pv_U] [.int v188] _
    refine pv_if_eq (M := mX7_readPiece) (tgt := 27) dX7_readPiece_14 17 rfl (by decide) (fun c189 => ?_) (fun c189 => ?_)
    · have c189 := iv_eq (X := v188.toInt) (Y := 0) c189 rfl (by decide)
      refine pv_iconst (M := mX7_readPiece) (v := 0) dX7_readPiece_27 28 rfl (by decide) ?_
      have z190 : (0 : Int32).toInt = 0 := by decide
      exact pv_iret (M := mX7_readPiece) dX7_readPiece_28 rfl rfl ⟨_, _, _, rfl, rfl, I186, K187, by decide, by decide, ⟨by omega, by omega, by omega, (by first | exact Or.inr ⟨by decide, PX_deep (Or.inl k33) (by omega)⟩ | exact Or.inr ⟨by decide, by rw [PI_not k33]; exact RSX_fl k24 (by omega)⟩ | (exfalso; omega)), by omega⟩⟩
    · have pc189 := rv188.1.resolve_left c189
      have c189 := iv_ne (X := v188.toInt) (Y := 0) c189 rfl (by decide)
      have kt17 : tC m184 = tC m := tC_eq (K187 86 2 rfl) (fun j => K187 87 j rfl)
      have kp17 : (m184 86 3).toInt = (m 86 3).toInt + 1 := by omega
      refine pv_aload_n (M := mX7_readPiece) 0 dX7_readPiece_17 18 rfl rfl rfl ?_
      refine pv_iload_n (M := mX7_readPiece) 1 dX7_readPiece_18 19 rfl rfl rfl ?_
      refine pv_iconst (M := mX7_readPiece) (v := 1) dX7_readPiece_19 20 rfl (by decide) ?_
      refine pv_iadd (M := mX7_readPiece) (v := 2) dX7_readPiece_20 21 rfl (by decide) ?_
      have z194 : (2 : Int32).toInt = 2 := by decide
      refine pv_callv (M := mX7_readPiece) (as := [.int 2]) (st := []) (kc2 := 0) (ks2 := 0) dX7_readPiece_21 wd674 YX7_readPiece ⟨wd676, wd14⟩ (mk_get (tl86 hT)) rfl rfl (s_X7_readPiece_v2x g hT I186 R (by first | omega | assumption | exact (iv_rng _).2 | exact (iv_rng _).1 | decide) (TBC_eq hp1 kt17)) rfl rfl (Nat.le_of_ble_eq_true rfl) (by decide) rfl rfl 24 rfl (fun rv h1 q195 => ?_)
      obtain ⟨m196, n197, v200, rfl, rfl, I198, K199, pv200, qv200, rv200⟩ := q195
      replace rv200 : (m184 86 3).toInt ≤ (m196 86 3).toInt ∧ (m196 86 3).toInt ≤ (m196 86 2).toInt ∧ (m196 86 2).toInt = (m184 86 2).toInt ∧ (RSX (PI (tC m184) 4 (m184 86 3).toInt) v200.toInt (m196 86 3).toInt (m196 86 4).toInt) ∧ (m196 lb 7).toInt = (m184 lb 7).toInt := by have q_ := rv200; (try rw [z194] at q_); exact q_
      have K199c := K199
      have K199 := K187.trans (K199.sub (fun _ _ q => q))
      show PV _ _ _ _ _ _ _ 24 [.ref 86, .int 1, pv_U] [.int v200] _
      have k24 := rv200.2.2.2.1
      rw [kt17, kp17] at k24
      refine pv_if_ne (M := mX7_readPiece) (tgt := 29) dX7_readPiece_24 27 rfl (by decide) (fun c203 => ?_) (fun c203 => ?_)
      · have c203 := iv_ne (X := v200.toInt) (Y := 0) c203 rfl (by decide)
        refine pv_aload_n (M := mX7_readPiece) 0 dX7_readPiece_29 30 rfl rfl rfl ?_
        refine mv_get (M := mX7_readPiece) (v := .ref lb) dX7_readPiece_30 FX7 1 wd281 (by decide) (tl86 hT) rfl R.2.2.2.1 33 rfl ?_
        refine pv_bipush (M := mX7_readPiece) (v := 33) dX7_readPiece_33 35 rfl (by decide) ?_
        refine pv_iconst (M := mX7_readPiece) (v := 0) dX7_readPiece_35 36 rfl (by decide) ?_
        have z204 : (33 : Int32).toInt = 33 := by decide
        have z205 : (0 : Int32).toInt = 0 := by decide
        refine pv_callv (M := mX7_readPiece) (as := [.int 33, .int 0]) (st := []) (kc2 := 0) (ks2 := 0) dX7_readPiece_36 wd567 YX6_emit ⟨wd568, wd569⟩ (mk_get R.2.2.2.2.2.2.1) rfl rfl (s_X6_emit_vx g hT I198 lb R.2.2.2.2.2 33 0 (by decide) (by decide)) rfl rfl (Nat.le_of_ble_eq_true rfl) (by decide) rfl rfl 39 rfl (fun rv h1 q206 => ?_)
        obtain ⟨m207, n208, rfl, rfl, I209, K210, rm207⟩ := q206
        replace rm207 : (m207 lb 7).toInt = (m196 lb 7).toInt := rm207
        have K210c := K210
        have w211 : (m207 86 3).toInt = (m196 86 3).toInt := congrArg Int32.toInt (K210 86 3 (wr_out (by omega)))
        have w212 : (m207 86 2).toInt = (m196 86 2).toInt := congrArg Int32.toInt (K210 86 2 (wr_out (by omega)))
        have w213 : (m207 86 4).toInt = (m196 86 4).toInt := congrArg Int32.toInt (K210 86 4 (wr_out (by omega)))
        have K210 := K199.trans (K210.sub (by first | exact wR7_r (by omega) | exact wR7_wr))
        show PV _ _ _ _ _ _ _ 39 [.ref 86, .int 1, pv_U] [] _
        refine pv_iconst (M := mX7_readPiece) (v := 1) dX7_readPiece_39 40 rfl (by decide) ?_
        have z214 : (1 : Int32).toInt = 1 := by decide
        exact pv_iret (M := mX7_readPiece) dX7_readPiece_40 rfl rfl ⟨_, _, _, rfl, rfl, I209, K210, by decide, by decide, ⟨by omega, by omega, by omega, Or.inl ⟨by decide, by rw [PI_not k33, RSX_ok k24 (by omega), show (m196 86 3).toInt = (m207 86 3).toInt by omega]⟩, by omega⟩⟩
      · have c203 := iv_eq (X := v200.toInt) (Y := 0) c203 rfl (by decide)
        refine pv_iconst (M := mX7_readPiece) (v := 0) dX7_readPiece_27 28 rfl (by decide) ?_
        have z215 : (0 : Int32).toInt = 0 := by decide
        exact pv_iret (M := mX7_readPiece) dX7_readPiece_28 rfl rfl ⟨_, _, _, rfl, rfl, I198, K199, by decide, by decide, ⟨by omega, by omega, by omega, (by first | exact Or.inr ⟨by decide, PX_deep (Or.inl k33) (by omega)⟩ | exact Or.inr ⟨by decide, by rw [PI_not k33]; exact RSX_fl k24 (by omega)⟩ | (exfalso; omega)), by omega⟩⟩

set_option maxHeartbeats 2000000 in
set_option maxRecDepth 20000 in
theorem s_X7_readPart_v1x (g : pv_G) {T : List mv_T} {m : Nat → Nat → Int32} {n : Nat → Nat → Int64} {r : Nat → Value} {la lb : Nat} (hT : TX T) (I : IV BB m) (R : RX T r la lb) (hp0 : (m 86 3).toInt ≤ (m 86 2).toInt) (hp1 : TBC m) : PM g mX7_readPart yX7_readPart (sqI T BB wR7 r m 0 1 (fun m' v => (m 86 3).toInt ≤ (m' 86 3).toInt ∧ (m' 86 3).toInt ≤ (m' 86 2).toInt ∧ (m' 86 2).toInt = (m 86 2).toInt ∧ ((v.toInt = 0 ∨ (m 86 3).toInt + 1 ≤ (m' 86 3).toInt) ∧ TRX (CN (tC m) 5 (m 86 3).toInt) (LB (tC m) 5) (fun a => tC m a ≠ 38) v.toInt (m' 86 3).toInt (m' 86 4).toInt) ∧ (m' lb 7).toInt = (m lb 7).toInt)) 24 0 0 [.ref 86, .int 1] (mk T m n r) := by
  have Kp : fr wR7 m m := fr.rf
  have R0 := R
  have zR := R.2.2.2.2.1.1
  have zR2 := R.2.2.2.2.2.1
  have z91 : 0 ≤ (m 86 3).toInt ∧ (m 86 3).toInt ≤ 160 := I 86 3
  have z92 : 0 ≤ (m 86 2).toInt ∧ (m 86 2).toInt ≤ 160 := I 86 2
  refine PM.of 2 (lo := [.ref 86, .int 1, pv_U, pv_U]) rfl (by decide) rfl rfl (Nat.le_of_ble_eq_true rfl) ?_
  have kTX := TXT_C I
  refine pv_aload_n (M := mX7_readPart) 0 dX7_readPart_0 1 rfl rfl rfl ?_
  refine mv_get (M := mX7_readPart) (v := .ref lb) dX7_readPart_1 FX7 1 wd281 (by decide) (tl86 hT) rfl R.2.2.2.1 4 rfl ?_
  refine pv_callv (M := mX7_readPart) (as := []) (st := []) (kc2 := 0) (ks2 := 0) dX7_readPart_4 wd666 YX6_steps ⟨wd667, wd668⟩ (mk_get R.2.2.2.2.2.2.1) rfl rfl (s_X6_steps g hT I lb R.2.2.2.2.2) rfl rfl (Nat.le_of_ble_eq_true rfl) (by decide) rfl rfl 7 rfl (fun rv h1 q2 => ?_)
  obtain ⟨v3, rfl, rfl, pv3, qv3, rv3⟩ := q2
  show PV _ _ _ _ _ _ _ 7 [.ref 86, .int 1, pv_U, pv_U] [.int v3] _
  refine pv_istore_n (M := mX7_readPart) 2 (lo2 := [.ref 86, .int 1, .int v3, pv_U]) dX7_readPart_7 8 rfl rfl (by decide) rfl rfl ?_
  refine pv_iconst (M := mX7_readPart) (v := 0) dX7_readPart_8 9 rfl (by decide) ?_
  refine pv_istore_n (M := mX7_readPart) 3 (lo2 := [.ref 86, .int 1, .int v3, .int 0]) dX7_readPart_9 10 rfl rfl (by decide) rfl rfl ?_
  have lp10 : ∀ (fuel9 : Nat) (y4 : Int32) (m5 : Nat → Nat → Int32) (n6 : Nat → Nat → Int64), (0 ≤ y4.toInt) → (y4.toInt ≤ 160) → ((m5 86 3).toInt ≤ (m5 86 2).toInt) → ((m5 86 2).toInt = (m 86 2).toInt) → ((m5 lb 7).toInt = (m lb 7).toInt) → ((m 86 3).toInt + 2 * y4.toInt ≤ (m5 86 3).toInt) → (CN (tC m) 5 (m 86 3).toInt = CN (tC m) 5 (m5 86 3).toInt) → IV BB m5 → fr wR7 m m5 → ((160 - y4.toInt) : Int).toNat < fuel9 → PV none g mX7_readPart (sqI T BB wR7 r m 0 1 (fun m' v => (m 86 3).toInt ≤ (m' 86 3).toInt ∧ (m' 86 3).toInt ≤ (m' 86 2).toInt ∧ (m' 86 2).toInt = (m 86 2).toInt ∧ ((v.toInt = 0 ∨ (m 86 3).toInt + 1 ≤ (m' 86 3).toInt) ∧ TRX (CN (tC m) 5 (m 86 3).toInt) (LB (tC m) 5) (fun a => tC m a ≠ 38) v.toInt (m' 86 3).toInt (m' 86 4).toInt) ∧ (m' lb 7).toInt = (m lb 7).toInt)) 24 0 0 10 [.ref 86, .int 1, .int v3, .int y4] [] (mk T m5 n6 r) := by
    intro fuel9
    induction fuel9 with
    | zero => intro y4 m5 n6 b12 b13 b14 b15 b16 b17 b18 I7 K8 z19; omega
    | succ fuel9 ih11 =>
      intro y4 m5 n6 b12 b13 b14 b15 b16 b17 b18 I7 K8 z19
      have z20 : 0 ≤ (m5 86 3).toInt ∧ (m5 86 3).toInt ≤ 160 := I7 86 3
      have z21 : 0 ≤ (m5 86 2).toInt ∧ (m5 86 2).toInt ≤ 160 := I7 86 2
      have kgc := (show CN (tC m) 5 (m 86 3).toInt = CN (tC m) 5 (m5 86 3).toInt by assumption)
      have kt10 : tC m5 = tC m := tC_eq (K8 86 2 rfl) (fun j => K8 87 j rfl)
      refine pv_iload_n (M := mX7_readPart) 3 dX7_readPart_10 11 rfl rfl rfl ?_
      refine pv_sipush (M := mX7_readPart) (v := 160) dX7_readPart_11 14 rfl (by decide) ?_
      refine pv_icmp_ge (M := mX7_readPart) (tgt := 65) dX7_readPart_14 17 rfl (by decide) (fun c24 => ?_) (fun c24 => ?_)
      · have c24 := iv_le (X := 160) (Y := y4.toInt) c24 (by decide) rfl
        refine pv_aload_n (M := mX7_readPart) 0 dX7_readPart_65 66 rfl rfl rfl ?_
        refine mv_get (M := mX7_readPart) (v := .ref lb) dX7_readPart_66 FX7 1 wd281 (by decide) (tl86 hT) rfl R.2.2.2.1 69 rfl ?_
        refine pv_bipush (M := mX7_readPart) (v := 38) dX7_readPart_69 71 rfl (by decide) ?_
        refine pv_iload_n (M := mX7_readPart) 2 dX7_readPart_71 72 rfl rfl rfl ?_
        have z25 : (38 : Int32).toInt = 38 := by decide
        refine pv_callv (M := mX7_readPart) (as := [.int 38, .int v3]) (st := []) (kc2 := 0) (ks2 := 0) dX7_readPart_72 wd678 YX6_aimLeaps ⟨wd679, wd680⟩ (mk_get R.2.2.2.2.2.2.1) rfl rfl (s_X6_aimLeaps_vx g hT I7 lb R.2.2.2.2.2 38 v3) rfl rfl (Nat.le_of_ble_eq_true rfl) (by decide) rfl rfl 75 rfl (fun rv h1 q26 => ?_)
        obtain ⟨m27, n28, rfl, rfl, I29, K30, rm27⟩ := q26
        replace rm27 : (m27 lb 7).toInt = (m5 lb 7).toInt := rm27
        have K30c := K30
        have w31 : (m27 86 3).toInt = (m5 86 3).toInt := congrArg Int32.toInt (K30 86 3 (wr_out (by omega)))
        have w32 : (m27 86 2).toInt = (m5 86 2).toInt := congrArg Int32.toInt (K30 86 2 (wr_out (by omega)))
        have w33 : (m27 86 4).toInt = (m5 86 4).toInt := congrArg Int32.toInt (K30 86 4 (wr_out (by omega)))
        have K30 := K8.trans (K30.sub (by first | exact wR7_r (by omega) | exact wR7_wr))
        show PV _ _ _ _ _ _ _ 75 [.ref 86, .int 1, .int v3, .int y4] [] _
        refine pv_iconst (M := mX7_readPart) (v := 1) dX7_readPart_75 76 rfl (by decide) ?_
        have z34 : (1 : Int32).toInt = 1 := by decide
        exact pv_iret (M := mX7_readPart) dX7_readPart_76 rfl rfl ⟨_, _, _, rfl, rfl, I29, K30, by decide, by decide, ⟨by omega, by omega, by omega, (by first | exact ⟨Or.inr (by omega), Or.inl ⟨by decide, by rw [kgc, k27]; congr 1; omega, by show tC m (m27 86 3).toInt ≠ 38; rw [show (m27 86 3).toInt = (m5 86 3).toInt by omega, ← k31]; omega⟩⟩ | (exfalso; omega)), by omega⟩⟩
      · have c24 := iv_nle (X := 160) (Y := y4.toInt) c24 (by decide) rfl
        refine pv_aload_n (M := mX7_readPart) 0 dX7_readPart_17 18 rfl rfl rfl ?_
        refine pv_iload_n (M := mX7_readPart) 1 dX7_readPart_18 19 rfl rfl rfl ?_
        have z35 : (1 : Int32).toInt = 1 := by decide
        refine pv_callv (M := mX7_readPart) (as := [.int 1]) (st := []) (kc2 := 0) (ks2 := 0) dX7_readPart_19 wd674 YX7_readPiece ⟨wd676, wd14⟩ (mk_get (tl86 hT)) rfl rfl (s_X7_readPiece_v1x g hT I7 R (by first | omega | assumption | exact (iv_rng _).2 | exact (iv_rng _).1 | decide) (TBC_eq hp1 kt10)) rfl rfl (Nat.le_of_ble_eq_true rfl) (by decide) rfl rfl 22 rfl (fun rv h1 q36 => ?_)
        obtain ⟨m37, n38, v41, rfl, rfl, I39, K40, pv41, qv41, rv41⟩ := q36
        replace rv41 : (m5 86 3).toInt ≤ (m37 86 3).toInt ∧ (m37 86 3).toInt ≤ (m37 86 2).toInt ∧ (m37 86 2).toInt = (m5 86 2).toInt ∧ (RSX (PI (tC m5) 5 (m5 86 3).toInt) v41.toInt (m37 86 3).toInt (m37 86 4).toInt) ∧ (m37 lb 7).toInt = (m5 lb 7).toInt := by have q_ := rv41; (try rw [z35] at q_); exact q_
        have K40c := K40
        have K40 := K8.trans (K40.sub (fun _ _ q => q))
        show PV _ _ _ _ _ _ _ 22 [.ref 86, .int 1, .int v3, .int y4] [.int v41] _
        have k22 := rv41.2.2.2.1
        rw [kt10] at k22
        refine pv_if_ne (M := mX7_readPart) (tgt := 27) dX7_readPart_22 25 rfl (by decide) (fun c44 => ?_) (fun c44 => ?_)
        · have c44 := iv_ne (X := v41.toInt) (Y := 0) c44 rfl (by decide)
          have k27o := RSX_ok k22 (by omega)
          have k27 := CN_ok k27o
          have k27p := PI_le 5 (m5 86 3).toInt (by rw [k27o])
          rw [k27o] at k27p
          have kt27 : tC m37 = tC m := tC_eq (K40 86 2 rfl) (fun j => K40 87 j rfl)
          refine pv_aload_n (M := mX7_readPart) 0 dX7_readPart_27 28 rfl rfl rfl ?_
          refine pv_callv (M := mX7_readPart) (as := []) (st := []) (kc2 := 0) (ks2 := 0) dX7_readPart_28 wd527 YX7_peek ⟨wd529, wd2⟩ (mk_get (tl86 hT)) rfl rfl (s_X7_peek_vx g hT I39 R) rfl rfl (Nat.le_of_ble_eq_true rfl) (by decide) rfl rfl 31 rfl (fun rv h1 q50 => ?_)
          obtain ⟨v51, rfl, rfl, pv51, qv51, rv51⟩ := q50
          replace rv51 : v51.toInt = tC m37 (m37 86 3).toInt ∧ (v51.toInt = -1 ∨ (m37 86 3).toInt < (m37 86 2).toInt) := rv51
          show PV _ _ _ _ _ _ _ 31 [.ref 86, .int 1, .int v3, .int y4] [.int v51] _
          have k31 := rv51.1
          have k31b := rv51.2
          rw [kt27] at k31
          refine pv_bipush (M := mX7_readPart) (v := 38) dX7_readPart_31 33 rfl (by decide) ?_
          refine pv_icmp_eq (M := mX7_readPart) (tgt := 39) dX7_readPart_33 36 rfl (by decide) (fun c55 => ?_) (fun c55 => ?_)
          · have c55 := iv_eq (X := v51.toInt) (Y := 38) c55 rfl (by decide)
            have kB : isB (tC m (m37 86 3).toInt) = true := isB_y (by omega)
            refine pv_aload_n (M := mX7_readPart) 0 dX7_readPart_39 40 rfl rfl rfl ?_
            refine mv_get (M := mX7_readPart) (v := .ref lb) dX7_readPart_40 FX7 1 wd281 (by decide) (tl86 hT) rfl R.2.2.2.1 43 rfl ?_
            refine pv_bipush (M := mX7_readPart) (v := 38) dX7_readPart_43 45 rfl (by decide) ?_
            refine pv_iconst (M := mX7_readPart) (v := (-1)) dX7_readPart_45 46 rfl (by decide) ?_
            have z57 : (38 : Int32).toInt = 38 := by decide
            have z58 : ((-1) : Int32).toInt = (-1) := by decide
            refine pv_callv (M := mX7_readPart) (as := [.int 38, .int (-1)]) (st := []) (kc2 := 0) (ks2 := 0) dX7_readPart_46 wd567 YX6_emit ⟨wd568, wd569⟩ (mk_get R.2.2.2.2.2.2.1) rfl rfl (s_X6_emit_vx g hT I39 lb R.2.2.2.2.2 38 (-1) (by decide) (by decide)) rfl rfl (Nat.le_of_ble_eq_true rfl) (by decide) rfl rfl 49 rfl (fun rv h1 q59 => ?_)
            obtain ⟨m60, n61, rfl, rfl, I62, K63, rm60⟩ := q59
            replace rm60 : (m60 lb 7).toInt = (m37 lb 7).toInt := rm60
            have K63c := K63
            have w64 : (m60 86 3).toInt = (m37 86 3).toInt := congrArg Int32.toInt (K63 86 3 (wr_out (by omega)))
            have w65 : (m60 86 2).toInt = (m37 86 2).toInt := congrArg Int32.toInt (K63 86 2 (wr_out (by omega)))
            have w66 : (m60 86 4).toInt = (m37 86 4).toInt := congrArg Int32.toInt (K63 86 4 (wr_out (by omega)))
            have K63 := K40.trans (K63.sub (by first | exact wR7_r (by omega) | exact wR7_wr))
            show PV _ _ _ _ _ _ _ 49 [.ref 86, .int 1, .int v3, .int y4] [] _
            refine pv_aload_n (M := mX7_readPart) 0 dX7_readPart_49 50 rfl rfl rfl ?_
            refine pv_dup (M := mX7_readPart) dX7_readPart_50 51 rfl rfl ?_
            refine iv_get (M := mX7_readPart) (l1 := 0) (l2 := 160) dX7_readPart_51 FX7 3 wd283 (by decide) (tl86 hT) rfl I62 rfl 54 rfl (fun v67 ev67 pv67 qv67 => ?_)
            have wv67 : v67.toInt = (m60 86 3).toInt := congrArg Int32.toInt ev67
            refine pv_iconst (M := mX7_readPart) (v := 1) dX7_readPart_54 55 rfl (by decide) ?_
            refine iv_iadd (M := mX7_readPart) (X := v67.toInt) (Y := 1) dX7_readPart_55 56 rfl rfl (by decide) (by omega) (by omega) (fun v68 ev68 => ?_)
            refine iv_put (M := mX7_readPart) (l1 := 0) (l2 := 160) dX7_readPart_56 FX7 3 wd283 (by decide) rfl (tl86 hT) rfl rfl rfl I62 rfl (by omega) (by omega) 59 rfl (fun m69 e72 I70 => ?_)
            have K71 := K63.set e72 (by decide)
            have w73 : (m69 86 3).toInt = v68.toInt := by rw [e72, up2_eq]
            have w74 : (m69 86 2).toInt = (m60 86 2).toInt := by rw [e72, up2_ne (by omega)]
            have w75 : (m69 86 4).toInt = (m60 86 4).toInt := by rw [e72, up2_ne (by omega)]
            have w76 : (m69 lb 7).toInt = (m60 lb 7).toInt := by rw [e72, up2_ne (by omega)]
            refine iv_inc (M := mX7_readPart) (C := 1) dX7_readPart_59 62 rfl rfl (by decide) rfl rfl (by decide) (by omega) (by omega) (fun v77 ev77 => ?_)
            show PV _ _ _ _ _ _ _ 62 [.ref 86, .int 1, .int v3, .int v77] [] _
            refine pv_goto (M := mX7_readPart) (tgt := 10) dX7_readPart_62 (by decide) ?_
            have kbc : CN (tC m) 5 (m 86 3).toInt = CN (tC m) 5 (m69 86 3).toInt := by rw [kgc, k27, LB_cn kTX (by omega) kB]; congr 1; omega
            exact ih11 v77 m69 n61 (by first | omega | assumption | exact (iv_rng _).2 | exact (iv_rng _).1 | decide) (by first | omega | assumption | exact (iv_rng _).2 | exact (iv_rng _).1 | decide) (by first | omega | assumption | (show (m69 86 3).toInt ≤ (m69 86 2).toInt; omega) | decide) (by first | omega | assumption | (show (m69 86 2).toInt = (m 86 2).toInt; omega) | decide) (by first | omega | assumption | (show (m69 lb 7).toInt = (m lb 7).toInt; omega) | decide) (by first | omega | assumption | (show (m 86 3).toInt + 2 * v77.toInt ≤ (m69 86 3).toInt; omega) | decide) kbc I70 K71 (by omega)
          · have c55 := iv_ne (X := v51.toInt) (Y := 38) c55 rfl (by decide)
            refine pv_goto (M := mX7_readPart) (tgt := 65) dX7_readPart_36 (by decide) ?_
            refine pv_aload_n (M := mX7_readPart) 0 dX7_readPart_65 66 rfl rfl rfl ?_
            refine mv_get (M := mX7_readPart) (v := .ref lb) dX7_readPart_66 FX7 1 wd281 (by decide) (tl86 hT) rfl R.2.2.2.1 69 rfl ?_
            refine pv_bipush (M := mX7_readPart) (v := 38) dX7_readPart_69 71 rfl (by decide) ?_
            refine pv_iload_n (M := mX7_readPart) 2 dX7_readPart_71 72 rfl rfl rfl ?_
            have z79 : (38 : Int32).toInt = 38 := by decide
            refine pv_callv (M := mX7_readPart) (as := [.int 38, .int v3]) (st := []) (kc2 := 0) (ks2 := 0) dX7_readPart_72 wd678 YX6_aimLeaps ⟨wd679, wd680⟩ (mk_get R.2.2.2.2.2.2.1) rfl rfl (s_X6_aimLeaps_vx g hT I39 lb R.2.2.2.2.2 38 v3) rfl rfl (Nat.le_of_ble_eq_true rfl) (by decide) rfl rfl 75 rfl (fun rv h1 q80 => ?_)
            obtain ⟨m81, n82, rfl, rfl, I83, K84, rm81⟩ := q80
            replace rm81 : (m81 lb 7).toInt = (m37 lb 7).toInt := rm81
            have K84c := K84
            have w85 : (m81 86 3).toInt = (m37 86 3).toInt := congrArg Int32.toInt (K84 86 3 (wr_out (by omega)))
            have w86 : (m81 86 2).toInt = (m37 86 2).toInt := congrArg Int32.toInt (K84 86 2 (wr_out (by omega)))
            have w87 : (m81 86 4).toInt = (m37 86 4).toInt := congrArg Int32.toInt (K84 86 4 (wr_out (by omega)))
            have K84 := K40.trans (K84.sub (by first | exact wR7_r (by omega) | exact wR7_wr))
            show PV _ _ _ _ _ _ _ 75 [.ref 86, .int 1, .int v3, .int y4] [] _
            refine pv_iconst (M := mX7_readPart) (v := 1) dX7_readPart_75 76 rfl (by decide) ?_
            have z88 : (1 : Int32).toInt = 1 := by decide
            exact pv_iret (M := mX7_readPart) dX7_readPart_76 rfl rfl ⟨_, _, _, rfl, rfl, I83, K84, by decide, by decide, ⟨by omega, by omega, by omega, (by first | exact ⟨Or.inr (by omega), Or.inl ⟨by decide, by rw [kgc, k27]; congr 1; omega, by show tC m (m81 86 3).toInt ≠ 38; rw [show (m81 86 3).toInt = (m37 86 3).toInt by omega, ← k31]; omega⟩⟩ | (exfalso; omega)), by omega⟩⟩
        · have c44 := iv_eq (X := v41.toInt) (Y := 0) c44 rfl (by decide)
          refine pv_iconst (M := mX7_readPart) (v := 0) dX7_readPart_25 26 rfl (by decide) ?_
          have z89 : (0 : Int32).toInt = 0 := by decide
          exact pv_iret (M := mX7_readPart) dX7_readPart_26 rfl rfl ⟨_, _, _, rfl, rfl, I39, K40, by decide, by decide, ⟨by omega, by omega, by omega, ⟨Or.inl (by decide), Or.inr ⟨by decide, by rw [kgc]; exact CN_fl (RSX_fl k22 (by omega))⟩⟩, by omega⟩⟩
  have z90 : (0 : Int32).toInt = 0 := by decide
  exact lp10 (((160 - 0) : Int).toNat + 1) 0 m n (by first | omega | assumption | exact (iv_rng _).2 | exact (iv_rng _).1 | decide) (by first | omega | assumption | exact (iv_rng _).2 | exact (iv_rng _).1 | decide) (by first | omega | assumption | (show (m 86 3).toInt ≤ (m 86 2).toInt; omega) | decide) (by first | omega | assumption | (show (m 86 2).toInt = (m 86 2).toInt; omega) | decide) (by first | omega | assumption | (show (m lb 7).toInt = (m lb 7).toInt; omega) | decide) (by first | omega | assumption | (show (m 86 3).toInt + 2 * 0 ≤ (m 86 3).toInt; omega) | decide) rfl I Kp (by omega)

set_option maxHeartbeats 2000000 in
set_option maxRecDepth 20000 in
theorem s_X7_readCondition_v1x (g : pv_G) {T : List mv_T} {m : Nat → Nat → Int32} {n : Nat → Nat → Int64} {r : Nat → Value} {la lb : Nat} (hT : TX T) (I : IV BB m) (R : RX T r la lb) (hp0 : (m 86 3).toInt ≤ (m 86 2).toInt) (hp1 : TBC m) : PM g mX7_readCondition yX7_readCondition (sqI T BB wR7 r m 0 1 (fun m' v => (m 86 3).toInt ≤ (m' 86 3).toInt ∧ (m' 86 3).toInt ≤ (m' 86 2).toInt ∧ (m' 86 2).toInt = (m 86 2).toInt ∧ (RSX (CN (tC m) 5 (m 86 3).toInt) v.toInt (m' 86 3).toInt (m' 86 4).toInt) ∧ (m' lb 7).toInt = (m lb 7).toInt)) 25 0 0 [.ref 86, .int 1] (mk T m n r) := by
  have Kp : fr wR7 m m := fr.rf
  have R0 := R
  have zR := R.2.2.2.2.1.1
  have zR2 := R.2.2.2.2.2.1
  have z90 : 0 ≤ (m 86 3).toInt ∧ (m 86 3).toInt ≤ 160 := I 86 3
  have z91 : 0 ≤ (m 86 2).toInt ∧ (m 86 2).toInt ≤ 160 := I 86 2
  refine PM.of 2 (lo := [.ref 86, .int 1, pv_U, pv_U]) rfl (by decide) rfl rfl (Nat.le_of_ble_eq_true rfl) ?_
  have kTX := TXT_C I
  refine pv_aload_n (M := mX7_readCondition) 0 dX7_readCondition_0 1 rfl rfl rfl ?_
  refine mv_get (M := mX7_readCondition) (v := .ref lb) dX7_readCondition_1 FX7 1 wd281 (by decide) (tl86 hT) rfl R.2.2.2.1 4 rfl ?_
  refine pv_callv (M := mX7_readCondition) (as := []) (st := []) (kc2 := 0) (ks2 := 0) dX7_readCondition_4 wd666 YX6_steps ⟨wd667, wd668⟩ (mk_get R.2.2.2.2.2.2.1) rfl rfl (s_X6_steps g hT I lb R.2.2.2.2.2) rfl rfl (Nat.le_of_ble_eq_true rfl) (by decide) rfl rfl 7 rfl (fun rv h1 q2 => ?_)
  obtain ⟨v3, rfl, rfl, pv3, qv3, rv3⟩ := q2
  show PV _ _ _ _ _ _ _ 7 [.ref 86, .int 1, pv_U, pv_U] [.int v3] _
  refine pv_istore_n (M := mX7_readCondition) 2 (lo2 := [.ref 86, .int 1, .int v3, pv_U]) dX7_readCondition_7 8 rfl rfl (by decide) rfl rfl ?_
  refine pv_iconst (M := mX7_readCondition) (v := 0) dX7_readCondition_8 9 rfl (by decide) ?_
  refine pv_istore_n (M := mX7_readCondition) 3 (lo2 := [.ref 86, .int 1, .int v3, .int 0]) dX7_readCondition_9 10 rfl rfl (by decide) rfl rfl ?_
  have lp10 : ∀ (fuel9 : Nat) (y4 : Int32) (m5 : Nat → Nat → Int32) (n6 : Nat → Nat → Int64), (0 ≤ y4.toInt) → (y4.toInt ≤ 160) → ((m5 86 3).toInt ≤ (m5 86 2).toInt) → ((m5 86 2).toInt = (m 86 2).toInt) → ((m5 lb 7).toInt = (m lb 7).toInt) → ((m 86 3).toInt + 2 * y4.toInt ≤ (m5 86 3).toInt) → (CN (tC m) 5 (m 86 3).toInt = CN (tC m) 5 (m5 86 3).toInt) → IV BB m5 → fr wR7 m m5 → ((160 - y4.toInt) : Int).toNat < fuel9 → PV none g mX7_readCondition (sqI T BB wR7 r m 0 1 (fun m' v => (m 86 3).toInt ≤ (m' 86 3).toInt ∧ (m' 86 3).toInt ≤ (m' 86 2).toInt ∧ (m' 86 2).toInt = (m 86 2).toInt ∧ (RSX (CN (tC m) 5 (m 86 3).toInt) v.toInt (m' 86 3).toInt (m' 86 4).toInt) ∧ (m' lb 7).toInt = (m lb 7).toInt)) 25 0 0 10 [.ref 86, .int 1, .int v3, .int y4] [] (mk T m5 n6 r) := by
    intro fuel9
    induction fuel9 with
    | zero => intro y4 m5 n6 b12 b13 b14 b15 b16 b17 b18 I7 K8 z19; omega
    | succ fuel9 ih11 =>
      intro y4 m5 n6 b12 b13 b14 b15 b16 b17 b18 I7 K8 z19
      have z20 : 0 ≤ (m5 86 3).toInt ∧ (m5 86 3).toInt ≤ 160 := I7 86 3
      have z21 : 0 ≤ (m5 86 2).toInt ∧ (m5 86 2).toInt ≤ 160 := I7 86 2
      have kgc := (show CN (tC m) 5 (m 86 3).toInt = CN (tC m) 5 (m5 86 3).toInt by assumption)
      have kt10 : tC m5 = tC m := tC_eq (K8 86 2 rfl) (fun j => K8 87 j rfl)
      refine pv_iload_n (M := mX7_readCondition) 3 dX7_readCondition_10 11 rfl rfl rfl ?_
      refine pv_sipush (M := mX7_readCondition) (v := 160) dX7_readCondition_11 14 rfl (by decide) ?_
      refine pv_icmp_ge (M := mX7_readCondition) (tgt := 65) dX7_readCondition_14 17 rfl (by decide) (fun c24 => ?_) (fun c24 => ?_)
      · have c24 := iv_le (X := 160) (Y := y4.toInt) c24 (by decide) rfl
        refine pv_aload_n (M := mX7_readCondition) 0 dX7_readCondition_65 66 rfl rfl rfl ?_
        refine mv_get (M := mX7_readCondition) (v := .ref lb) dX7_readCondition_66 FX7 1 wd281 (by decide) (tl86 hT) rfl R.2.2.2.1 69 rfl ?_
        refine pv_bipush (M := mX7_readCondition) (v := 124) dX7_readCondition_69 71 rfl (by decide) ?_
        refine pv_iload_n (M := mX7_readCondition) 2 dX7_readCondition_71 72 rfl rfl rfl ?_
        have z25 : (124 : Int32).toInt = 124 := by decide
        refine pv_callv (M := mX7_readCondition) (as := [.int 124, .int v3]) (st := []) (kc2 := 0) (ks2 := 0) dX7_readCondition_72 wd678 YX6_aimLeaps ⟨wd679, wd680⟩ (mk_get R.2.2.2.2.2.2.1) rfl rfl (s_X6_aimLeaps_vx g hT I7 lb R.2.2.2.2.2 124 v3) rfl rfl (Nat.le_of_ble_eq_true rfl) (by decide) rfl rfl 75 rfl (fun rv h1 q26 => ?_)
        obtain ⟨m27, n28, rfl, rfl, I29, K30, rm27⟩ := q26
        replace rm27 : (m27 lb 7).toInt = (m5 lb 7).toInt := rm27
        have K30c := K30
        have w31 : (m27 86 3).toInt = (m5 86 3).toInt := congrArg Int32.toInt (K30 86 3 (wr_out (by omega)))
        have w32 : (m27 86 2).toInt = (m5 86 2).toInt := congrArg Int32.toInt (K30 86 2 (wr_out (by omega)))
        have w33 : (m27 86 4).toInt = (m5 86 4).toInt := congrArg Int32.toInt (K30 86 4 (wr_out (by omega)))
        have K30 := K8.trans (K30.sub (by first | exact wR7_r (by omega) | exact wR7_wr))
        show PV _ _ _ _ _ _ _ 75 [.ref 86, .int 1, .int v3, .int y4] [] _
        refine pv_iconst (M := mX7_readCondition) (v := 1) dX7_readCondition_75 76 rfl (by decide) ?_
        have z34 : (1 : Int32).toInt = 1 := by decide
        exact pv_iret (M := mX7_readCondition) dX7_readCondition_76 rfl rfl ⟨_, _, _, rfl, rfl, I29, K30, by decide, by decide, ⟨by omega, by omega, by omega, (by first | exact Or.inl ⟨by decide, by rw [kgc, k27, LB_no (isB_no k27n (by rw [← k31]; omega))]; congr 1; omega⟩ | (exfalso; omega)), by omega⟩⟩
      · have c24 := iv_nle (X := 160) (Y := y4.toInt) c24 (by decide) rfl
        refine pv_aload_n (M := mX7_readCondition) 0 dX7_readCondition_17 18 rfl rfl rfl ?_
        refine pv_iload_n (M := mX7_readCondition) 1 dX7_readCondition_18 19 rfl rfl rfl ?_
        have z35 : (1 : Int32).toInt = 1 := by decide
        refine pv_callv (M := mX7_readCondition) (as := [.int 1]) (st := []) (kc2 := 0) (ks2 := 0) dX7_readCondition_19 wd670 YX7_readPart ⟨wd672, wd13⟩ (mk_get (tl86 hT)) rfl rfl (s_X7_readPart_v1x g hT I7 R (by first | omega | assumption | exact (iv_rng _).2 | exact (iv_rng _).1 | decide) (TBC_eq hp1 kt10)) rfl rfl (Nat.le_of_ble_eq_true rfl) (by decide) rfl rfl 22 rfl (fun rv h1 q36 => ?_)
        obtain ⟨m37, n38, v41, rfl, rfl, I39, K40, pv41, qv41, rv41⟩ := q36
        replace rv41 : (m5 86 3).toInt ≤ (m37 86 3).toInt ∧ (m37 86 3).toInt ≤ (m37 86 2).toInt ∧ (m37 86 2).toInt = (m5 86 2).toInt ∧ ((v41.toInt = 0 ∨ (m5 86 3).toInt + 1 ≤ (m37 86 3).toInt) ∧ TRX (CN (tC m5) 5 (m5 86 3).toInt) (LB (tC m5) 5) (fun a => tC m5 a ≠ 38) v41.toInt (m37 86 3).toInt (m37 86 4).toInt) ∧ (m37 lb 7).toInt = (m5 lb 7).toInt := by have q_ := rv41; (try rw [z35] at q_); exact q_
        have K40c := K40
        have K40 := K8.trans (K40.sub (fun _ _ q => q))
        show PV _ _ _ _ _ _ _ 22 [.ref 86, .int 1, .int v3, .int y4] [.int v41] _
        have k22 := rv41.2.2.2.1.2
        have k22p := rv41.2.2.2.1.1
        rw [kt10] at k22
        refine pv_if_ne (M := mX7_readCondition) (tgt := 27) dX7_readCondition_22 25 rfl (by decide) (fun c45 => ?_) (fun c45 => ?_)
        · have c45 := iv_ne (X := v41.toInt) (Y := 0) c45 rfl (by decide)
          have k27 := (TRX_ok k22 (by omega)).1
          have k27n := (TRX_ok k22 (by omega)).2
          have kt27 : tC m37 = tC m := tC_eq (K40 86 2 rfl) (fun j => K40 87 j rfl)
          refine pv_aload_n (M := mX7_readCondition) 0 dX7_readCondition_27 28 rfl rfl rfl ?_
          refine pv_callv (M := mX7_readCondition) (as := []) (st := []) (kc2 := 0) (ks2 := 0) dX7_readCondition_28 wd527 YX7_peek ⟨wd529, wd2⟩ (mk_get (tl86 hT)) rfl rfl (s_X7_peek_vx g hT I39 R) rfl rfl (Nat.le_of_ble_eq_true rfl) (by decide) rfl rfl 31 rfl (fun rv h1 q49 => ?_)
          obtain ⟨v50, rfl, rfl, pv50, qv50, rv50⟩ := q49
          replace rv50 : v50.toInt = tC m37 (m37 86 3).toInt ∧ (v50.toInt = -1 ∨ (m37 86 3).toInt < (m37 86 2).toInt) := rv50
          show PV _ _ _ _ _ _ _ 31 [.ref 86, .int 1, .int v3, .int y4] [.int v50] _
          have k31 := rv50.1
          have k31b := rv50.2
          rw [kt27] at k31
          refine pv_bipush (M := mX7_readCondition) (v := 124) dX7_readCondition_31 33 rfl (by decide) ?_
          refine pv_icmp_eq (M := mX7_readCondition) (tgt := 39) dX7_readCondition_33 36 rfl (by decide) (fun c54 => ?_) (fun c54 => ?_)
          · have c54 := iv_eq (X := v50.toInt) (Y := 124) c54 rfl (by decide)
            have kB : isB (tC m (m37 86 3).toInt) = true := isB_y (by omega)
            refine pv_aload_n (M := mX7_readCondition) 0 dX7_readCondition_39 40 rfl rfl rfl ?_
            refine mv_get (M := mX7_readCondition) (v := .ref lb) dX7_readCondition_40 FX7 1 wd281 (by decide) (tl86 hT) rfl R.2.2.2.1 43 rfl ?_
            refine pv_bipush (M := mX7_readCondition) (v := 124) dX7_readCondition_43 45 rfl (by decide) ?_
            refine pv_iconst (M := mX7_readCondition) (v := (-1)) dX7_readCondition_45 46 rfl (by decide) ?_
            have z56 : (124 : Int32).toInt = 124 := by decide
            have z57 : ((-1) : Int32).toInt = (-1) := by decide
            refine pv_callv (M := mX7_readCondition) (as := [.int 124, .int (-1)]) (st := []) (kc2 := 0) (ks2 := 0) dX7_readCondition_46 wd567 YX6_emit ⟨wd568, wd569⟩ (mk_get R.2.2.2.2.2.2.1) rfl rfl (s_X6_emit_vx g hT I39 lb R.2.2.2.2.2 124 (-1) (by decide) (by decide)) rfl rfl (Nat.le_of_ble_eq_true rfl) (by decide) rfl rfl 49 rfl (fun rv h1 q58 => ?_)
            obtain ⟨m59, n60, rfl, rfl, I61, K62, rm59⟩ := q58
            replace rm59 : (m59 lb 7).toInt = (m37 lb 7).toInt := rm59
            have K62c := K62
            have w63 : (m59 86 3).toInt = (m37 86 3).toInt := congrArg Int32.toInt (K62 86 3 (wr_out (by omega)))
            have w64 : (m59 86 2).toInt = (m37 86 2).toInt := congrArg Int32.toInt (K62 86 2 (wr_out (by omega)))
            have w65 : (m59 86 4).toInt = (m37 86 4).toInt := congrArg Int32.toInt (K62 86 4 (wr_out (by omega)))
            have K62 := K40.trans (K62.sub (by first | exact wR7_r (by omega) | exact wR7_wr))
            show PV _ _ _ _ _ _ _ 49 [.ref 86, .int 1, .int v3, .int y4] [] _
            refine pv_aload_n (M := mX7_readCondition) 0 dX7_readCondition_49 50 rfl rfl rfl ?_
            refine pv_dup (M := mX7_readCondition) dX7_readCondition_50 51 rfl rfl ?_
            refine iv_get (M := mX7_readCondition) (l1 := 0) (l2 := 160) dX7_readCondition_51 FX7 3 wd283 (by decide) (tl86 hT) rfl I61 rfl 54 rfl (fun v66 ev66 pv66 qv66 => ?_)
            have wv66 : v66.toInt = (m59 86 3).toInt := congrArg Int32.toInt ev66
            refine pv_iconst (M := mX7_readCondition) (v := 1) dX7_readCondition_54 55 rfl (by decide) ?_
            refine iv_iadd (M := mX7_readCondition) (X := v66.toInt) (Y := 1) dX7_readCondition_55 56 rfl rfl (by decide) (by omega) (by omega) (fun v67 ev67 => ?_)
            refine iv_put (M := mX7_readCondition) (l1 := 0) (l2 := 160) dX7_readCondition_56 FX7 3 wd283 (by decide) rfl (tl86 hT) rfl rfl rfl I61 rfl (by omega) (by omega) 59 rfl (fun m68 e71 I69 => ?_)
            have K70 := K62.set e71 (by decide)
            have w72 : (m68 86 3).toInt = v67.toInt := by rw [e71, up2_eq]
            have w73 : (m68 86 2).toInt = (m59 86 2).toInt := by rw [e71, up2_ne (by omega)]
            have w74 : (m68 86 4).toInt = (m59 86 4).toInt := by rw [e71, up2_ne (by omega)]
            have w75 : (m68 lb 7).toInt = (m59 lb 7).toInt := by rw [e71, up2_ne (by omega)]
            refine iv_inc (M := mX7_readCondition) (C := 1) dX7_readCondition_59 62 rfl rfl (by decide) rfl rfl (by decide) (by omega) (by omega) (fun v76 ev76 => ?_)
            show PV _ _ _ _ _ _ _ 62 [.ref 86, .int 1, .int v3, .int v76] [] _
            refine pv_goto (M := mX7_readCondition) (tgt := 10) dX7_readCondition_62 (by decide) ?_
            have kbc : CN (tC m) 5 (m 86 3).toInt = CN (tC m) 5 (m68 86 3).toInt := by rw [kgc, k27, LB_cn kTX (by omega) kB]; congr 1; omega
            exact ih11 v76 m68 n60 (by first | omega | assumption | exact (iv_rng _).2 | exact (iv_rng _).1 | decide) (by first | omega | assumption | exact (iv_rng _).2 | exact (iv_rng _).1 | decide) (by first | omega | assumption | (show (m68 86 3).toInt ≤ (m68 86 2).toInt; omega) | decide) (by first | omega | assumption | (show (m68 86 2).toInt = (m 86 2).toInt; omega) | decide) (by first | omega | assumption | (show (m68 lb 7).toInt = (m lb 7).toInt; omega) | decide) (by first | omega | assumption | (show (m 86 3).toInt + 2 * v76.toInt ≤ (m68 86 3).toInt; omega) | decide) kbc I69 K70 (by omega)
          · have c54 := iv_ne (X := v50.toInt) (Y := 124) c54 rfl (by decide)
            refine pv_goto (M := mX7_readCondition) (tgt := 65) dX7_readCondition_36 (by decide) ?_
            refine pv_aload_n (M := mX7_readCondition) 0 dX7_readCondition_65 66 rfl rfl rfl ?_
            refine mv_get (M := mX7_readCondition) (v := .ref lb) dX7_readCondition_66 FX7 1 wd281 (by decide) (tl86 hT) rfl R.2.2.2.1 69 rfl ?_
            refine pv_bipush (M := mX7_readCondition) (v := 124) dX7_readCondition_69 71 rfl (by decide) ?_
            refine pv_iload_n (M := mX7_readCondition) 2 dX7_readCondition_71 72 rfl rfl rfl ?_
            have z78 : (124 : Int32).toInt = 124 := by decide
            refine pv_callv (M := mX7_readCondition) (as := [.int 124, .int v3]) (st := []) (kc2 := 0) (ks2 := 0) dX7_readCondition_72 wd678 YX6_aimLeaps ⟨wd679, wd680⟩ (mk_get R.2.2.2.2.2.2.1) rfl rfl (s_X6_aimLeaps_vx g hT I39 lb R.2.2.2.2.2 124 v3) rfl rfl (Nat.le_of_ble_eq_true rfl) (by decide) rfl rfl 75 rfl (fun rv h1 q79 => ?_)
            obtain ⟨m80, n81, rfl, rfl, I82, K83, rm80⟩ := q79
            replace rm80 : (m80 lb 7).toInt = (m37 lb 7).toInt := rm80
            have K83c := K83
            have w84 : (m80 86 3).toInt = (m37 86 3).toInt := congrArg Int32.toInt (K83 86 3 (wr_out (by omega)))
            have w85 : (m80 86 2).toInt = (m37 86 2).toInt := congrArg Int32.toInt (K83 86 2 (wr_out (by omega)))
            have w86 : (m80 86 4).toInt = (m37 86 4).toInt := congrArg Int32.toInt (K83 86 4 (wr_out (by omega)))
            have K83 := K40.trans (K83.sub (by first | exact wR7_r (by omega) | exact wR7_wr))
            show PV _ _ _ _ _ _ _ 75 [.ref 86, .int 1, .int v3, .int y4] [] _
            refine pv_iconst (M := mX7_readCondition) (v := 1) dX7_readCondition_75 76 rfl (by decide) ?_
            have z87 : (1 : Int32).toInt = 1 := by decide
            exact pv_iret (M := mX7_readCondition) dX7_readCondition_76 rfl rfl ⟨_, _, _, rfl, rfl, I82, K83, by decide, by decide, ⟨by omega, by omega, by omega, (by first | exact Or.inl ⟨by decide, by rw [kgc, k27, LB_no (isB_no k27n (by rw [← k31]; omega))]; congr 1; omega⟩ | (exfalso; omega)), by omega⟩⟩
        · have c45 := iv_eq (X := v41.toInt) (Y := 0) c45 rfl (by decide)
          refine pv_iconst (M := mX7_readCondition) (v := 0) dX7_readCondition_25 26 rfl (by decide) ?_
          have z88 : (0 : Int32).toInt = 0 := by decide
          exact pv_iret (M := mX7_readCondition) dX7_readCondition_26 rfl rfl ⟨_, _, _, rfl, rfl, I39, K40, by decide, by decide, ⟨by omega, by omega, by omega, Or.inr ⟨by decide, by rw [kgc]; exact TRX_fl k22 (by omega)⟩, by omega⟩⟩
  have z89 : (0 : Int32).toInt = 0 := by decide
  exact lp10 (((160 - 0) : Int).toNat + 1) 0 m n (by first | omega | assumption | exact (iv_rng _).2 | exact (iv_rng _).1 | decide) (by first | omega | assumption | exact (iv_rng _).2 | exact (iv_rng _).1 | decide) (by first | omega | assumption | (show (m 86 3).toInt ≤ (m 86 2).toInt; omega) | decide) (by first | omega | assumption | (show (m 86 2).toInt = (m 86 2).toInt; omega) | decide) (by first | omega | assumption | (show (m lb 7).toInt = (m lb 7).toInt; omega) | decide) (by first | omega | assumption | (show (m 86 3).toInt + 2 * 0 ≤ (m 86 3).toInt; omega) | decide) rfl I Kp (by omega)
