set_option maxHeartbeats 2000000 in
set_option maxRecDepth 20000 in
theorem s_X7_readClause_vx (g : pv_G) {T : List mv_T} {m : Nat → Nat → Int32} {n : Nat → Nat → Int64} {r : Nat → Value} {la lb : Nat} (hT : TX T) (I : IV BB m) (R : RX T r la lb) (x0 : Int32) (hl0 : 0 ≤ x0.toInt) (hh0 : x0.toInt ≤ 13) (hp0 : (m 86 3).toInt ≤ (m 86 2).toInt) (hp1 : TBC m) (hp2 : (m lb 7).toInt = x0.toInt) : PM g mX7_readClause yX7_readClause (sqI T BB wR7 r m 0 1 (fun m' v => (m 86 3).toInt ≤ (m' 86 3).toInt ∧ (m' 86 3).toInt ≤ (m' 86 2).toInt ∧ (m' 86 2).toInt = (m 86 2).toInt ∧ (RSX (CLA (tC m) x0.toInt (m 86 3).toInt) v.toInt (m' 86 3).toInt (m' 86 4).toInt) ∧ (v.toInt ≠ 0 → (m' lb 7).toInt = x0.toInt + 1 ∧ x0.toInt < 12))) 26 0 0 [.ref 86, .int x0] (mk T m n r) := by
  have Kp : fr wR7 m m := fr.rf
  have R0 := R
  have zR := R.2.2.2.2.1.1
  have zR2 := R.2.2.2.2.2.1
  have z199 : 0 ≤ (m 86 3).toInt ∧ (m 86 3).toInt ≤ 160 := I 86 3
  have z200 : 0 ≤ (m 86 2).toInt ∧ (m 86 2).toInt ≤ 160 := I 86 2
  refine PM.of 1 (lo := [.ref 86, .int x0, pv_U]) rfl (by decide) rfl rfl (Nat.le_of_ble_eq_true rfl) ?_
  refine pv_aload_n (M := mX7_readClause) 0 dX7_readClause_0 1 rfl rfl rfl ?_
  refine pv_callv (M := mX7_readClause) (as := []) (st := []) (kc2 := 0) (ks2 := 0) dX7_readClause_1 wd527 YX7_peek ⟨wd529, wd2⟩ (mk_get (tl86 hT)) rfl rfl (s_X7_peek_vx g hT I R) rfl rfl (Nat.le_of_ble_eq_true rfl) (by decide) rfl rfl 4 rfl (fun rv h1 q1 => ?_)
  obtain ⟨v2, rfl, rfl, pv2, qv2, rv2⟩ := q1
  replace rv2 : v2.toInt = tC m (m 86 3).toInt ∧ (v2.toInt = -1 ∨ (m 86 3).toInt < (m 86 2).toInt) := rv2
  show PV _ _ _ _ _ _ _ 4 [.ref 86, .int x0, pv_U] [.int v2] _
  have k4 := rv2.1
  have k4b := rv2.2
  refine pv_istore_n (M := mX7_readClause) 2 (lo2 := [.ref 86, .int x0, .int v2]) dX7_readClause_4 5 rfl rfl (by decide) rfl rfl ?_
  refine pv_iload_n (M := mX7_readClause) 2 dX7_readClause_5 6 rfl rfl rfl ?_
  refine pv_bipush (M := mX7_readClause) (v := 110) dX7_readClause_6 8 rfl (by decide) ?_
  refine pv_icmp_eq (M := mX7_readClause) (tgt := 23) dX7_readClause_8 11 rfl (by decide) (fun c5 => ?_) (fun c5 => ?_)
  · have c5 := iv_eq (X := v2.toInt) (Y := 110) c5 rfl (by decide)
    refine pv_iload_n (M := mX7_readClause) 1 dX7_readClause_23 24 rfl rfl rfl ?_
    refine pv_bipush (M := mX7_readClause) (v := 12) dX7_readClause_24 26 rfl (by decide) ?_
    refine pv_icmp_lt (M := mX7_readClause) (tgt := 35) dX7_readClause_26 29 rfl (by decide) (fun c6 => ?_) (fun c6 => ?_)
    · have c6 := iv_lt (X := x0.toInt) (Y := 12) c6 rfl (by decide)
      refine pv_aload_n (M := mX7_readClause) 0 dX7_readClause_35 36 rfl rfl rfl ?_
      refine pv_dup (M := mX7_readClause) dX7_readClause_36 37 rfl rfl ?_
      refine iv_get (M := mX7_readClause) (l1 := 0) (l2 := 160) dX7_readClause_37 FX7 3 wd283 (by decide) (tl86 hT) rfl I rfl 40 rfl (fun v7 ev7 pv7 qv7 => ?_)
      have wv7 : v7.toInt = (m 86 3).toInt := congrArg Int32.toInt ev7
      refine pv_iconst (M := mX7_readClause) (v := 1) dX7_readClause_40 41 rfl (by decide) ?_
      refine iv_iadd (M := mX7_readClause) (X := v7.toInt) (Y := 1) dX7_readClause_41 42 rfl rfl (by decide) (by omega) (by omega) (fun v8 ev8 => ?_)
      refine iv_put (M := mX7_readClause) (l1 := 0) (l2 := 160) dX7_readClause_42 FX7 3 wd283 (by decide) rfl (tl86 hT) rfl rfl rfl I rfl (by omega) (by omega) 45 rfl (fun m9 e12 I10 => ?_)
      have K11 := Kp.set e12 (by decide)
      have w13 : (m9 86 3).toInt = v8.toInt := by rw [e12, up2_eq]
      have w14 : (m9 86 2).toInt = (m 86 2).toInt := by rw [e12, up2_ne (by omega)]
      have w15 : (m9 86 4).toInt = (m 86 4).toInt := by rw [e12, up2_ne (by omega)]
      have w16 : (m9 lb 7).toInt = (m lb 7).toInt := by rw [e12, up2_ne (by omega)]
      refine pv_aload_n (M := mX7_readClause) 0 dX7_readClause_45 46 rfl rfl rfl ?_
      refine mv_get (M := mX7_readClause) (v := .ref lb) dX7_readClause_46 FX7 1 wd281 (by decide) (tl86 hT) rfl R.2.2.2.1 49 rfl ?_
      refine pv_iload_n (M := mX7_readClause) 2 dX7_readClause_49 50 rfl rfl rfl ?_
      refine pv_callv (M := mX7_readClause) (as := [.int v2]) (st := []) (kc2 := 0) (ks2 := 0) dX7_readClause_50 wd535 YX6_beginClause ⟨wd536, wd537⟩ (mk_get R.2.2.2.2.2.2.1) rfl rfl (s_X6_beginClause_vx g hT I10 lb R.2.2.2.2.2 v2) rfl rfl (Nat.le_of_ble_eq_true rfl) (by decide) rfl rfl 53 rfl (fun rv h1 q17 => ?_)
      obtain ⟨m18, n19, rfl, rfl, I20, K21, rm18⟩ := q17
      replace rm18 : (m18 lb 7).toInt = (m9 lb 7).toInt := rm18
      have K21c := K21
      have w22 : (m18 86 3).toInt = (m9 86 3).toInt := congrArg Int32.toInt (K21 86 3 (wr_out (by omega)))
      have w23 : (m18 86 2).toInt = (m9 86 2).toInt := congrArg Int32.toInt (K21 86 2 (wr_out (by omega)))
      have w24 : (m18 86 4).toInt = (m9 86 4).toInt := congrArg Int32.toInt (K21 86 4 (wr_out (by omega)))
      have K21 := K11.trans (K21.sub (by first | exact wR7_r (by omega) | exact wR7_wr))
      show PV _ _ _ _ _ _ _ 53 [.ref 86, .int x0, .int v2] [] _
      refine pv_iload_n (M := mX7_readClause) 2 dX7_readClause_53 54 rfl rfl rfl ?_
      refine pv_bipush (M := mX7_readClause) (v := 112) dX7_readClause_54 56 rfl (by decide) ?_
      refine pv_icmp_ne (M := mX7_readClause) (tgt := 69) dX7_readClause_56 59 rfl (by decide) (fun c25 => ?_) (fun c25 => ?_)
      · have c25 := iv_ne (X := v2.toInt) (Y := 112) c25 rfl (by decide)
        have kt69 : tC m18 = tC m := tC_eq (K21 86 2 rfl) (fun j => K21 87 j rfl)
        have k69 : CLA (tC m) x0.toInt (m 86 3).toInt = CND (tC m) (m18 86 3).toInt := by first | exact CLA_p (by omega) (by omega) (RSX_ok k64 (by omega)) | (rw [CLA_n (by omega) (by omega), show (m 86 3).toInt + 1 = (m18 86 3).toInt by omega])
        refine pv_aload_n (M := mX7_readClause) 0 dX7_readClause_69 70 rfl rfl rfl ?_
        refine mv_get (M := mX7_readClause) (v := .ref lb) dX7_readClause_70 FX7 1 wd281 (by decide) (tl86 hT) rfl R.2.2.2.1 73 rfl ?_
        refine pv_callv (M := mX7_readClause) (as := []) (st := []) (kc2 := 0) (ks2 := 0) dX7_readClause_73 wd658 YX6_beginCondition ⟨wd659, wd660⟩ (mk_get R.2.2.2.2.2.2.1) rfl rfl (s_X6_beginCondition_vx g hT I20 lb R.2.2.2.2.2) rfl rfl (Nat.le_of_ble_eq_true rfl) (by decide) rfl rfl 76 rfl (fun rv h1 q28 => ?_)
        obtain ⟨m29, n30, rfl, rfl, I31, K32, rm29⟩ := q28
        replace rm29 : (m29 lb 7).toInt = (m18 lb 7).toInt := rm29
        have K32c := K32
        have w33 : (m29 86 3).toInt = (m18 86 3).toInt := congrArg Int32.toInt (K32 86 3 (wr_out (by omega)))
        have w34 : (m29 86 2).toInt = (m18 86 2).toInt := congrArg Int32.toInt (K32 86 2 (wr_out (by omega)))
        have w35 : (m29 86 4).toInt = (m18 86 4).toInt := congrArg Int32.toInt (K32 86 4 (wr_out (by omega)))
        have K32 := K21.trans (K32.sub (by first | exact wR7_r (by omega) | exact wR7_wr))
        show PV _ _ _ _ _ _ _ 76 [.ref 86, .int x0, .int v2] [] _
        have kt76 : tC m29 = tC m := tC_eq (K32 86 2 rfl) (fun j => K32 87 j rfl)
        have kp76 : (m29 86 3).toInt = (m18 86 3).toInt := by omega
        refine pv_aload_n (M := mX7_readClause) 0 dX7_readClause_76 77 rfl rfl rfl ?_
        refine pv_bipush (M := mX7_readClause) (v := 40) dX7_readClause_77 79 rfl (by decide) ?_
        have z38 : (40 : Int32).toInt = 40 := by decide
        refine pv_callv (M := mX7_readClause) (as := [.int 40]) (st := []) (kc2 := 0) (ks2 := 0) dX7_readClause_79 wd555 YX7_pass ⟨wd557, wd8⟩ (mk_get (tl86 hT)) rfl rfl (s_X7_pass_vx g hT I31 R 40 (by decide) (by decide) (by first | omega | assumption | exact (iv_rng _).2 | exact (iv_rng _).1 | decide)) rfl rfl (Nat.le_of_ble_eq_true rfl) (by decide) rfl rfl 82 rfl (fun rv h1 q39 => ?_)
        obtain ⟨m40, n41, v44, rfl, rfl, I42, K43, pv44, qv44, rv44⟩ := q39
        replace rv44 : (m29 86 3).toInt ≤ (m40 86 3).toInt ∧ (m40 86 3).toInt ≤ (m40 86 2).toInt ∧ (m40 86 2).toInt = (m29 86 2).toInt ∧ ((v44.toInt = 1 ∧ tC m29 (m29 86 3).toInt = (40 : Int) ∧ (m40 86 3).toInt = (m29 86 3).toInt + 1) ∨ (v44.toInt = 0 ∧ tC m29 (m29 86 3).toInt ≠ (40 : Int) ∧ (m40 86 4).toInt = -1000 - (m29 86 3).toInt ∧ (m40 86 3).toInt = (m29 86 3).toInt)) ∧ (m40 lb 7).toInt = (m29 lb 7).toInt := by have q_ := rv44; (try rw [z38] at q_); exact q_
        have K43c := K43
        have K43 := K32.trans (K43.sub (fun _ _ q => q))
        show PV _ _ _ _ _ _ _ 82 [.ref 86, .int x0, .int v2] [.int v44] _
        have k82 := rv44.2.2.2.1
        rw [kt76, kp76] at k82
        refine pv_if_eq (M := mX7_readClause) (tgt := 102) dX7_readClause_82 85 rfl (by decide) (fun c47 => ?_) (fun c47 => ?_)
        · have c47 := iv_eq (X := v44.toInt) (Y := 0) c47 rfl (by decide)
          refine pv_iconst (M := mX7_readClause) (v := 0) dX7_readClause_102 103 rfl (by decide) ?_
          have z48 : (0 : Int32).toInt = 0 := by decide
          exact pv_iret (M := mX7_readClause) dX7_readClause_103 rfl rfl ⟨_, _, _, rfl, rfl, I42, K43, by decide, by decide, ⟨by omega, by omega, by omega, (by first | exact Or.inr ⟨by decide, FLT_of (a := 1) (p := (m18 86 3).toInt) (by rw [k69]; exact if_neg (by omega)) (by decide) (by omega)⟩ | exact Or.inr ⟨by decide, FLT_of (a := 1) (p := (m18 86 3).toInt) (by rw [k69, CND_o k40, k93, bnd_ok]; exact if_neg (by omega)) (by decide) (by omega)⟩ | exact Or.inr ⟨by decide, by rw [k69, CND_o k40]; exact FLT_b (RSX_fl k90 (by omega))⟩), fun q => by omega⟩⟩
        · have c47 := iv_ne (X := v44.toInt) (Y := 0) c47 rfl (by decide)
          have kt85 : tC m40 = tC m := tC_eq (K43 86 2 rfl) (fun j => K43 87 j rfl)
          have kp85 : (m40 86 3).toInt = (m18 86 3).toInt + 1 := by omega
          have k40 : tC m (m18 86 3).toInt = 40 := by omega
          refine pv_aload_n (M := mX7_readClause) 0 dX7_readClause_85 86 rfl rfl rfl ?_
          refine pv_iconst (M := mX7_readClause) (v := 1) dX7_readClause_86 87 rfl (by decide) ?_
          have z52 : (1 : Int32).toInt = 1 := by decide
          refine pv_callv (M := mX7_readClause) (as := [.int 1]) (st := []) (kc2 := 0) (ks2 := 0) dX7_readClause_87 wd662 YX7_readCondition ⟨wd664, wd12⟩ (mk_get (tl86 hT)) rfl rfl (s_X7_readCondition_v1x g hT I42 R (by first | omega | assumption | exact (iv_rng _).2 | exact (iv_rng _).1 | decide) (TBC_eq hp1 kt85)) rfl rfl (Nat.le_of_ble_eq_true rfl) (by decide) rfl rfl 90 rfl (fun rv h1 q53 => ?_)
          obtain ⟨m54, n55, v58, rfl, rfl, I56, K57, pv58, qv58, rv58⟩ := q53
          replace rv58 : (m40 86 3).toInt ≤ (m54 86 3).toInt ∧ (m54 86 3).toInt ≤ (m54 86 2).toInt ∧ (m54 86 2).toInt = (m40 86 2).toInt ∧ (RSX (CN (tC m40) 5 (m40 86 3).toInt) v58.toInt (m54 86 3).toInt (m54 86 4).toInt) ∧ (m54 lb 7).toInt = (m40 lb 7).toInt := by have q_ := rv58; (try rw [z52] at q_); exact q_
          have K57c := K57
          have K57 := K43.trans (K57.sub (fun _ _ q => q))
          show PV _ _ _ _ _ _ _ 90 [.ref 86, .int x0, .int v2] [.int v58] _
          have k90 := rv58.2.2.2.1
          rw [kt85, kp85] at k90
          refine pv_if_eq (M := mX7_readClause) (tgt := 102) dX7_readClause_90 93 rfl (by decide) (fun c61 => ?_) (fun c61 => ?_)
          · have c61 := iv_eq (X := v58.toInt) (Y := 0) c61 rfl (by decide)
            refine pv_iconst (M := mX7_readClause) (v := 0) dX7_readClause_102 103 rfl (by decide) ?_
            have z62 : (0 : Int32).toInt = 0 := by decide
            exact pv_iret (M := mX7_readClause) dX7_readClause_103 rfl rfl ⟨_, _, _, rfl, rfl, I56, K57, by decide, by decide, ⟨by omega, by omega, by omega, (by first | exact Or.inr ⟨by decide, FLT_of (a := 1) (p := (m18 86 3).toInt) (by rw [k69]; exact if_neg (by omega)) (by decide) (by omega)⟩ | exact Or.inr ⟨by decide, FLT_of (a := 1) (p := (m18 86 3).toInt) (by rw [k69, CND_o k40, k93, bnd_ok]; exact if_neg (by omega)) (by decide) (by omega)⟩ | exact Or.inr ⟨by decide, by rw [k69, CND_o k40]; exact FLT_b (RSX_fl k90 (by omega))⟩), fun q => by omega⟩⟩
          · have c61 := iv_ne (X := v58.toInt) (Y := 0) c61 rfl (by decide)
            have k93 := RSX_ok k90 (by omega)
            have kt93 : tC m54 = tC m := tC_eq (K57 86 2 rfl) (fun j => K57 87 j rfl)
            refine pv_aload_n (M := mX7_readClause) 0 dX7_readClause_93 94 rfl rfl rfl ?_
            refine pv_bipush (M := mX7_readClause) (v := 41) dX7_readClause_94 96 rfl (by decide) ?_
            have z65 : (41 : Int32).toInt = 41 := by decide
            refine pv_callv (M := mX7_readClause) (as := [.int 41]) (st := []) (kc2 := 0) (ks2 := 0) dX7_readClause_96 wd555 YX7_pass ⟨wd557, wd8⟩ (mk_get (tl86 hT)) rfl rfl (s_X7_pass_vx g hT I56 R 41 (by decide) (by decide) (by first | omega | assumption | exact (iv_rng _).2 | exact (iv_rng _).1 | decide)) rfl rfl (Nat.le_of_ble_eq_true rfl) (by decide) rfl rfl 99 rfl (fun rv h1 q66 => ?_)
            obtain ⟨m67, n68, v71, rfl, rfl, I69, K70, pv71, qv71, rv71⟩ := q66
            replace rv71 : (m54 86 3).toInt ≤ (m67 86 3).toInt ∧ (m67 86 3).toInt ≤ (m67 86 2).toInt ∧ (m67 86 2).toInt = (m54 86 2).toInt ∧ ((v71.toInt = 1 ∧ tC m54 (m54 86 3).toInt = (41 : Int) ∧ (m67 86 3).toInt = (m54 86 3).toInt + 1) ∨ (v71.toInt = 0 ∧ tC m54 (m54 86 3).toInt ≠ (41 : Int) ∧ (m67 86 4).toInt = -1000 - (m54 86 3).toInt ∧ (m67 86 3).toInt = (m54 86 3).toInt)) ∧ (m67 lb 7).toInt = (m54 lb 7).toInt := by have q_ := rv71; (try rw [z65] at q_); exact q_
            have K70c := K70
            have K70 := K57.trans (K70.sub (fun _ _ q => q))
            show PV _ _ _ _ _ _ _ 99 [.ref 86, .int x0, .int v2] [.int v71] _
            have k99 := rv71.2.2.2.1
            rw [kt93] at k99
            refine pv_if_ne (M := mX7_readClause) (tgt := 104) dX7_readClause_99 102 rfl (by decide) (fun c74 => ?_) (fun c74 => ?_)
            · have c74 := iv_ne (X := v71.toInt) (Y := 0) c74 rfl (by decide)
              refine pv_aload_n (M := mX7_readClause) 0 dX7_readClause_104 105 rfl rfl rfl ?_
              refine mv_get (M := mX7_readClause) (v := .ref lb) dX7_readClause_105 FX7 1 wd281 (by decide) (tl86 hT) rfl R.2.2.2.1 108 rfl ?_
              refine pv_callv (M := mX7_readClause) (as := []) (st := []) (kc2 := 0) (ks2 := 0) dX7_readClause_108 wd683 YX6_endClause ⟨wd684, wd685⟩ (mk_get R.2.2.2.2.2.2.1) rfl rfl (s_X6_endClause_vx g hT I69 lb R.2.2.2.2.2) rfl rfl (Nat.le_of_ble_eq_true rfl) (by decide) rfl rfl 111 rfl (fun rv h1 q75 => ?_)
              obtain ⟨m76, n77, rfl, rfl, I78, K79, rm76⟩ := q75
              replace rm76 : (m67 lb 7).toInt < 12 → (m76 lb 7).toInt = (m67 lb 7).toInt + 1 := rm76
              have K79c := K79
              have w80 : (m76 86 3).toInt = (m67 86 3).toInt := congrArg Int32.toInt (K79 86 3 (wr_out (by omega)))
              have w81 : (m76 86 2).toInt = (m67 86 2).toInt := congrArg Int32.toInt (K79 86 2 (wr_out (by omega)))
              have w82 : (m76 86 4).toInt = (m67 86 4).toInt := congrArg Int32.toInt (K79 86 4 (wr_out (by omega)))
              have K79 := K70.trans (K79.sub (by first | exact wR7_r (by omega) | exact wR7_wr))
              show PV _ _ _ _ _ _ _ 111 [.ref 86, .int x0, .int v2] [] _
              refine pv_iconst (M := mX7_readClause) (v := 1) dX7_readClause_111 112 rfl (by decide) ?_
              have z83 : (1 : Int32).toInt = 1 := by decide
              exact pv_iret (M := mX7_readClause) dX7_readClause_112 rfl rfl ⟨_, _, _, rfl, rfl, I78, K79, by decide, by decide, ⟨by omega, by omega, by omega, Or.inl ⟨by decide, by rw [k69, CND_o k40, k93, bnd_ok]; exact (if_pos (by omega)).trans (by rw [show (m54 86 3).toInt + 1 = (m76 86 3).toInt by omega])⟩, fun q => by omega⟩⟩
            · have c74 := iv_eq (X := v71.toInt) (Y := 0) c74 rfl (by decide)
              refine pv_iconst (M := mX7_readClause) (v := 0) dX7_readClause_102 103 rfl (by decide) ?_
              have z84 : (0 : Int32).toInt = 0 := by decide
              exact pv_iret (M := mX7_readClause) dX7_readClause_103 rfl rfl ⟨_, _, _, rfl, rfl, I69, K70, by decide, by decide, ⟨by omega, by omega, by omega, (by first | exact Or.inr ⟨by decide, FLT_of (a := 1) (p := (m18 86 3).toInt) (by rw [k69]; exact if_neg (by omega)) (by decide) (by omega)⟩ | exact Or.inr ⟨by decide, FLT_of (a := 1) (p := (m54 86 3).toInt) (by rw [k69, CND_o k40, k93, bnd_ok]; exact if_neg (by omega)) (by decide) (by omega)⟩ | exact Or.inr ⟨by decide, by rw [k69, CND_o k40]; exact FLT_b (RSX_fl k90 (by omega))⟩), fun q => by omega⟩⟩
      · have c25 := iv_eq (X := v2.toInt) (Y := 112) c25 rfl (by decide)
        omega
    · have c6 := iv_nlt (X := x0.toInt) (Y := 12) c6 rfl (by decide)
      refine pv_aload_n (M := mX7_readClause) 0 dX7_readClause_29 30 rfl rfl rfl ?_
      refine pv_iconst (M := mX7_readClause) (v := 4) dX7_readClause_30 31 rfl (by decide) ?_
      have z85 : (4 : Int32).toInt = 4 := by decide
      refine pv_callv (M := mX7_readClause) (as := [.int 4]) (st := []) (kc2 := 0) (ks2 := 0) dX7_readClause_31 wd531 YX7_fail ⟨wd533, wd3⟩ (mk_get (tl86 hT)) rfl rfl (s_X7_fail_vx g hT I R 4 (by decide) (by decide) (by first | omega | assumption | exact (iv_rng _).2 | exact (iv_rng _).1 | decide)) rfl rfl (Nat.le_of_ble_eq_true rfl) (by decide) rfl rfl 34 rfl (fun rv h1 q86 => ?_)
      obtain ⟨m87, n88, v91, rfl, rfl, I89, K90, pv91, qv91, rv91⟩ := q86
      replace rv91 : (m 86 3).toInt ≤ (m87 86 3).toInt ∧ (m87 86 3).toInt ≤ (m87 86 2).toInt ∧ (m87 86 2).toInt = (m 86 2).toInt ∧ (v91.toInt = 0 ∧ (m87 86 3).toInt = (m 86 3).toInt ∧ (m87 86 4).toInt = -1000 * (4 : Int) - (m 86 3).toInt) ∧ (m87 lb 7).toInt = (m lb 7).toInt := by have q_ := rv91; (try rw [z85] at q_); exact q_
      have K90c := K90
      have K90 := Kp.trans (K90.sub (fun _ _ q => q))
      show PV _ _ _ _ _ _ _ 34 [.ref 86, .int x0, .int v2] [.int v91] _
      exact pv_iret (M := mX7_readClause) dX7_readClause_34 rfl (iv_nz (by omega) (by omega)) ⟨_, _, _, rfl, rfl, I89, K90, by omega, by omega, ⟨by omega, by omega, by omega, Or.inr ⟨by omega, CLA_4 (by omega) (by omega) (by omega)⟩, fun q => by omega⟩⟩
  · have c5 := iv_ne (X := v2.toInt) (Y := 110) c5 rfl (by decide)
    refine pv_iload_n (M := mX7_readClause) 2 dX7_readClause_11 12 rfl rfl rfl ?_
    refine pv_bipush (M := mX7_readClause) (v := 112) dX7_readClause_12 14 rfl (by decide) ?_
    refine pv_icmp_eq (M := mX7_readClause) (tgt := 23) dX7_readClause_14 17 rfl (by decide) (fun c92 => ?_) (fun c92 => ?_)
    · have c92 := iv_eq (X := v2.toInt) (Y := 112) c92 rfl (by decide)
      refine pv_iload_n (M := mX7_readClause) 1 dX7_readClause_23 24 rfl rfl rfl ?_
      refine pv_bipush (M := mX7_readClause) (v := 12) dX7_readClause_24 26 rfl (by decide) ?_
      refine pv_icmp_lt (M := mX7_readClause) (tgt := 35) dX7_readClause_26 29 rfl (by decide) (fun c93 => ?_) (fun c93 => ?_)
      · have c93 := iv_lt (X := x0.toInt) (Y := 12) c93 rfl (by decide)
        refine pv_aload_n (M := mX7_readClause) 0 dX7_readClause_35 36 rfl rfl rfl ?_
        refine pv_dup (M := mX7_readClause) dX7_readClause_36 37 rfl rfl ?_
        refine iv_get (M := mX7_readClause) (l1 := 0) (l2 := 160) dX7_readClause_37 FX7 3 wd283 (by decide) (tl86 hT) rfl I rfl 40 rfl (fun v94 ev94 pv94 qv94 => ?_)
        have wv94 : v94.toInt = (m 86 3).toInt := congrArg Int32.toInt ev94
        refine pv_iconst (M := mX7_readClause) (v := 1) dX7_readClause_40 41 rfl (by decide) ?_
        refine iv_iadd (M := mX7_readClause) (X := v94.toInt) (Y := 1) dX7_readClause_41 42 rfl rfl (by decide) (by omega) (by omega) (fun v95 ev95 => ?_)
        refine iv_put (M := mX7_readClause) (l1 := 0) (l2 := 160) dX7_readClause_42 FX7 3 wd283 (by decide) rfl (tl86 hT) rfl rfl rfl I rfl (by omega) (by omega) 45 rfl (fun m96 e99 I97 => ?_)
        have K98 := Kp.set e99 (by decide)
        have w100 : (m96 86 3).toInt = v95.toInt := by rw [e99, up2_eq]
        have w101 : (m96 86 2).toInt = (m 86 2).toInt := by rw [e99, up2_ne (by omega)]
        have w102 : (m96 86 4).toInt = (m 86 4).toInt := by rw [e99, up2_ne (by omega)]
        have w103 : (m96 lb 7).toInt = (m lb 7).toInt := by rw [e99, up2_ne (by omega)]
        refine pv_aload_n (M := mX7_readClause) 0 dX7_readClause_45 46 rfl rfl rfl ?_
        refine mv_get (M := mX7_readClause) (v := .ref lb) dX7_readClause_46 FX7 1 wd281 (by decide) (tl86 hT) rfl R.2.2.2.1 49 rfl ?_
        refine pv_iload_n (M := mX7_readClause) 2 dX7_readClause_49 50 rfl rfl rfl ?_
        refine pv_callv (M := mX7_readClause) (as := [.int v2]) (st := []) (kc2 := 0) (ks2 := 0) dX7_readClause_50 wd535 YX6_beginClause ⟨wd536, wd537⟩ (mk_get R.2.2.2.2.2.2.1) rfl rfl (s_X6_beginClause_vx g hT I97 lb R.2.2.2.2.2 v2) rfl rfl (Nat.le_of_ble_eq_true rfl) (by decide) rfl rfl 53 rfl (fun rv h1 q104 => ?_)
        obtain ⟨m105, n106, rfl, rfl, I107, K108, rm105⟩ := q104
        replace rm105 : (m105 lb 7).toInt = (m96 lb 7).toInt := rm105
        have K108c := K108
        have w109 : (m105 86 3).toInt = (m96 86 3).toInt := congrArg Int32.toInt (K108 86 3 (wr_out (by omega)))
        have w110 : (m105 86 2).toInt = (m96 86 2).toInt := congrArg Int32.toInt (K108 86 2 (wr_out (by omega)))
        have w111 : (m105 86 4).toInt = (m96 86 4).toInt := congrArg Int32.toInt (K108 86 4 (wr_out (by omega)))
        have K108 := K98.trans (K108.sub (by first | exact wR7_r (by omega) | exact wR7_wr))
        show PV _ _ _ _ _ _ _ 53 [.ref 86, .int x0, .int v2] [] _
        refine pv_iload_n (M := mX7_readClause) 2 dX7_readClause_53 54 rfl rfl rfl ?_
        refine pv_bipush (M := mX7_readClause) (v := 112) dX7_readClause_54 56 rfl (by decide) ?_
        refine pv_icmp_ne (M := mX7_readClause) (tgt := 69) dX7_readClause_56 59 rfl (by decide) (fun c112 => ?_) (fun c112 => ?_)
        · have c112 := iv_ne (X := v2.toInt) (Y := 112) c112 rfl (by decide)
          omega
        · have c112 := iv_eq (X := v2.toInt) (Y := 112) c112 rfl (by decide)
          have kt59 : tC m105 = tC m := tC_eq (K108 86 2 rfl) (fun j => K108 87 j rfl)
          have kp59 : (m105 86 3).toInt = (m 86 3).toInt + 1 := by omega
          refine pv_aload_n (M := mX7_readClause) 0 dX7_readClause_59 60 rfl rfl rfl ?_
          refine pv_iconst (M := mX7_readClause) (v := 0) dX7_readClause_60 61 rfl (by decide) ?_
          have z115 : (0 : Int32).toInt = 0 := by decide
          refine pv_callv (M := mX7_readClause) (as := [.int 0]) (st := []) (kc2 := 0) (ks2 := 0) dX7_readClause_61 wd539 YX7_readSum ⟨wd541, wd4⟩ (mk_get (tl86 hT)) rfl rfl (s_X7_readSum_v0x g hT I107 R (by first | omega | assumption | exact (iv_rng _).2 | exact (iv_rng _).1 | decide) (TBC_eq hp1 kt59)) rfl rfl (Nat.le_of_ble_eq_true rfl) (by decide) rfl rfl 64 rfl (fun rv h1 q116 => ?_)
          obtain ⟨m117, n118, v121, rfl, rfl, I119, K120, pv121, qv121, rv121⟩ := q116
          replace rv121 : (m105 86 3).toInt ≤ (m117 86 3).toInt ∧ (m117 86 3).toInt ≤ (m117 86 2).toInt ∧ (m117 86 2).toInt = (m105 86 2).toInt ∧ (RSX (SU (tC m105) 6 (m105 86 3).toInt) v121.toInt (m117 86 3).toInt (m117 86 4).toInt) ∧ (m117 lb 7).toInt = (m105 lb 7).toInt := by have q_ := rv121; (try rw [z115] at q_); exact q_
          have K120c := K120
          have K120 := K108.trans (K120.sub (fun _ _ q => q))
          show PV _ _ _ _ _ _ _ 64 [.ref 86, .int x0, .int v2] [.int v121] _
          have k64 := rv121.2.2.2.1
          rw [kt59, kp59] at k64
          refine pv_if_ne (M := mX7_readClause) (tgt := 69) dX7_readClause_64 67 rfl (by decide) (fun c124 => ?_) (fun c124 => ?_)
          · have c124 := iv_ne (X := v121.toInt) (Y := 0) c124 rfl (by decide)
            have kt69 : tC m117 = tC m := tC_eq (K120 86 2 rfl) (fun j => K120 87 j rfl)
            have k69 : CLA (tC m) x0.toInt (m 86 3).toInt = CND (tC m) (m117 86 3).toInt := by first | exact CLA_p (by omega) (by omega) (RSX_ok k64 (by omega)) | (rw [CLA_n (by omega) (by omega), show (m 86 3).toInt + 1 = (m117 86 3).toInt by omega])
            refine pv_aload_n (M := mX7_readClause) 0 dX7_readClause_69 70 rfl rfl rfl ?_
            refine mv_get (M := mX7_readClause) (v := .ref lb) dX7_readClause_70 FX7 1 wd281 (by decide) (tl86 hT) rfl R.2.2.2.1 73 rfl ?_
            refine pv_callv (M := mX7_readClause) (as := []) (st := []) (kc2 := 0) (ks2 := 0) dX7_readClause_73 wd658 YX6_beginCondition ⟨wd659, wd660⟩ (mk_get R.2.2.2.2.2.2.1) rfl rfl (s_X6_beginCondition_vx g hT I119 lb R.2.2.2.2.2) rfl rfl (Nat.le_of_ble_eq_true rfl) (by decide) rfl rfl 76 rfl (fun rv h1 q127 => ?_)
            obtain ⟨m128, n129, rfl, rfl, I130, K131, rm128⟩ := q127
            replace rm128 : (m128 lb 7).toInt = (m117 lb 7).toInt := rm128
            have K131c := K131
            have w132 : (m128 86 3).toInt = (m117 86 3).toInt := congrArg Int32.toInt (K131 86 3 (wr_out (by omega)))
            have w133 : (m128 86 2).toInt = (m117 86 2).toInt := congrArg Int32.toInt (K131 86 2 (wr_out (by omega)))
            have w134 : (m128 86 4).toInt = (m117 86 4).toInt := congrArg Int32.toInt (K131 86 4 (wr_out (by omega)))
            have K131 := K120.trans (K131.sub (by first | exact wR7_r (by omega) | exact wR7_wr))
            show PV _ _ _ _ _ _ _ 76 [.ref 86, .int x0, .int v2] [] _
            have kt76 : tC m128 = tC m := tC_eq (K131 86 2 rfl) (fun j => K131 87 j rfl)
            have kp76 : (m128 86 3).toInt = (m117 86 3).toInt := by omega
            refine pv_aload_n (M := mX7_readClause) 0 dX7_readClause_76 77 rfl rfl rfl ?_
            refine pv_bipush (M := mX7_readClause) (v := 40) dX7_readClause_77 79 rfl (by decide) ?_
            have z137 : (40 : Int32).toInt = 40 := by decide
            refine pv_callv (M := mX7_readClause) (as := [.int 40]) (st := []) (kc2 := 0) (ks2 := 0) dX7_readClause_79 wd555 YX7_pass ⟨wd557, wd8⟩ (mk_get (tl86 hT)) rfl rfl (s_X7_pass_vx g hT I130 R 40 (by decide) (by decide) (by first | omega | assumption | exact (iv_rng _).2 | exact (iv_rng _).1 | decide)) rfl rfl (Nat.le_of_ble_eq_true rfl) (by decide) rfl rfl 82 rfl (fun rv h1 q138 => ?_)
            obtain ⟨m139, n140, v143, rfl, rfl, I141, K142, pv143, qv143, rv143⟩ := q138
            replace rv143 : (m128 86 3).toInt ≤ (m139 86 3).toInt ∧ (m139 86 3).toInt ≤ (m139 86 2).toInt ∧ (m139 86 2).toInt = (m128 86 2).toInt ∧ ((v143.toInt = 1 ∧ tC m128 (m128 86 3).toInt = (40 : Int) ∧ (m139 86 3).toInt = (m128 86 3).toInt + 1) ∨ (v143.toInt = 0 ∧ tC m128 (m128 86 3).toInt ≠ (40 : Int) ∧ (m139 86 4).toInt = -1000 - (m128 86 3).toInt ∧ (m139 86 3).toInt = (m128 86 3).toInt)) ∧ (m139 lb 7).toInt = (m128 lb 7).toInt := by have q_ := rv143; (try rw [z137] at q_); exact q_
            have K142c := K142
            have K142 := K131.trans (K142.sub (fun _ _ q => q))
            show PV _ _ _ _ _ _ _ 82 [.ref 86, .int x0, .int v2] [.int v143] _
            have k82 := rv143.2.2.2.1
            rw [kt76, kp76] at k82
            refine pv_if_eq (M := mX7_readClause) (tgt := 102) dX7_readClause_82 85 rfl (by decide) (fun c146 => ?_) (fun c146 => ?_)
            · have c146 := iv_eq (X := v143.toInt) (Y := 0) c146 rfl (by decide)
              refine pv_iconst (M := mX7_readClause) (v := 0) dX7_readClause_102 103 rfl (by decide) ?_
              have z147 : (0 : Int32).toInt = 0 := by decide
              exact pv_iret (M := mX7_readClause) dX7_readClause_103 rfl rfl ⟨_, _, _, rfl, rfl, I141, K142, by decide, by decide, ⟨by omega, by omega, by omega, (by first | exact Or.inr ⟨by decide, FLT_of (a := 1) (p := (m117 86 3).toInt) (by rw [k69]; exact if_neg (by omega)) (by decide) (by omega)⟩ | exact Or.inr ⟨by decide, FLT_of (a := 1) (p := (m117 86 3).toInt) (by rw [k69, CND_o k40, k93, bnd_ok]; exact if_neg (by omega)) (by decide) (by omega)⟩ | exact Or.inr ⟨by decide, by rw [k69, CND_o k40]; exact FLT_b (RSX_fl k90 (by omega))⟩), fun q => by omega⟩⟩
            · have c146 := iv_ne (X := v143.toInt) (Y := 0) c146 rfl (by decide)
              have kt85 : tC m139 = tC m := tC_eq (K142 86 2 rfl) (fun j => K142 87 j rfl)
              have kp85 : (m139 86 3).toInt = (m117 86 3).toInt + 1 := by omega
              have k40 : tC m (m117 86 3).toInt = 40 := by omega
              refine pv_aload_n (M := mX7_readClause) 0 dX7_readClause_85 86 rfl rfl rfl ?_
              refine pv_iconst (M := mX7_readClause) (v := 1) dX7_readClause_86 87 rfl (by decide) ?_
              have z151 : (1 : Int32).toInt = 1 := by decide
              refine pv_callv (M := mX7_readClause) (as := [.int 1]) (st := []) (kc2 := 0) (ks2 := 0) dX7_readClause_87 wd662 YX7_readCondition ⟨wd664, wd12⟩ (mk_get (tl86 hT)) rfl rfl (s_X7_readCondition_v1x g hT I141 R (by first | omega | assumption | exact (iv_rng _).2 | exact (iv_rng _).1 | decide) (TBC_eq hp1 kt85)) rfl rfl (Nat.le_of_ble_eq_true rfl) (by decide) rfl rfl 90 rfl (fun rv h1 q152 => ?_)
              obtain ⟨m153, n154, v157, rfl, rfl, I155, K156, pv157, qv157, rv157⟩ := q152
              replace rv157 : (m139 86 3).toInt ≤ (m153 86 3).toInt ∧ (m153 86 3).toInt ≤ (m153 86 2).toInt ∧ (m153 86 2).toInt = (m139 86 2).toInt ∧ (RSX (CN (tC m139) 5 (m139 86 3).toInt) v157.toInt (m153 86 3).toInt (m153 86 4).toInt) ∧ (m153 lb 7).toInt = (m139 lb 7).toInt := by have q_ := rv157; (try rw [z151] at q_); exact q_
              have K156c := K156
              have K156 := K142.trans (K156.sub (fun _ _ q => q))
              show PV _ _ _ _ _ _ _ 90 [.ref 86, .int x0, .int v2] [.int v157] _
              have k90 := rv157.2.2.2.1
              rw [kt85, kp85] at k90
              refine pv_if_eq (M := mX7_readClause) (tgt := 102) dX7_readClause_90 93 rfl (by decide) (fun c160 => ?_) (fun c160 => ?_)
              · have c160 := iv_eq (X := v157.toInt) (Y := 0) c160 rfl (by decide)
                refine pv_iconst (M := mX7_readClause) (v := 0) dX7_readClause_102 103 rfl (by decide) ?_
                have z161 : (0 : Int32).toInt = 0 := by decide
                exact pv_iret (M := mX7_readClause) dX7_readClause_103 rfl rfl ⟨_, _, _, rfl, rfl, I155, K156, by decide, by decide, ⟨by omega, by omega, by omega, (by first | exact Or.inr ⟨by decide, FLT_of (a := 1) (p := (m117 86 3).toInt) (by rw [k69]; exact if_neg (by omega)) (by decide) (by omega)⟩ | exact Or.inr ⟨by decide, FLT_of (a := 1) (p := (m117 86 3).toInt) (by rw [k69, CND_o k40, k93, bnd_ok]; exact if_neg (by omega)) (by decide) (by omega)⟩ | exact Or.inr ⟨by decide, by rw [k69, CND_o k40]; exact FLT_b (RSX_fl k90 (by omega))⟩), fun q => by omega⟩⟩
              · have c160 := iv_ne (X := v157.toInt) (Y := 0) c160 rfl (by decide)
                have k93 := RSX_ok k90 (by omega)
                have kt93 : tC m153 = tC m := tC_eq (K156 86 2 rfl) (fun j => K156 87 j rfl)
                refine pv_aload_n (M := mX7_readClause) 0 dX7_readClause_93 94 rfl rfl rfl ?_
                refine pv_bipush (M := mX7_readClause) (v := 41) dX7_readClause_94 96 rfl (by decide) ?_
                have z164 : (41 : Int32).toInt = 41 := by decide
                refine pv_callv (M := mX7_readClause) (as := [.int 41]) (st := []) (kc2 := 0) (ks2 := 0) dX7_readClause_96 wd555 YX7_pass ⟨wd557, wd8⟩ (mk_get (tl86 hT)) rfl rfl (s_X7_pass_vx g hT I155 R 41 (by decide) (by decide) (by first | omega | assumption | exact (iv_rng _).2 | exact (iv_rng _).1 | decide)) rfl rfl (Nat.le_of_ble_eq_true rfl) (by decide) rfl rfl 99 rfl (fun rv h1 q165 => ?_)
                obtain ⟨m166, n167, v170, rfl, rfl, I168, K169, pv170, qv170, rv170⟩ := q165
                replace rv170 : (m153 86 3).toInt ≤ (m166 86 3).toInt ∧ (m166 86 3).toInt ≤ (m166 86 2).toInt ∧ (m166 86 2).toInt = (m153 86 2).toInt ∧ ((v170.toInt = 1 ∧ tC m153 (m153 86 3).toInt = (41 : Int) ∧ (m166 86 3).toInt = (m153 86 3).toInt + 1) ∨ (v170.toInt = 0 ∧ tC m153 (m153 86 3).toInt ≠ (41 : Int) ∧ (m166 86 4).toInt = -1000 - (m153 86 3).toInt ∧ (m166 86 3).toInt = (m153 86 3).toInt)) ∧ (m166 lb 7).toInt = (m153 lb 7).toInt := by have q_ := rv170; (try rw [z164] at q_); exact q_
                have K169c := K169
                have K169 := K156.trans (K169.sub (fun _ _ q => q))
                show PV _ _ _ _ _ _ _ 99 [.ref 86, .int x0, .int v2] [.int v170] _
                have k99 := rv170.2.2.2.1
                rw [kt93] at k99
                refine pv_if_ne (M := mX7_readClause) (tgt := 104) dX7_readClause_99 102 rfl (by decide) (fun c173 => ?_) (fun c173 => ?_)
                · have c173 := iv_ne (X := v170.toInt) (Y := 0) c173 rfl (by decide)
                  refine pv_aload_n (M := mX7_readClause) 0 dX7_readClause_104 105 rfl rfl rfl ?_
                  refine mv_get (M := mX7_readClause) (v := .ref lb) dX7_readClause_105 FX7 1 wd281 (by decide) (tl86 hT) rfl R.2.2.2.1 108 rfl ?_
                  refine pv_callv (M := mX7_readClause) (as := []) (st := []) (kc2 := 0) (ks2 := 0) dX7_readClause_108 wd683 YX6_endClause ⟨wd684, wd685⟩ (mk_get R.2.2.2.2.2.2.1) rfl rfl (s_X6_endClause_vx g hT I168 lb R.2.2.2.2.2) rfl rfl (Nat.le_of_ble_eq_true rfl) (by decide) rfl rfl 111 rfl (fun rv h1 q174 => ?_)
                  obtain ⟨m175, n176, rfl, rfl, I177, K178, rm175⟩ := q174
                  replace rm175 : (m166 lb 7).toInt < 12 → (m175 lb 7).toInt = (m166 lb 7).toInt + 1 := rm175
                  have K178c := K178
                  have w179 : (m175 86 3).toInt = (m166 86 3).toInt := congrArg Int32.toInt (K178 86 3 (wr_out (by omega)))
                  have w180 : (m175 86 2).toInt = (m166 86 2).toInt := congrArg Int32.toInt (K178 86 2 (wr_out (by omega)))
                  have w181 : (m175 86 4).toInt = (m166 86 4).toInt := congrArg Int32.toInt (K178 86 4 (wr_out (by omega)))
                  have K178 := K169.trans (K178.sub (by first | exact wR7_r (by omega) | exact wR7_wr))
                  show PV _ _ _ _ _ _ _ 111 [.ref 86, .int x0, .int v2] [] _
                  refine pv_iconst (M := mX7_readClause) (v := 1) dX7_readClause_111 112 rfl (by decide) ?_
                  have z182 : (1 : Int32).toInt = 1 := by decide
                  exact pv_iret (M := mX7_readClause) dX7_readClause_112 rfl rfl ⟨_, _, _, rfl, rfl, I177, K178, by decide, by decide, ⟨by omega, by omega, by omega, Or.inl ⟨by decide, by rw [k69, CND_o k40, k93, bnd_ok]; exact (if_pos (by omega)).trans (by rw [show (m153 86 3).toInt + 1 = (m175 86 3).toInt by omega])⟩, fun q => by omega⟩⟩
                · have c173 := iv_eq (X := v170.toInt) (Y := 0) c173 rfl (by decide)
                  refine pv_iconst (M := mX7_readClause) (v := 0) dX7_readClause_102 103 rfl (by decide) ?_
                  have z183 : (0 : Int32).toInt = 0 := by decide
                  exact pv_iret (M := mX7_readClause) dX7_readClause_103 rfl rfl ⟨_, _, _, rfl, rfl, I168, K169, by decide, by decide, ⟨by omega, by omega, by omega, (by first | exact Or.inr ⟨by decide, FLT_of (a := 1) (p := (m117 86 3).toInt) (by rw [k69]; exact if_neg (by omega)) (by decide) (by omega)⟩ | exact Or.inr ⟨by decide, FLT_of (a := 1) (p := (m153 86 3).toInt) (by rw [k69, CND_o k40, k93, bnd_ok]; exact if_neg (by omega)) (by decide) (by omega)⟩ | exact Or.inr ⟨by decide, by rw [k69, CND_o k40]; exact FLT_b (RSX_fl k90 (by omega))⟩), fun q => by omega⟩⟩
          · have c124 := iv_eq (X := v121.toInt) (Y := 0) c124 rfl (by decide)
            refine pv_iconst (M := mX7_readClause) (v := 0) dX7_readClause_67 68 rfl (by decide) ?_
            have z184 : (0 : Int32).toInt = 0 := by decide
            exact pv_iret (M := mX7_readClause) dX7_readClause_68 rfl rfl ⟨_, _, _, rfl, rfl, I119, K120, by decide, by decide, ⟨by omega, by omega, by omega, Or.inr ⟨by decide, CLA_pf (by omega) (by omega) (RSX_fl k64 (by omega))⟩, fun q => by omega⟩⟩
      · have c93 := iv_nlt (X := x0.toInt) (Y := 12) c93 rfl (by decide)
        refine pv_aload_n (M := mX7_readClause) 0 dX7_readClause_29 30 rfl rfl rfl ?_
        refine pv_iconst (M := mX7_readClause) (v := 4) dX7_readClause_30 31 rfl (by decide) ?_
        have z185 : (4 : Int32).toInt = 4 := by decide
        refine pv_callv (M := mX7_readClause) (as := [.int 4]) (st := []) (kc2 := 0) (ks2 := 0) dX7_readClause_31 wd531 YX7_fail ⟨wd533, wd3⟩ (mk_get (tl86 hT)) rfl rfl (s_X7_fail_vx g hT I R 4 (by decide) (by decide) (by first | omega | assumption | exact (iv_rng _).2 | exact (iv_rng _).1 | decide)) rfl rfl (Nat.le_of_ble_eq_true rfl) (by decide) rfl rfl 34 rfl (fun rv h1 q186 => ?_)
        obtain ⟨m187, n188, v191, rfl, rfl, I189, K190, pv191, qv191, rv191⟩ := q186
        replace rv191 : (m 86 3).toInt ≤ (m187 86 3).toInt ∧ (m187 86 3).toInt ≤ (m187 86 2).toInt ∧ (m187 86 2).toInt = (m 86 2).toInt ∧ (v191.toInt = 0 ∧ (m187 86 3).toInt = (m 86 3).toInt ∧ (m187 86 4).toInt = -1000 * (4 : Int) - (m 86 3).toInt) ∧ (m187 lb 7).toInt = (m lb 7).toInt := by have q_ := rv191; (try rw [z185] at q_); exact q_
        have K190c := K190
        have K190 := Kp.trans (K190.sub (fun _ _ q => q))
        show PV _ _ _ _ _ _ _ 34 [.ref 86, .int x0, .int v2] [.int v191] _
        exact pv_iret (M := mX7_readClause) dX7_readClause_34 rfl (iv_nz (by omega) (by omega)) ⟨_, _, _, rfl, rfl, I189, K190, by omega, by omega, ⟨by omega, by omega, by omega, Or.inr ⟨by omega, CLA_4 (by omega) (by omega) (by omega)⟩, fun q => by omega⟩⟩
    · have c92 := iv_ne (X := v2.toInt) (Y := 112) c92 rfl (by decide)
      refine pv_aload_n (M := mX7_readClause) 0 dX7_readClause_17 18 rfl rfl rfl ?_
      refine pv_iconst (M := mX7_readClause) (v := 1) dX7_readClause_18 19 rfl (by decide) ?_
      have z192 : (1 : Int32).toInt = 1 := by decide
      refine pv_callv (M := mX7_readClause) (as := [.int 1]) (st := []) (kc2 := 0) (ks2 := 0) dX7_readClause_19 wd531 YX7_fail ⟨wd533, wd3⟩ (mk_get (tl86 hT)) rfl rfl (s_X7_fail_vx g hT I R 1 (by decide) (by decide) (by first | omega | assumption | exact (iv_rng _).2 | exact (iv_rng _).1 | decide)) rfl rfl (Nat.le_of_ble_eq_true rfl) (by decide) rfl rfl 22 rfl (fun rv h1 q193 => ?_)
      obtain ⟨m194, n195, v198, rfl, rfl, I196, K197, pv198, qv198, rv198⟩ := q193
      replace rv198 : (m 86 3).toInt ≤ (m194 86 3).toInt ∧ (m194 86 3).toInt ≤ (m194 86 2).toInt ∧ (m194 86 2).toInt = (m 86 2).toInt ∧ (v198.toInt = 0 ∧ (m194 86 3).toInt = (m 86 3).toInt ∧ (m194 86 4).toInt = -1000 * (1 : Int) - (m 86 3).toInt) ∧ (m194 lb 7).toInt = (m lb 7).toInt := by have q_ := rv198; (try rw [z192] at q_); exact q_
      have K197c := K197
      have K197 := Kp.trans (K197.sub (fun _ _ q => q))
      show PV _ _ _ _ _ _ _ 22 [.ref 86, .int x0, .int v2] [.int v198] _
      exact pv_iret (M := mX7_readClause) dX7_readClause_22 rfl (iv_nz (by omega) (by omega)) ⟨_, _, _, rfl, rfl, I196, K197, by omega, by omega, ⟨by omega, by omega, by omega, Or.inr ⟨by omega, CLA_1 (by omega) (by omega) (by omega)⟩, fun q => by omega⟩⟩

set_option maxHeartbeats 2000000 in
set_option maxRecDepth 20000 in
theorem s_X7_read_vx (g : pv_G) {T : List mv_T} {m : Nat → Nat → Int32} {n : Nat → Nat → Int64} {r : Nat → Value} {la lb : Nat} (hT : TX T) (I : IV BB m) (R : RX T r la lb) (x1 : Int32) (hl1 : 0 ≤ x1.toInt) (hh1 : x1.toInt ≤ 200) (hp0 : 1 ≤ x1.toInt) (hp1 : x1.toInt ≤ 160) : PM g mX7_read yX7_read (sqI T BB (wl [(77, 96, none)]) r m (-2147483648) 2147483647 (fun m' v => v.toInt = LWA (tK (m 2) x1.toInt) x1.toInt 14 0 0)) 27 0 0 [.ref 86, .ref 2, .int x1] (mk T m n r) := by
  have Kp : fr (wl [(77, 96, none)]) m m := fr.rf
  have R0 := R
  have zR := R.2.2.2.2.1.1
  have zR2 := R.2.2.2.2.2.1
  have z128 : 0 ≤ (m 86 3).toInt ∧ (m 86 3).toInt ≤ 160 := I 86 3
  have z129 : 0 ≤ (m 86 2).toInt ∧ (m 86 2).toInt ≤ 160 := I 86 2
  refine PM.of 2 (lo := [.ref 86, .ref 2, .int x1, pv_U, pv_U]) rfl (by decide) rfl rfl (Nat.le_of_ble_eq_true rfl) ?_
  refine pv_aload_n (M := mX7_read) 0 dX7_read_0 1 rfl rfl rfl ?_
  refine pv_iconst (M := mX7_read) (v := 0) dX7_read_1 2 rfl (by decide) ?_
  refine pv_iload_n (M := mX7_read) 2 dX7_read_2 3 rfl rfl rfl ?_
  refine pv_aload_n (M := mX7_read) 1 dX7_read_3 4 rfl rfl rfl ?_
  refine pv_alen (M := mX7_read) (v := 200) dX7_read_4 (mk_get (tl2 hT)) (by decide) (show Int32.ofNat 200 = 200 by decide) 5 rfl ?_
  refine pv_sipush (M := mX7_read) (v := 160) dX7_read_5 8 rfl (by decide) ?_
  refine iv_min (M := mX7_read) (X := 200) (Y := 160) dX7_read_8 wd512 Wmmin (Nat.le_of_ble_eq_true rfl) (by decide) (by decide) (by decide) 11 rfl (fun v2 ev2 fv2 gv2 => ?_)
  refine iv_min (M := mX7_read) (X := x1.toInt) (Y := v2.toInt) dX7_read_11 wd512 Wmmin (Nat.le_of_ble_eq_true rfl) (by decide) rfl rfl 14 rfl (fun v3 ev3 fv3 gv3 => ?_)
  refine iv_max (M := mX7_read) (X := 0) (Y := v3.toInt) dX7_read_14 wd515 Wmmax (Nat.le_of_ble_eq_true rfl) (by decide) (by decide) rfl 17 rfl (fun v4 ev4 fv4 gv4 => ?_)
  refine iv_put (M := mX7_read) (l1 := 0) (l2 := 160) dX7_read_17 FX7 2 wd282 (by decide) rfl (tl86 hT) rfl rfl rfl I rfl (by omega) (by omega) 20 rfl (fun m5 e8 I6 => ?_)
  have K7 := Kp.set e8 (wl_r (by omega) (by omega))
  have w9 : (m5 86 3).toInt = (m 86 3).toInt := by rw [e8, up2_ne (by omega)]
  have w10 : (m5 86 2).toInt = v4.toInt := by rw [e8, up2_eq]
  have w11 : (m5 86 4).toInt = (m 86 4).toInt := by rw [e8, up2_ne (by omega)]
  have w12 : (m5 lb 7).toInt = (m lb 7).toInt := by rw [e8, up2_ne (by omega)]
  have k20 : ∀ j, m5 2 j = m 2 j := fun j => by rw [e8, up2_ne (by omega)]
  refine pv_aload_n (M := mX7_read) 1 dX7_read_20 21 rfl rfl rfl ?_
  refine pv_iconst (M := mX7_read) (v := 0) dX7_read_21 22 rfl (by decide) ?_
  refine pv_aload_n (M := mX7_read) 0 dX7_read_22 23 rfl rfl rfl ?_
  refine mv_get (M := mX7_read) (v := .ref 87) dX7_read_23 FX7 0 wd280 (by decide) (tl86 hT) rfl rfl 26 rfl ?_
  refine pv_iconst (M := mX7_read) (v := 0) dX7_read_26 27 rfl (by decide) ?_
  refine pv_aload_n (M := mX7_read) 0 dX7_read_27 28 rfl rfl rfl ?_
  refine iv_get (M := mX7_read) (l1 := 0) (l2 := 160) dX7_read_28 FX7 2 wd282 (by decide) (tl86 hT) rfl I6 rfl 31 rfl (fun v14 ev14 pv14 qv14 => ?_)
  have wv14 : v14.toInt = (m5 86 2).toInt := congrArg Int32.toInt ev14
  refine iv_copyx (M := mX7_read) (X := 0) (Y := 0) (Z := v14.toInt) dX7_read_31 wd516 Wnat Wcst Wcin (tl2 hT) (tl87 hT) (by decide) (by decide) rfl (by omega) (by omega) (by omega) (by omega) (by omega) (Nat.le_of_ble_eq_true rfl) (by decide) I6 (fun _ => rfl) (fun _ => rfl) (by omega) (by omega) 34 rfl (fun m15 e18 rm15 I16 => ?_)
  have K17 := K7.trans (fr_off e18 (fun _ => (wl_r (by omega) (by omega))))
  have w19 : (m15 86 3).toInt = (m5 86 3).toInt := by rw [e18 86 (by omega)]
  have w20 : (m15 86 2).toInt = (m5 86 2).toInt := by rw [e18 86 (by omega)]
  have w21 : (m15 86 4).toInt = (m5 86 4).toInt := by rw [e18 86 (by omega)]
  have w22 : (m15 lb 7).toInt = (m5 lb 7).toInt := by rw [e18 lb (by omega)]
  have k34 := rm15
  refine pv_aload_n (M := mX7_read) 0 dX7_read_34 35 rfl rfl rfl ?_
  refine mv_get (M := mX7_read) (v := .ref lb) dX7_read_35 FX7 1 wd281 (by decide) (tl86 hT) rfl R.2.2.2.1 38 rfl ?_
  refine pv_callv (M := mX7_read) (as := []) (st := []) (kc2 := 0) (ks2 := 0) dX7_read_38 wd519 YX6_clear ⟨wd520, wd521⟩ (mk_get R.2.2.2.2.2.2.1) rfl rfl (s_X6_clear_vx g hT I16 lb R.2.2.2.2.2) rfl rfl (Nat.le_of_ble_eq_true rfl) (by decide) rfl rfl 41 rfl (fun rv h1 q24 => ?_)
  obtain ⟨m25, n26, rfl, rfl, I27, K28, rm25⟩ := q24
  replace rm25 : (m25 lb 7).toInt = 0 := rm25
  have K28c := K28
  have w29 : (m25 86 3).toInt = (m15 86 3).toInt := congrArg Int32.toInt (K28 86 3 (wr_out (by omega)))
  have w30 : (m25 86 2).toInt = (m15 86 2).toInt := congrArg Int32.toInt (K28 86 2 (wr_out (by omega)))
  have w31 : (m25 86 4).toInt = (m15 86 4).toInt := congrArg Int32.toInt (K28 86 4 (wr_out (by omega)))
  have K28 := K17.trans (K28.sub (wr_wr (by omega) (by omega)))
  show PV _ _ _ _ _ _ _ 41 [.ref 86, .ref 2, .int x1, pv_U, pv_U] [] _
  refine pv_aload_n (M := mX7_read) 0 dX7_read_41 42 rfl rfl rfl ?_
  refine pv_iconst (M := mX7_read) (v := 0) dX7_read_42 43 rfl (by decide) ?_
  refine iv_put (M := mX7_read) (l1 := 0) (l2 := 160) dX7_read_43 FX7 3 wd283 (by decide) rfl (tl86 hT) rfl rfl rfl I27 rfl (by decide) (by decide) 46 rfl (fun m32 e35 I33 => ?_)
  have K34 := K28.set e35 (wl_r (by omega) (by omega))
  have w36 : (m32 86 3).toInt = 0 := by rw [e35, up2_eq] <;> rfl
  have w37 : (m32 86 2).toInt = (m25 86 2).toInt := by rw [e35, up2_ne (by omega)]
  have w38 : (m32 86 4).toInt = (m25 86 4).toInt := by rw [e35, up2_ne (by omega)]
  have w39 : (m32 lb 7).toInt = (m25 lb 7).toInt := by rw [e35, up2_ne (by omega)]
  have k43 : (m32 86 3).toInt = 0 := by omega
  refine pv_aload_n (M := mX7_read) 0 dX7_read_46 47 rfl rfl rfl ?_
  refine pv_iconst (M := mX7_read) (v := 0) dX7_read_47 48 rfl (by decide) ?_
  refine iv_put (M := mX7_read) (l1 := (-2147483648)) (l2 := 2147483647) dX7_read_48 FX7 4 wd284 (by decide) rfl (tl86 hT) rfl rfl rfl I33 rfl (by decide) (by decide) 51 rfl (fun m41 e44 I42 => ?_)
  have K43 := K34.set e44 (wl_r (by omega) (by omega))
  have w45 : (m41 86 3).toInt = (m32 86 3).toInt := by rw [e44, up2_ne (by omega)]
  have w46 : (m41 86 2).toInt = (m32 86 2).toInt := by rw [e44, up2_ne (by omega)]
  have w47 : (m41 86 4).toInt = 0 := by rw [e44, up2_eq] <;> rfl
  have w48 : (m41 lb 7).toInt = (m32 lb 7).toInt := by rw [e44, up2_ne (by omega)]
  have kt0 : tC m41 = (tK (m 2) x1.toInt) := tC_K (by omega) (by omega) (fun j hj => by rw [e44, up2_ne (by omega), e35, up2_ne (by omega), K28c 87 j (wr_out (by omega)), k34 j]; unfold va_cpy; rw [if_pos (by omega), k20]; congr 1; omega)
  have k43 : (m41 86 3).toInt = 0 := by omega
  refine pv_iconst (M := mX7_read) (v := 1) dX7_read_51 52 rfl (by decide) ?_
  refine pv_istore_n (M := mX7_read) 3 (lo2 := [.ref 86, .ref 2, .int x1, .int 1, pv_U]) dX7_read_52 53 rfl rfl (by decide) rfl rfl ?_
  refine pv_iconst (M := mX7_read) (v := 0) dX7_read_53 54 rfl (by decide) ?_
  refine pv_istore (M := mX7_read) (lo2 := [.ref 86, .ref 2, .int x1, .int 1, .int 0]) dX7_read_54 56 rfl (by decide) rfl rfl ?_
  have lp58 : ∀ (fuel57 : Nat) (y51 : Int32) (y52 : Int32) (m53 : Nat → Nat → Int32) (n54 : Nat → Nat → Int64), (0 ≤ y51.toInt) → (y51.toInt ≤ 1) → (0 ≤ y52.toInt) → (y52.toInt ≤ 12) → ((m53 86 3).toInt ≤ (m53 86 2).toInt) → ((m53 86 2).toInt = x1.toInt) → ((m53 lb 7).toInt = y52.toInt) → (tC m53 = (tK (m 2) x1.toInt)) → ((y51).toInt ≠ 0 → LWA (tK (m 2) x1.toInt) x1.toInt 14 0 0 = LWA (tK (m 2) x1.toInt) x1.toInt (14 - y52.toInt).toNat y52.toInt (m53 86 3).toInt) → ((y51).toInt = 0 → LWA (tK (m 2) x1.toInt) x1.toInt 14 0 0 = y52.toInt) → IV BB m53 → fr (wl [(77, 96, none)]) m m53 → ((12 - y52.toInt) : Int).toNat < fuel57 → PV none g mX7_read (sqI T BB (wl [(77, 96, none)]) r m (-2147483648) 2147483647 (fun m' v => v.toInt = LWA (tK (m 2) x1.toInt) x1.toInt 14 0 0)) 27 0 0 56 [.ref 86, .ref 2, .int x1, .int y51, .int y52] [] (mk T m53 n54 r) := by
    intro fuel57
    induction fuel57 with
    | zero => intro y51 y52 m53 n54 b60 b61 b62 b63 b64 b65 b66 b67 b68 b69 I55 K56 z70; omega
    | succ fuel57 ih59 =>
      intro y51 y52 m53 n54 b60 b61 b62 b63 b64 b65 b66 b67 b68 b69 I55 K56 z70
      have z71 : 0 ≤ (m53 86 3).toInt ∧ (m53 86 3).toInt ≤ 160 := I55 86 3
      have z72 : 0 ≤ (m53 86 2).toInt ∧ (m53 86 2).toInt ≤ 160 := I55 86 2
      have kgt := (show tC m53 = (tK (m 2) x1.toInt) by assumption)
      have kg1 := (show (y51).toInt ≠ 0 → LWA (tK (m 2) x1.toInt) x1.toInt 14 0 0 = LWA (tK (m 2) x1.toInt) x1.toInt (14 - y52.toInt).toNat y52.toInt (m53 86 3).toInt by assumption)
      have kg0 := (show (y51).toInt = 0 → LWA (tK (m 2) x1.toInt) x1.toInt 14 0 0 = y52.toInt by assumption)
      have kTB : TBC m53 := TBC_K I kgt
      refine pv_iload (M := mX7_read) dX7_read_56 58 rfl rfl ?_
      refine pv_bipush (M := mX7_read) (v := 12) dX7_read_58 60 rfl (by decide) ?_
      refine pv_icmp_gt (M := mX7_read) (tgt := 122) dX7_read_60 63 rfl (by decide) (fun c77 => ?_) (fun c77 => ?_)
      · have c77 := iv_lt (X := 12) (Y := y52.toInt) c77 (by decide) rfl
        omega
      · have c77 := iv_nlt (X := 12) (Y := y52.toInt) c77 (by decide) rfl
        refine pv_iload_n (M := mX7_read) 3 dX7_read_63 64 rfl rfl rfl ?_
        refine pv_if_eq (M := mX7_read) (tgt := 122) dX7_read_64 67 rfl (by decide) (fun c78 => ?_) (fun c78 => ?_)
        · have c78 := iv_eq (X := y51.toInt) (Y := 0) c78 rfl (by decide)
          refine pv_aload_n (M := mX7_read) 0 dX7_read_122 123 rfl rfl rfl ?_
          refine mv_get (M := mX7_read) (v := .ref lb) dX7_read_123 FX7 1 wd281 (by decide) (tl86 hT) rfl R.2.2.2.1 126 rfl ?_
          refine iv_get (M := mX7_read) (l1 := 0) (l2 := 12) dX7_read_126 FX6 7 wd241 (by decide) R.2.2.2.2.2.2.1 rfl I55 (law_b7 R.2.2.2.2.2) 129 rfl (fun v79 ev79 pv79 qv79 => ?_)
          have wv79 : v79.toInt = (m53 lb 7).toInt := congrArg Int32.toInt ev79
          have k129 : v79.toInt = (m53 lb 7).toInt := congrArg Int32.toInt ev79
          exact pv_iret (M := mX7_read) dX7_read_129 rfl rfl ⟨_, _, _, rfl, rfl, I55, K56, (iv_rng v79).1, (iv_rng v79).2, (show v79.toInt = LWA (tK (m 2) x1.toInt) x1.toInt 14 0 0 from by first | (rw [kg0 (by omega)]; omega) | (exfalso; omega))⟩
        · have c78 := iv_ne (X := y51.toInt) (Y := 0) c78 rfl (by decide)
          have kg1b := kg1 (by omega)
          refine pv_aload_n (M := mX7_read) 0 dX7_read_67 68 rfl rfl rfl ?_
          refine pv_iload (M := mX7_read) dX7_read_68 70 rfl rfl ?_
          refine pv_callv (M := mX7_read) (as := [.int y52]) (st := []) (kc2 := 0) (ks2 := 0) dX7_read_70 wd523 YX7_readClause ⟨wd525, wd1⟩ (mk_get (tl86 hT)) rfl rfl (s_X7_readClause_vx g hT I55 R y52 (by omega) (by omega) (by first | omega | assumption | exact (iv_rng _).2 | exact (iv_rng _).1 | decide) kTB (by omega)) rfl rfl (Nat.le_of_ble_eq_true rfl) (by decide) rfl rfl 73 rfl (fun rv h1 q82 => ?_)
          obtain ⟨m83, n84, v87, rfl, rfl, I85, K86, pv87, qv87, rv87⟩ := q82
          replace rv87 : (m53 86 3).toInt ≤ (m83 86 3).toInt ∧ (m83 86 3).toInt ≤ (m83 86 2).toInt ∧ (m83 86 2).toInt = (m53 86 2).toInt ∧ (RSX (CLA (tC m53) y52.toInt (m53 86 3).toInt) v87.toInt (m83 86 3).toInt (m83 86 4).toInt) ∧ (v87.toInt ≠ 0 → (m83 lb 7).toInt = y52.toInt + 1 ∧ y52.toInt < 12) := rv87
          have K86c := K86
          have K86 := K56.trans (K86.sub wR7_wr)
          show PV _ _ _ _ _ _ _ 73 [.ref 86, .ref 2, .int x1, .int y51, .int y52] [.int v87] _
          have k73 := rv87.2.2.2.1
          have k73b := rv87.2.2.2.2
          rw [kgt] at k73
          have kt73 : tC m83 = (tK (m 2) x1.toInt) := (tC_eq (K86c 86 2 rfl) (fun j => K86c 87 j rfl)).trans kgt
          refine pv_if_ne (M := mX7_read) (tgt := 81) dX7_read_73 76 rfl (by decide) (fun c92 => ?_) (fun c92 => ?_)
          · have c92 := iv_ne (X := v87.toInt) (Y := 0) c92 rfl (by decide)
            have k81 := RSX_ok k73 (by omega)
            have k81b := k73b (by omega)
            have k81c : LWA (tK (m 2) x1.toInt) x1.toInt 14 0 0 = LWC (tK (m 2) x1.toInt) x1.toInt (13 - y52.toInt).toNat (y52.toInt + 1) (m83 86 3).toInt := by rw [kg1b, show (14 - y52.toInt).toNat = (13 - y52.toInt).toNat + 1 by omega, LWA_o k81]
            refine pv_aload_n (M := mX7_read) 0 dX7_read_81 82 rfl rfl rfl ?_
            refine iv_get (M := mX7_read) (l1 := 0) (l2 := 160) dX7_read_82 FX7 3 wd283 (by decide) (tl86 hT) rfl I85 rfl 85 rfl (fun v96 ev96 pv96 qv96 => ?_)
            have wv96 : v96.toInt = (m83 86 3).toInt := congrArg Int32.toInt ev96
            refine pv_aload_n (M := mX7_read) 0 dX7_read_85 86 rfl rfl rfl ?_
            refine iv_get (M := mX7_read) (l1 := 0) (l2 := 160) dX7_read_86 FX7 2 wd282 (by decide) (tl86 hT) rfl I85 rfl 89 rfl (fun v97 ev97 pv97 qv97 => ?_)
            have wv97 : v97.toInt = (m83 86 2).toInt := congrArg Int32.toInt ev97
            refine pv_icmp_ge (M := mX7_read) (tgt := 96) dX7_read_89 92 rfl (by decide) (fun c98 => ?_) (fun c98 => ?_)
            · have c98 := iv_le (X := v97.toInt) (Y := v96.toInt) c98 rfl rfl
              refine pv_iconst (M := mX7_read) (v := 0) dX7_read_96 97 rfl (by decide) ?_
              refine pv_istore_n (M := mX7_read) 3 (lo2 := [.ref 86, .ref 2, .int x1, .int 0, .int y52]) dX7_read_97 98 rfl rfl (by decide) rfl rfl ?_
              refine pv_iload_n (M := mX7_read) 3 dX7_read_98 99 rfl rfl rfl ?_
              refine pv_if_eq (M := mX7_read) (tgt := 116) dX7_read_99 102 rfl (by decide) (fun _ => ?_) (fun q => absurd (by decide) q)
              refine iv_inc (M := mX7_read) (C := 1) dX7_read_116 119 rfl rfl (by decide) rfl rfl (by decide) (by omega) (by omega) (fun v100 ev100 => ?_)
              show PV _ _ _ _ _ _ _ 119 [.ref 86, .ref 2, .int x1, .int 0, .int v100] [] _
              refine pv_goto (M := mX7_read) (tgt := 56) dX7_read_119 (by decide) ?_
              have z101 : (0 : Int32).toInt = 0 := by decide
              have ktb : tC m83 = (tK (m 2) x1.toInt) := by first | exact kt108 | exact kt73
              have kb1 : ((0 : Int32)).toInt ≠ 0 → LWA (tK (m 2) x1.toInt) x1.toInt 14 0 0 = LWA (tK (m 2) x1.toInt) x1.toInt (14 - v100.toInt).toNat v100.toInt (m83 86 3).toInt := fun q => by first | (rw [k81c, LWC_y (by omega) (by omega), show (m83 86 3).toInt + 1 = (m83 86 3).toInt by omega, show (13 - y52.toInt).toNat = (14 - v100.toInt).toNat by omega, show y52.toInt + 1 = v100.toInt by omega]) | (exfalso; omega)
              have kb0 : ((0 : Int32)).toInt = 0 → LWA (tK (m 2) x1.toInt) x1.toInt 14 0 0 = v100.toInt := fun q => by first | (exfalso; omega) | (rw [k81c, LWC_e (by omega)]; omega)
              exact ih59 0 v100 m83 n84 (by first | omega | assumption | exact (iv_rng _).2 | exact (iv_rng _).1 | decide) (by first | omega | assumption | exact (iv_rng _).2 | exact (iv_rng _).1 | decide) (by first | omega | assumption | exact (iv_rng _).2 | exact (iv_rng _).1 | decide) (by first | omega | assumption | exact (iv_rng _).2 | exact (iv_rng _).1 | decide) (by first | omega | assumption | (show (m83 86 3).toInt ≤ (m83 86 2).toInt; omega) | decide) (by first | omega | assumption | (show (m83 86 2).toInt = x1.toInt; omega) | decide) (by first | omega | assumption | (show (m83 lb 7).toInt = v100.toInt; omega) | decide) ktb kb1 kb0 I85 K86 (by omega)
            · have c98 := iv_nle (X := v97.toInt) (Y := v96.toInt) c98 rfl rfl
              refine pv_iconst (M := mX7_read) (v := 1) dX7_read_92 93 rfl (by decide) ?_
              refine pv_goto (M := mX7_read) (tgt := 97) dX7_read_93 (by decide) ?_
              refine pv_istore_n (M := mX7_read) 3 (lo2 := [.ref 86, .ref 2, .int x1, .int 1, .int y52]) dX7_read_97 98 rfl rfl (by decide) rfl rfl ?_
              refine pv_iload_n (M := mX7_read) 3 dX7_read_98 99 rfl rfl rfl ?_
              refine pv_if_eq (M := mX7_read) (tgt := 116) dX7_read_99 102 rfl (by decide) (fun q => absurd q (by decide)) (fun _ => ?_)
              refine pv_aload_n (M := mX7_read) 0 dX7_read_102 103 rfl rfl rfl ?_
              refine pv_bipush (M := mX7_read) (v := 59) dX7_read_103 105 rfl (by decide) ?_
              have z106 : (59 : Int32).toInt = 59 := by decide
              refine pv_callv (M := mX7_read) (as := [.int 59]) (st := []) (kc2 := 0) (ks2 := 0) dX7_read_105 wd555 YX7_pass ⟨wd557, wd8⟩ (mk_get (tl86 hT)) rfl rfl (s_X7_pass_vx g hT I85 R 59 (by decide) (by decide) (by first | omega | assumption | exact (iv_rng _).2 | exact (iv_rng _).1 | decide)) rfl rfl (Nat.le_of_ble_eq_true rfl) (by decide) rfl rfl 108 rfl (fun rv h1 q107 => ?_)
              obtain ⟨m108, n109, v112, rfl, rfl, I110, K111, pv112, qv112, rv112⟩ := q107
              replace rv112 : (m83 86 3).toInt ≤ (m108 86 3).toInt ∧ (m108 86 3).toInt ≤ (m108 86 2).toInt ∧ (m108 86 2).toInt = (m83 86 2).toInt ∧ ((v112.toInt = 1 ∧ tC m83 (m83 86 3).toInt = (59 : Int) ∧ (m108 86 3).toInt = (m83 86 3).toInt + 1) ∨ (v112.toInt = 0 ∧ tC m83 (m83 86 3).toInt ≠ (59 : Int) ∧ (m108 86 4).toInt = -1000 - (m83 86 3).toInt ∧ (m108 86 3).toInt = (m83 86 3).toInt)) ∧ (m108 lb 7).toInt = (m83 lb 7).toInt := by have q_ := rv112; (try rw [z106] at q_); exact q_
              have K111c := K111
              have K111 := K86.trans (K111.sub wR7_wr)
              show PV _ _ _ _ _ _ _ 108 [.ref 86, .ref 2, .int x1, .int 1, .int y52] [.int v112] _
              have k108 := rv112.2.2.2.1
              rw [kt73] at k108
              have kt108 : tC m108 = (tK (m 2) x1.toInt) := (tC_eq (K111c 86 2 rfl) (fun j => K111c 87 j rfl)).trans kt73
              refine pv_if_ne (M := mX7_read) (tgt := 116) dX7_read_108 111 rfl (by decide) (fun c116 => ?_) (fun c116 => ?_)
              · have c116 := iv_ne (X := v112.toInt) (Y := 0) c116 rfl (by decide)
                refine iv_inc (M := mX7_read) (C := 1) dX7_read_116 119 rfl rfl (by decide) rfl rfl (by decide) (by omega) (by omega) (fun v117 ev117 => ?_)
                show PV _ _ _ _ _ _ _ 119 [.ref 86, .ref 2, .int x1, .int 1, .int v117] [] _
                refine pv_goto (M := mX7_read) (tgt := 56) dX7_read_119 (by decide) ?_
                have z118 : (1 : Int32).toInt = 1 := by decide
                have ktb : tC m108 = (tK (m 2) x1.toInt) := by first | exact kt108 | exact kt73
                have kb1 : ((1 : Int32)).toInt ≠ 0 → LWA (tK (m 2) x1.toInt) x1.toInt 14 0 0 = LWA (tK (m 2) x1.toInt) x1.toInt (14 - v117.toInt).toNat v117.toInt (m108 86 3).toInt := fun q => by first | (rw [k81c, LWC_y (by omega) (by omega), show (m83 86 3).toInt + 1 = (m108 86 3).toInt by omega, show (13 - y52.toInt).toNat = (14 - v117.toInt).toNat by omega, show y52.toInt + 1 = v117.toInt by omega]) | (exfalso; omega)
                have kb0 : ((1 : Int32)).toInt = 0 → LWA (tK (m 2) x1.toInt) x1.toInt 14 0 0 = v117.toInt := fun q => by first | (exfalso; omega) | (rw [k81c, LWC_e (by omega)]; omega)
                exact ih59 1 v117 m108 n109 (by first | omega | assumption | exact (iv_rng _).2 | exact (iv_rng _).1 | decide) (by first | omega | assumption | exact (iv_rng _).2 | exact (iv_rng _).1 | decide) (by first | omega | assumption | exact (iv_rng _).2 | exact (iv_rng _).1 | decide) (by first | omega | assumption | exact (iv_rng _).2 | exact (iv_rng _).1 | decide) (by first | omega | assumption | (show (m108 86 3).toInt ≤ (m108 86 2).toInt; omega) | decide) (by first | omega | assumption | (show (m108 86 2).toInt = x1.toInt; omega) | decide) (by first | omega | assumption | (show (m108 lb 7).toInt = v117.toInt; omega) | decide) ktb kb1 kb0 I110 K111 (by omega)
              · have c116 := iv_eq (X := v112.toInt) (Y := 0) c116 rfl (by decide)
                refine pv_aload_n (M := mX7_read) 0 dX7_read_111 112 rfl rfl rfl ?_
                refine iv_get (M := mX7_read) (l1 := (-2147483648)) (l2 := 2147483647) dX7_read_112 FX7 4 wd284 (by decide) (tl86 hT) rfl I110 rfl 115 rfl (fun v122 ev122 pv122 qv122 => ?_)
                have wv122 : v122.toInt = (m108 86 4).toInt := congrArg Int32.toInt ev122
                have k115 : v122.toInt = (m108 86 4).toInt := congrArg Int32.toInt ev122
                exact pv_iret (M := mX7_read) dX7_read_115 rfl rfl ⟨_, _, _, rfl, rfl, I110, K111, (iv_rng v122).1, (iv_rng v122).2, (show v122.toInt = LWA (tK (m 2) x1.toInt) x1.toInt 14 0 0 from by rw [k81c, LWC_n (f := (m108 86 4).toInt) (by omega) (by omega) (by omega)]; exact k115)⟩
          · have c92 := iv_eq (X := v87.toInt) (Y := 0) c92 rfl (by decide)
            refine pv_aload_n (M := mX7_read) 0 dX7_read_76 77 rfl rfl rfl ?_
            refine iv_get (M := mX7_read) (l1 := (-2147483648)) (l2 := 2147483647) dX7_read_77 FX7 4 wd284 (by decide) (tl86 hT) rfl I85 rfl 80 rfl (fun v124 ev124 pv124 qv124 => ?_)
            have wv124 : v124.toInt = (m83 86 4).toInt := congrArg Int32.toInt ev124
            have k80 : v124.toInt = (m83 86 4).toInt := congrArg Int32.toInt ev124
            exact pv_iret (M := mX7_read) dX7_read_80 rfl rfl ⟨_, _, _, rfl, rfl, I85, K86, (iv_rng v124).1, (iv_rng v124).2, (show v124.toInt = LWA (tK (m 2) x1.toInt) x1.toInt 14 0 0 from by rw [kg1b, show (14 - y52.toInt).toNat = (13 - y52.toInt).toNat + 1 by omega, LWA_f (RSX_fl k73 (by omega))]; exact k80)⟩
  have z126 : (1 : Int32).toInt = 1 := by decide
  have z127 : (0 : Int32).toInt = 0 := by decide
  exact lp58 (((12 - 0) : Int).toNat + 1) 1 0 m41 n26 (by first | omega | assumption | exact (iv_rng _).2 | exact (iv_rng _).1 | decide) (by first | omega | assumption | exact (iv_rng _).2 | exact (iv_rng _).1 | decide) (by first | omega | assumption | exact (iv_rng _).2 | exact (iv_rng _).1 | decide) (by first | omega | assumption | exact (iv_rng _).2 | exact (iv_rng _).1 | decide) (by first | omega | assumption | (show (m41 86 3).toInt ≤ (m41 86 2).toInt; omega) | decide) (by first | omega | assumption | (show (m41 86 2).toInt = x1.toInt; omega) | decide) (by first | omega | assumption | (show (m41 lb 7).toInt = 0; omega) | decide) kt0 (fun _ => by rw [k43, Int32.toInt_zero]; rfl) (fun q => absurd q (by decide)) I42 K43 (by omega)

set_option maxHeartbeats 2000000 in
set_option maxRecDepth 20000 in
theorem s_X11_law_vy (g : pv_G) {T : List mv_T} {m : Nat → Nat → Int32} {n : Nat → Nat → Int64} {r : Nat → Value} {la lb : Nat} (hT : TX T) (I : IV BB m) (R : RX T r la lb) (hK : TK T) (x0 : Int32) : PM g mX11_law yX11_law (sqIr T BB wV rl r m (-2147483648) 2147483647 (fun m' r' v => RXE T r' ∧ LWK x0.toInt (m 1 1).toInt (m' 1 1).toInt ∧ LWV x0.toInt (m 1 1).toInt (tK (m 2) x0.toInt) v.toInt)) 28 0 0 [.ref 0, .int x0] (mk T m n r) := by
  have Kp : fr wV m m := fr.rf
  have R0 := R
  have zR := R.2.2.2.2.1.1
  have zR2 := R.2.2.2.2.2.1
  have z31 : 0 ≤ (m 1 1).toInt ∧ (m 1 1).toInt ≤ 200 := I 1 1
  refine PM.of 1 (lo := [.ref 0, .int x0, pv_U]) rfl (by decide) rfl rfl (Nat.le_of_ble_eq_true rfl) ?_
  refine pv_iload_n (M := mX11_law) 1 dX11_law_0 1 rfl rfl rfl ?_
  refine pv_iconst (M := mX11_law) (v := 1) dX11_law_1 2 rfl (by decide) ?_
  refine pv_icmp_lt (M := mX11_law) (tgt := 23) dX11_law_2 5 rfl (by decide) (fun c1 => ?_) (fun c1 => ?_)
  · have c1 := iv_lt (X := x0.toInt) (Y := 1) c1 rfl (by decide)
    refine pv_iconst (M := mX11_law) (v := (-1)) dX11_law_23 24 rfl (by decide) ?_
    have z2 : ((-1) : Int32).toInt = (-1) := by decide
    exact pv_iret (M := mX11_law) dX11_law_24 rfl rfl ⟨_, _, _, _, rfl, rfl, I, Kp, rl.rf, by decide, by decide, ⟨by first | exact ⟨_, _, R⟩ | exact RX_swap R kx er, (by first | exact Or.inr ⟨by omega, by omega⟩ | exact Or.inl ⟨by omega, by omega, by omega, by first | omega | decide⟩), (by first | exact Or.inr ⟨by omega, by decide⟩ | exact Or.inl ⟨by omega, by omega, by omega, k40⟩)⟩⟩
  · have c1 := iv_nlt (X := x0.toInt) (Y := 1) c1 rfl (by decide)
    refine pv_iload_n (M := mX11_law) 1 dX11_law_5 6 rfl rfl rfl ?_
    refine pv_sipush (M := mX11_law) (v := 160) dX11_law_6 9 rfl (by decide) ?_
    refine pv_icmp_gt (M := mX11_law) (tgt := 23) dX11_law_9 12 rfl (by decide) (fun c3 => ?_) (fun c3 => ?_)
    · have c3 := iv_lt (X := 160) (Y := x0.toInt) c3 (by decide) rfl
      refine pv_iconst (M := mX11_law) (v := (-1)) dX11_law_23 24 rfl (by decide) ?_
      have z4 : ((-1) : Int32).toInt = (-1) := by decide
      exact pv_iret (M := mX11_law) dX11_law_24 rfl rfl ⟨_, _, _, _, rfl, rfl, I, Kp, rl.rf, by decide, by decide, ⟨by first | exact ⟨_, _, R⟩ | exact RX_swap R kx er, (by first | exact Or.inr ⟨by omega, by omega⟩ | exact Or.inl ⟨by omega, by omega, by omega, by first | omega | decide⟩), (by first | exact Or.inr ⟨by omega, by decide⟩ | exact Or.inl ⟨by omega, by omega, by omega, k40⟩)⟩⟩
    · have c3 := iv_nlt (X := 160) (Y := x0.toInt) c3 (by decide) rfl
      refine pv_iload_n (M := mX11_law) 1 dX11_law_12 13 rfl rfl rfl ?_
      refine pv_aload_n (M := mX11_law) 0 dX11_law_13 14 rfl rfl rfl ?_
      refine mv_get (M := mX11_law) (v := .ref 1) dX11_law_14 FX11 0 wd407 (by decide) (tl0 hT) rfl rfl 17 rfl ?_
      refine iv_get (M := mX11_law) (l1 := 0) (l2 := 200) dX11_law_17 FX10 1 wd164 (by decide) (tl1 hT) rfl I rfl 20 rfl (fun v5 ev5 pv5 qv5 => ?_)
      have wv5 : v5.toInt = (m 1 1).toInt := congrArg Int32.toInt ev5
      refine pv_icmp_le (M := mX11_law) (tgt := 25) dX11_law_20 23 rfl (by decide) (fun c6 => ?_) (fun c6 => ?_)
      · have c6 := iv_le (X := x0.toInt) (Y := v5.toInt) c6 rfl rfl
        refine pv_aload_n (M := mX11_law) 0 dX11_law_25 26 rfl rfl rfl ?_
        refine mv_get (M := mX11_law) (v := .ref 86) dX11_law_26 FX11 5 wd412 (by decide) (tl0 hT) rfl rfl 29 rfl ?_
        refine pv_aload_n (M := mX11_law) 0 dX11_law_29 30 rfl rfl rfl ?_
        refine mv_get (M := mX11_law) (v := .ref 1) dX11_law_30 FX11 0 wd407 (by decide) (tl0 hT) rfl rfl 33 rfl ?_
        refine mv_get (M := mX11_law) (v := .ref 2) dX11_law_33 FX10 0 wd162 (by decide) (tl1 hT) rfl rfl 36 rfl ?_
        refine pv_iload_n (M := mX11_law) 1 dX11_law_36 37 rfl rfl rfl ?_
        refine pv_callv (M := mX11_law) (as := [.ref 2, .int x0]) (st := []) (kc2 := 0) (ks2 := 0) dX11_law_37 wd508 YX7_read ⟨wd509, wd510⟩ (mk_get (tl86 hT)) rfl rfl (s_X7_read_vx g hT I R x0 (by omega) (by omega) (by first | omega | assumption | exact (iv_rng _).2 | exact (iv_rng _).1 | decide) (by first | omega | assumption | exact (iv_rng _).2 | exact (iv_rng _).1 | decide)) rfl rfl (Nat.le_of_ble_eq_true rfl) (by decide) rfl rfl 40 rfl (fun rv h1 q7 => ?_)
        obtain ⟨m8, n9, v12, rfl, rfl, I10, K11, pv12, qv12, rv12⟩ := q7
        replace rv12 : v12.toInt = LWA (tK (m 2) x0.toInt) x0.toInt 14 0 0 := rv12
        have K11c := K11
        have w13 : (m8 1 1).toInt = (m 1 1).toInt := congrArg Int32.toInt (K11 1 1 (wr_out (by decide)))
        have K11 := Kp.trans (K11.sub (wr_wV (by omega) (by omega)))
        show PV _ _ _ _ _ _ _ 40 [.ref 0, .int x0, pv_U] [.int v12] _
        have k40 := rv12
        refine pv_istore_n (M := mX11_law) 2 (lo2 := [.ref 0, .int x0, .int v12]) dX11_law_40 41 rfl rfl (by decide) rfl rfl ?_
        refine pv_aload_n (M := mX11_law) 0 dX11_law_41 42 rfl rfl rfl ?_
        refine mv_get (M := mX11_law) (v := .ref 1) dX11_law_42 FX11 0 wd407 (by decide) (tl0 hT) rfl rfl 45 rfl ?_
        refine pv_iconst (M := mX11_law) (v := 0) dX11_law_45 46 rfl (by decide) ?_
        refine iv_put (M := mX11_law) (l1 := 0) (l2 := 200) dX11_law_46 FX10 1 wd164 (by decide) rfl (tl1 hT) rfl rfl rfl I10 rfl (by decide) (by decide) 49 rfl (fun m15 e18 I16 => ?_)
        have K17 := K11.set e18 rfl
        have w19 : (m15 1 1).toInt = 0 := by rw [e18, up2_eq] <;> rfl
        refine pv_iload_n (M := mX11_law) 2 dX11_law_49 50 rfl rfl rfl ?_
        refine pv_if_lt (M := mX11_law) (tgt := 68) dX11_law_50 53 rfl (by decide) (fun c20 => ?_) (fun c20 => ?_)
        · have c20 := iv_lt (X := v12.toInt) (Y := 0) c20 rfl (by decide)
          refine pv_iload_n (M := mX11_law) 2 dX11_law_68 69 rfl rfl rfl ?_
          exact pv_iret (M := mX11_law) dX11_law_69 rfl rfl ⟨_, _, _, _, rfl, rfl, I16, K17, rl.rf, (iv_rng v12).1, (iv_rng v12).2, ⟨by first | exact ⟨_, _, R⟩ | exact RX_swap R kx er, (by first | exact Or.inr ⟨by omega, by omega⟩ | exact Or.inl ⟨by omega, by omega, by omega, by first | omega | decide⟩), (by first | exact Or.inr ⟨by omega, by decide⟩ | exact Or.inl ⟨by omega, by omega, by omega, k40⟩)⟩⟩
        · have c20 := iv_nlt (X := v12.toInt) (Y := 0) c20 rfl (by decide)
          refine pv_aload_n (M := mX11_law) 0 dX11_law_53 54 rfl rfl rfl ?_
          refine pv_aload_n (M := mX11_law) 0 dX11_law_54 55 rfl rfl rfl ?_
          refine mv_get (M := mX11_law) (v := .ref 86) dX11_law_55 FX11 5 wd412 (by decide) (tl0 hT) rfl rfl 58 rfl ?_
          refine pv_aload_n (M := mX11_law) 0 dX11_law_58 59 rfl rfl rfl ?_
          refine mv_get (M := mX11_law) (v := .ref la) dX11_law_59 FX11 4 wd411 (by decide) (tl0 hT) rfl R.2.2.1 62 rfl ?_
          refine pv_callv (M := mX11_law) (as := [.ref la]) (st := [.ref 0]) (kc2 := 0) (ks2 := 0) dX11_law_62 wd687 YX7_exchange ⟨wd688, wd689⟩ (mk_get (tl86 hT)) rfl rfl (s_X7_exchange g hT I16 R hK la R.2.2.2.2.1) rfl rfl (Nat.le_of_ble_eq_true rfl) (by decide) rfl rfl 65 rfl (fun rv h1 q21 => ?_)
          obtain ⟨m22, n23, r26, rfl, rfl, I24, K25, qr26, rm22⟩ := q21
          replace rm22 : r26 = up1 r 3 (.ref la) := rm22
          have or26 := rl.trans rl.rf qr26
          have K25c := K25
          have w27 : (m22 1 1).toInt = (m15 1 1).toInt := congrArg Int32.toInt (K25 1 1 rfl)
          have K25 := K17.trans (K25.sub (wl_wV (by decide)))
          show PV _ _ _ _ _ _ _ 65 [.ref 0, .int x0, .int v12] [.ref lb, .ref 0] _
          have kx := rm22
          refine mv_putr (M := mX11_law) (j := 1) (v := .ref lb) dX11_law_65 FX11 4 wd411 (by decide) rfl (tl0 hT) rfl (hu_of (by decide)) (NM1k hK) (fun _ => rfl) (fun _ => rfl) 68 rfl (fun r29 er29 => ?_)
          have or29 := rl.set or26 er29 (by decide)
          refine pv_iload_n (M := mX11_law) 2 dX11_law_68 69 rfl rfl rfl ?_
          exact pv_iret (M := mX11_law) dX11_law_69 rfl rfl ⟨_, _, _, _, rfl, rfl, I24, K25, or29, (iv_rng v12).1, (iv_rng v12).2, ⟨by first | exact ⟨_, _, R⟩ | exact RX_swap R kx er29, (by first | exact Or.inr ⟨by omega, by omega⟩ | exact Or.inl ⟨by omega, by omega, by omega, by first | omega | decide⟩), (by first | exact Or.inr ⟨by omega, by decide⟩ | exact Or.inl ⟨by omega, by omega, by omega, k40⟩)⟩⟩
      · have c6 := iv_nle (X := x0.toInt) (Y := v5.toInt) c6 rfl rfl
        refine pv_iconst (M := mX11_law) (v := (-1)) dX11_law_23 24 rfl (by decide) ?_
        have z30 : ((-1) : Int32).toInt = (-1) := by decide
        exact pv_iret (M := mX11_law) dX11_law_24 rfl rfl ⟨_, _, _, _, rfl, rfl, I, Kp, rl.rf, by decide, by decide, ⟨by first | exact ⟨_, _, R⟩ | exact RX_swap R kx er, (by first | exact Or.inr ⟨by omega, by omega⟩ | exact Or.inl ⟨by omega, by omega, by omega, by first | omega | decide⟩), (by first | exact Or.inr ⟨by omega, by decide⟩ | exact Or.inl ⟨by omega, by omega, by omega, k40⟩)⟩⟩

set_option maxHeartbeats 2000000 in
set_option maxRecDepth 20000 in
theorem s_X12_readsClause_vy (g : pv_G) {T : List mv_T} {m : Nat → Nat → Int32} {n : Nat → Nat → Int64} {r : Nat → Value} (hT : TX T) (I : IV BB m) (hp0 : (m 123 16).toInt ≤ (m 123 12).toInt) (hp1 : (m 123 12).toInt ≤ (m 123 13).toInt) (hp2 : SX m) : PM g mX12_readsClause yX12_readsClause (sqI T BB (wl [(123, 123, some 12), (123, 123, some 14), (123, 123, some 15), (123, 123, some 16), (123, 123, some 17), (123, 123, some 18), (123, 123, some 19), (130, 130, none), (131, 131, none), (132, 132, none), (133, 133, none), (134, 134, none), (135, 135, none)]) r m 0 1 (fun m' v => (v.toInt = 0 ∧ FLT (CLA (tR m) (m 123 18).toInt (m 123 12).toInt) (m' 123 14).toInt) ∨ (v.toInt = 1 ∧ (SX m' ∧ (m' 123 16).toInt ≤ (m' 123 12).toInt ∧ (m 123 12).toInt + 1 ≤ (m' 123 12).toInt ∧ (m' 123 12).toInt ≤ (m' 123 13).toInt ∧ (m' 123 13).toInt = (m 123 13).toInt) ∧ CLA (tR m) (m 123 18).toInt (m 123 12).toInt = (0, (m' 123 12).toInt) ∧ (m' 123 18).toInt = (m 123 18).toInt + 1))) 8 0 0 [.ref 123] (mk T m n r) := by
  have Kp : fr (wl [(123, 123, some 12), (123, 123, some 14), (123, 123, some 15), (123, 123, some 16), (123, 123, some 17), (123, 123, some 18), (123, 123, some 19), (130, 130, none), (131, 131, none), (132, 132, none), (133, 133, none), (134, 134, none), (135, 135, none)]) m m := fr.rf
  have z347 : 0 ≤ (m 123 12).toInt ∧ (m 123 12).toInt ≤ 160 := I 123 12
  have z348 : 0 ≤ (m 123 13).toInt ∧ (m 123 13).toInt ≤ 160 := I 123 13
  have z349 : 0 ≤ (m 123 16).toInt ∧ (m 123 16).toInt ≤ 180 := I 123 16
  have z350 : 0 ≤ (m 123 17).toInt ∧ (m 123 17).toInt ≤ 180 := I 123 17
  have z351 : 0 ≤ (m 123 18).toInt ∧ (m 123 18).toInt ≤ 12 := I 123 18
  refine PM.of 1 (lo := [.ref 123, pv_U]) rfl (by decide) rfl rfl (Nat.le_of_ble_eq_true rfl) ?_
  refine pv_aload_n (M := mX12_readsClause) 0 dX12_readsClause_0 1 rfl rfl rfl ?_
  refine pv_callv (M := mX12_readsClause) (as := []) (st := []) (kc2 := 0) (ks2 := 0) dX12_readsClause_1 wd1417 YX12_here ⟨wd1419, wd60⟩ (mk_get (tl123 hT)) rfl rfl (s_X12_here g hT I) rfl rfl (Nat.le_of_ble_eq_true rfl) (by decide) rfl rfl 4 rfl (fun rv h1 q1 => ?_)
  obtain ⟨v2, rfl, rfl, pv2, qv2, rv2⟩ := q1
  replace rv2 : v2.toInt = hereV m ∧ (v2.toInt = -1 ∨ (m 123 12).toInt < (m 123 13).toInt) := rv2
  show PV _ _ _ _ _ _ _ 4 [.ref 123, pv_U] [.int v2] _
  have k4 : v2.toInt = tR m (m 123 12).toInt := rv2.1
  refine pv_istore_n (M := mX12_readsClause) 1 (lo2 := [.ref 123, .int v2]) dX12_readsClause_4 5 rfl rfl (by decide) rfl rfl ?_
  refine pv_iload_n (M := mX12_readsClause) 1 dX12_readsClause_5 6 rfl rfl rfl ?_
  refine pv_bipush (M := mX12_readsClause) (v := 110) dX12_readsClause_6 8 rfl (by decide) ?_
  refine pv_icmp_eq (M := mX12_readsClause) (tgt := 27) dX12_readsClause_8 11 rfl (by decide) (fun c4 => ?_) (fun c4 => ?_)
  · have c4 := iv_eq (X := v2.toInt) (Y := 110) c4 rfl (by decide)
    refine pv_aload_n (M := mX12_readsClause) 0 dX12_readsClause_27 28 rfl rfl rfl ?_
    refine iv_get (M := mX12_readsClause) (l1 := 0) (l2 := 12) dX12_readsClause_28 FX12 18 wd1191 (by decide) (tl123 hT) rfl I rfl 31 rfl (fun v5 ev5 pv5 qv5 => ?_)
    have wv5 : v5.toInt = (m 123 18).toInt := congrArg Int32.toInt ev5
    refine pv_bipush (M := mX12_readsClause) (v := 12) dX12_readsClause_31 33 rfl (by decide) ?_
    refine pv_icmp_ne (M := mX12_readsClause) (tgt := 46) dX12_readsClause_33 36 rfl (by decide) (fun c6 => ?_) (fun c6 => ?_)
    · have c6 := iv_ne (X := v5.toInt) (Y := 12) c6 rfl (by decide)
      refine pv_aload_n (M := mX12_readsClause) 0 dX12_readsClause_46 47 rfl rfl rfl ?_
      refine mv_get (M := mX12_readsClause) (v := .ref 132) dX12_readsClause_47 FX12 23 wd1196 (by decide) (tl123 hT) rfl rfl 50 rfl ?_
      refine pv_aload_n (M := mX12_readsClause) 0 dX12_readsClause_50 51 rfl rfl rfl ?_
      refine iv_get (M := mX12_readsClause) (l1 := 0) (l2 := 12) dX12_readsClause_51 FX12 18 wd1191 (by decide) (tl123 hT) rfl I rfl 54 rfl (fun v7 ev7 pv7 qv7 => ?_)
      have wv7 : v7.toInt = (m 123 18).toInt := congrArg Int32.toInt ev7
      refine pv_iload_n (M := mX12_readsClause) 1 dX12_readsClause_54 55 rfl rfl rfl ?_
      refine iv_iast (M := mX12_readsClause) (X := v7.toInt) (l1 := (-2147483648)) (l2 := 2147483647) dX12_readsClause_55 (tl132 hT) rfl (by omega) (by omega) I (fun _ => rfl) (iv_rng v2).1 (iv_rng v2).2 56 rfl (fun m8 e11 I9 => ?_)
      have K10 := Kp.set e11 rfl
      have w12 : (m8 123 12).toInt = (m 123 12).toInt := by rw [e11, up2_ne (by omega)]
      have w13 : (m8 123 13).toInt = (m 123 13).toInt := by rw [e11, up2_ne (by omega)]
      have w14 : (m8 123 16).toInt = (m 123 16).toInt := by rw [e11, up2_ne (by omega)]
      have w15 : (m8 123 17).toInt = (m 123 17).toInt := by rw [e11, up2_ne (by omega)]
      have w16 : (m8 123 18).toInt = (m 123 18).toInt := by rw [e11, up2_ne (by omega)]
      have w17 : (m8 123 14).toInt = (m 123 14).toInt := by rw [e11, up2_ne (by omega)]
      have w18 : (m8 123 15).toInt = (m 123 15).toInt := by rw [e11, up2_ne (by omega)]
      have e1 := e11
      refine pv_aload_n (M := mX12_readsClause) 0 dX12_readsClause_56 57 rfl rfl rfl ?_
      refine pv_aload_n (M := mX12_readsClause) 0 dX12_readsClause_57 58 rfl rfl rfl ?_
      refine iv_get (M := mX12_readsClause) (l1 := 0) (l2 := 160) dX12_readsClause_58 FX12 12 wd1185 (by decide) (tl123 hT) rfl I9 rfl 61 rfl (fun v20 ev20 pv20 qv20 => ?_)
      have wv20 : v20.toInt = (m8 123 12).toInt := congrArg Int32.toInt ev20
      refine pv_iconst (M := mX12_readsClause) (v := 1) dX12_readsClause_61 62 rfl (by decide) ?_
      refine iv_iadd (M := mX12_readsClause) (X := v20.toInt) (Y := 1) dX12_readsClause_62 63 rfl rfl (by decide) (by omega) (by omega) (fun v21 ev21 => ?_)
      refine iv_put (M := mX12_readsClause) (l1 := 0) (l2 := 160) dX12_readsClause_63 FX12 12 wd1185 (by decide) rfl (tl123 hT) rfl rfl rfl I9 rfl (by omega) (by omega) 66 rfl (fun m22 e25 I23 => ?_)
      have K24 := K10.set e25 rfl
      have w26 : (m22 123 12).toInt = v21.toInt := by rw [e25, up2_eq]
      have w27 : (m22 123 13).toInt = (m8 123 13).toInt := by rw [e25, up2_ne (by omega)]
      have w28 : (m22 123 16).toInt = (m8 123 16).toInt := by rw [e25, up2_ne (by omega)]
      have w29 : (m22 123 17).toInt = (m8 123 17).toInt := by rw [e25, up2_ne (by omega)]
      have w30 : (m22 123 18).toInt = (m8 123 18).toInt := by rw [e25, up2_ne (by omega)]
      have w31 : (m22 123 14).toInt = (m8 123 14).toInt := by rw [e25, up2_ne (by omega)]
      have w32 : (m22 123 15).toInt = (m8 123 15).toInt := by rw [e25, up2_ne (by omega)]
      have e2 := e25
      refine pv_aload_n (M := mX12_readsClause) 0 dX12_readsClause_66 67 rfl rfl rfl ?_
      refine mv_get (M := mX12_readsClause) (v := .ref 133) dX12_readsClause_67 FX12 24 wd1197 (by decide) (tl123 hT) rfl rfl 70 rfl ?_
      refine pv_aload_n (M := mX12_readsClause) 0 dX12_readsClause_70 71 rfl rfl rfl ?_
      refine iv_get (M := mX12_readsClause) (l1 := 0) (l2 := 12) dX12_readsClause_71 FX12 18 wd1191 (by decide) (tl123 hT) rfl I23 rfl 74 rfl (fun v34 ev34 pv34 qv34 => ?_)
      have wv34 : v34.toInt = (m22 123 18).toInt := congrArg Int32.toInt ev34
      refine pv_aload_n (M := mX12_readsClause) 0 dX12_readsClause_74 75 rfl rfl rfl ?_
      refine iv_get (M := mX12_readsClause) (l1 := 0) (l2 := 180) dX12_readsClause_75 FX12 16 wd1189 (by decide) (tl123 hT) rfl I23 rfl 78 rfl (fun v35 ev35 pv35 qv35 => ?_)
      have wv35 : v35.toInt = (m22 123 16).toInt := congrArg Int32.toInt ev35
      refine iv_iast (M := mX12_readsClause) (X := v34.toInt) (l1 := 0) (l2 := 180) dX12_readsClause_78 (tl133 hT) rfl (by omega) (by omega) I23 (fun _ => rfl) (by omega) (by omega) 79 rfl (fun m36 e39 I37 => ?_)
      have K38 := K24.set e39 rfl
      have w40 : (m36 123 12).toInt = (m22 123 12).toInt := by rw [e39, up2_ne (by omega)]
      have w41 : (m36 123 13).toInt = (m22 123 13).toInt := by rw [e39, up2_ne (by omega)]
      have w42 : (m36 123 16).toInt = (m22 123 16).toInt := by rw [e39, up2_ne (by omega)]
      have w43 : (m36 123 17).toInt = (m22 123 17).toInt := by rw [e39, up2_ne (by omega)]
      have w44 : (m36 123 18).toInt = (m22 123 18).toInt := by rw [e39, up2_ne (by omega)]
      have w45 : (m36 123 14).toInt = (m22 123 14).toInt := by rw [e39, up2_ne (by omega)]
      have w46 : (m36 123 15).toInt = (m22 123 15).toInt := by rw [e39, up2_ne (by omega)]
      have e3 := e39
      refine pv_aload_n (M := mX12_readsClause) 0 dX12_readsClause_79 80 rfl rfl rfl ?_
      refine pv_iconst (M := mX12_readsClause) (v := 0) dX12_readsClause_80 81 rfl (by decide) ?_
      refine iv_put (M := mX12_readsClause) (l1 := (-2147483648)) (l2 := 2147483647) dX12_readsClause_81 FX12 15 wd1188 (by decide) rfl (tl123 hT) rfl rfl rfl I37 rfl (by decide) (by decide) 84 rfl (fun m48 e51 I49 => ?_)
      have K50 := K38.set e51 rfl
      have w52 : (m48 123 12).toInt = (m36 123 12).toInt := by rw [e51, up2_ne (by omega)]
      have w53 : (m48 123 13).toInt = (m36 123 13).toInt := by rw [e51, up2_ne (by omega)]
      have w54 : (m48 123 16).toInt = (m36 123 16).toInt := by rw [e51, up2_ne (by omega)]
      have w55 : (m48 123 17).toInt = (m36 123 17).toInt := by rw [e51, up2_ne (by omega)]
      have w56 : (m48 123 18).toInt = (m36 123 18).toInt := by rw [e51, up2_ne (by omega)]
      have w57 : (m48 123 14).toInt = (m36 123 14).toInt := by rw [e51, up2_ne (by omega)]
      have w58 : (m48 123 15).toInt = 0 := by rw [e51, up2_eq] <;> rfl
      have e4 := e51
      refine pv_aload_n (M := mX12_readsClause) 0 dX12_readsClause_84 85 rfl rfl rfl ?_
      refine pv_iconst (M := mX12_readsClause) (v := 0) dX12_readsClause_85 86 rfl (by decide) ?_
      refine iv_put (M := mX12_readsClause) (l1 := 0) (l2 := 180) dX12_readsClause_86 FX12 17 wd1190 (by decide) rfl (tl123 hT) rfl rfl rfl I49 rfl (by decide) (by decide) 89 rfl (fun m60 e63 I61 => ?_)
      have K62 := K50.set e63 rfl
      have w64 : (m60 123 12).toInt = (m48 123 12).toInt := by rw [e63, up2_ne (by omega)]
      have w65 : (m60 123 13).toInt = (m48 123 13).toInt := by rw [e63, up2_ne (by omega)]
      have w66 : (m60 123 16).toInt = (m48 123 16).toInt := by rw [e63, up2_ne (by omega)]
      have w67 : (m60 123 17).toInt = 0 := by rw [e63, up2_eq] <;> rfl
      have w68 : (m60 123 18).toInt = (m48 123 18).toInt := by rw [e63, up2_ne (by omega)]
      have w69 : (m60 123 14).toInt = (m48 123 14).toInt := by rw [e63, up2_ne (by omega)]
      have w70 : (m60 123 15).toInt = (m48 123 15).toInt := by rw [e63, up2_ne (by omega)]
      have e5 := e63
      have s5 := SLK_new (m := m60) (by omega)
      have kt89 : tR m60 = tR m := tR_eq (K62 123 13 rfl) (fun j => K62 129 j rfl)
      have ko89 : eo (m60 123 15).toInt = 6 := by unfold eo; omega
      have kp89 : (m60 123 12).toInt = (m 123 12).toInt + 1 := by omega
      refine pv_iload_n (M := mX12_readsClause) 1 dX12_readsClause_89 90 rfl rfl rfl ?_
      refine pv_bipush (M := mX12_readsClause) (v := 112) dX12_readsClause_90 92 rfl (by decide) ?_
      refine pv_icmp_ne (M := mX12_readsClause) (tgt := 104) dX12_readsClause_92 95 rfl (by decide) (fun c76 => ?_) (fun c76 => ?_)
      · have c76 := iv_ne (X := v2.toInt) (Y := 112) c76 rfl (by decide)
        have q6 : FR4 m60 m60 ∧ KB (m 123 16).toInt m60 m60 ∧ WFc (m60 130) (m 123 16).toInt.toNat (m60 123 16).toInt.toNat ∧ (m 123 16).toInt ≤ (m60 123 16).toInt ∧ 0 ≤ SLK m60 ∧ (m60 123 17).toInt = 0 ∧ (m60 123 12).toInt ≤ (m60 123 12).toInt ∧ (m60 123 12).toInt ≤ (m60 123 13).toInt ∧ (m60 123 13).toInt = (m60 123 13).toInt := by first | (have kS := (kR.resolve_left (fun q => by have q1 := q.1; omega)).2.1; have z1 := kS.2.1; have z2 := kS.2.2.2.1; have z3 := kS.2.2.2.2.2.1; have z4 := kS.2.2.2.2.2.2.1; have z5 := kS.2.2.2.2.2.2.2; exact ⟨f6, kS.2.2.1, HW_done kS.1 (show (m60 123 17).toInt = 0 by omega), kS.1.1.2.1, by omega, by omega, by omega, by omega, by omega⟩) | exact ⟨⟨fun _ => rfl, fun _ => rfl, fun _ => rfl, rfl⟩, KB.rf, WFc_nil (by omega), by omega, by rw [s5]; omega, by omega, by omega, by omega, by omega⟩
        have q61 := q6.2.2.2.1
        have q62 := q6.2.2.2.2.2.1
        have q63 := q6.2.2.2.2.2.2.1
        have q64 := q6.2.2.2.2.2.2.2.1
        have q65 := q6.2.2.2.2.2.2.2.2
        have kSU : CLA (tR m) (m 123 18).toInt (m 123 12).toInt = CND (tR m) (m60 123 12).toInt := by first | exact CLA_p (by omega) (by omega) (kR.resolve_left (fun q => by have q1 := q.1; omega)).2.2.1 | (rw [CLA_n (by omega) (by omega), show (m 123 12).toInt + 1 = (m60 123 12).toInt by omega])
        refine pv_aload_n (M := mX12_readsClause) 0 dX12_readsClause_104 105 rfl rfl rfl ?_
        refine mv_get (M := mX12_readsClause) (v := .ref 134) dX12_readsClause_105 FX12 25 wd1198 (by decide) (tl123 hT) rfl rfl 108 rfl ?_
        refine pv_aload_n (M := mX12_readsClause) 0 dX12_readsClause_108 109 rfl rfl rfl ?_
        refine iv_get (M := mX12_readsClause) (l1 := 0) (l2 := 12) dX12_readsClause_109 FX12 18 wd1191 (by decide) (tl123 hT) rfl I61 rfl 112 rfl (fun v84 ev84 pv84 qv84 => ?_)
        have wv84 : v84.toInt = (m60 123 18).toInt := congrArg Int32.toInt ev84
        refine pv_aload_n (M := mX12_readsClause) 0 dX12_readsClause_112 113 rfl rfl rfl ?_
        refine iv_get (M := mX12_readsClause) (l1 := 0) (l2 := 180) dX12_readsClause_113 FX12 16 wd1189 (by decide) (tl123 hT) rfl I61 rfl 116 rfl (fun v85 ev85 pv85 qv85 => ?_)
        have wv85 : v85.toInt = (m60 123 16).toInt := congrArg Int32.toInt ev85
        refine iv_iast (M := mX12_readsClause) (X := v84.toInt) (l1 := 0) (l2 := 180) dX12_readsClause_116 (tl134 hT) rfl (by omega) (by omega) I61 (fun _ => rfl) (by omega) (by omega) 117 rfl (fun m86 e89 I87 => ?_)
        have K88 := K62.set e89 rfl
        have w90 : (m86 123 12).toInt = (m60 123 12).toInt := by rw [e89, up2_ne (by omega)]
        have w91 : (m86 123 13).toInt = (m60 123 13).toInt := by rw [e89, up2_ne (by omega)]
        have w92 : (m86 123 16).toInt = (m60 123 16).toInt := by rw [e89, up2_ne (by omega)]
        have w93 : (m86 123 17).toInt = (m60 123 17).toInt := by rw [e89, up2_ne (by omega)]
        have w94 : (m86 123 18).toInt = (m60 123 18).toInt := by rw [e89, up2_ne (by omega)]
        have w95 : (m86 123 14).toInt = (m60 123 14).toInt := by rw [e89, up2_ne (by omega)]
        have w96 : (m86 123 15).toInt = (m60 123 15).toInt := by rw [e89, up2_ne (by omega)]
        have e7 := e89
        have kt117 : tR m86 = tR m := tR_eq (K88 123 13 rfl) (fun j => K88 129 j rfl)
        have kp117 : (m86 123 12).toInt = (m60 123 12).toInt := by omega
        refine pv_aload_n (M := mX12_readsClause) 0 dX12_readsClause_117 118 rfl rfl rfl ?_
        refine pv_callv (M := mX12_readsClause) (as := []) (st := []) (kc2 := 0) (ks2 := 0) dX12_readsClause_118 wd1468 YX12_readsCondition ⟨wd1470, wd71⟩ (mk_get (tl123 hT)) rfl rfl (s_X12_readsCondition_vx g hT I87 ((m60 123 16).toInt) (by rw [SLK_eq (m := m60) (by rw [e89, up2_ne (by omega)]) (by rw [e89, up2_ne (by omega)]) (by rw [e89, up2_ne (by omega)]) (fun j => by rw [e89, up2_ne (by omega)])]; exact q6.2.2.2.2.1) (by first | omega | assumption | exact (iv_rng _).2 | exact (iv_rng _).1 | decide) (by first | omega | assumption | exact (iv_rng _).2 | exact (iv_rng _).1 | decide)) rfl rfl (Nat.le_of_ble_eq_true rfl) (by decide) rfl rfl 121 rfl (fun rv h1 q100 => ?_)
        obtain ⟨m101, n102, v105, rfl, rfl, I103, K104, pv105, qv105, rv105⟩ := q100
        replace rv105 : (v105.toInt = 0 ∧ FLT (CND (tR m86) (m86 123 12).toInt) (m101 123 14).toInt) ∨ (v105.toInt = 1 ∧ (WFc (m101 130) ((m60 123 16).toInt).toNat (m101 123 16).toInt.toNat ∧ KB ((m60 123 16).toInt) m86 m101 ∧ 0 ≤ SLK m101 ∧ ((m60 123 16).toInt) ≤ (m101 123 16).toInt ∧ (m86 123 12).toInt ≤ (m101 123 12).toInt ∧ (m101 123 12).toInt ≤ (m101 123 13).toInt ∧ (m101 123 13).toInt = (m86 123 13).toInt ∧ (m101 123 17).toInt = 0) ∧ CND (tR m86) (m86 123 12).toInt = (0, (m101 123 12).toInt)) := rv105
        have K104c := K104
        have w106 : (m101 123 13).toInt = (m86 123 13).toInt := congrArg Int32.toInt (K104 123 13 rfl)
        have w107 : (m101 123 18).toInt = (m86 123 18).toInt := congrArg Int32.toInt (K104 123 18 rfl)
        have K104 := K88.trans (K104.sub (wl_sub (by decide)))
        show PV _ _ _ _ _ _ _ 121 [.ref 123, .int v2] [.int v105] _
        have kC := rv105
        have f8 : FR4 m86 m101 := ⟨fun j => K104c 133 j rfl, fun j => K104c 134 j rfl, fun j => K104c 135 j rfl, K104c 123 18 rfl⟩
        rw [kt117, kp117] at kC
        refine pv_if_ne (M := mX12_readsClause) (tgt := 126) dX12_readsClause_121 124 rfl (by decide) (fun c111 => ?_) (fun c111 => ?_)
        · have c111 := iv_ne (X := v105.toInt) (Y := 0) c111 rfl (by decide)
          have kc := (kC.resolve_left (fun q => by have q1 := q.1; omega)).2.1
          have kcC := (kC.resolve_left (fun q => by have q1 := q.1; omega)).2.2
          have kc1 := kc.2.2.2.1
          have kc2 : (m101 123 16).toInt ≤ (m101 123 12).toInt := SLK_cm kc.2.2.1
          have kc3 := kc.2.2.2.2.1
          have kc4 := kc.2.2.2.2.2.1
          have kc5 := kc.2.2.2.2.2.2.1
          refine pv_aload_n (M := mX12_readsClause) 0 dX12_readsClause_126 127 rfl rfl rfl ?_
          refine mv_get (M := mX12_readsClause) (v := .ref 135) dX12_readsClause_127 FX12 26 wd1199 (by decide) (tl123 hT) rfl rfl 130 rfl ?_
          refine pv_aload_n (M := mX12_readsClause) 0 dX12_readsClause_130 131 rfl rfl rfl ?_
          refine iv_get (M := mX12_readsClause) (l1 := 0) (l2 := 12) dX12_readsClause_131 FX12 18 wd1191 (by decide) (tl123 hT) rfl I103 rfl 134 rfl (fun v119 ev119 pv119 qv119 => ?_)
          have wv119 : v119.toInt = (m101 123 18).toInt := congrArg Int32.toInt ev119
          refine pv_aload_n (M := mX12_readsClause) 0 dX12_readsClause_134 135 rfl rfl rfl ?_
          refine iv_get (M := mX12_readsClause) (l1 := 0) (l2 := 180) dX12_readsClause_135 FX12 16 wd1189 (by decide) (tl123 hT) rfl I103 rfl 138 rfl (fun v120 ev120 pv120 qv120 => ?_)
          have wv120 : v120.toInt = (m101 123 16).toInt := congrArg Int32.toInt ev120
          refine iv_iast (M := mX12_readsClause) (X := v119.toInt) (l1 := 0) (l2 := 180) dX12_readsClause_138 (tl135 hT) rfl (by omega) (by omega) I103 (fun _ => rfl) (by omega) (by omega) 139 rfl (fun m121 e124 I122 => ?_)
          have K123 := K104.set e124 rfl
          have w125 : (m121 123 12).toInt = (m101 123 12).toInt := by rw [e124, up2_ne (by omega)]
          have w126 : (m121 123 13).toInt = (m101 123 13).toInt := by rw [e124, up2_ne (by omega)]
          have w127 : (m121 123 16).toInt = (m101 123 16).toInt := by rw [e124, up2_ne (by omega)]
          have w128 : (m121 123 17).toInt = (m101 123 17).toInt := by rw [e124, up2_ne (by omega)]
          have w129 : (m121 123 18).toInt = (m101 123 18).toInt := by rw [e124, up2_ne (by omega)]
          have w130 : (m121 123 14).toInt = (m101 123 14).toInt := by rw [e124, up2_ne (by omega)]
          have w131 : (m121 123 15).toInt = (m101 123 15).toInt := by rw [e124, up2_ne (by omega)]
          have e9 := e124
          refine pv_aload_n (M := mX12_readsClause) 0 dX12_readsClause_139 140 rfl rfl rfl ?_
          refine pv_aload_n (M := mX12_readsClause) 0 dX12_readsClause_140 141 rfl rfl rfl ?_
          refine iv_get (M := mX12_readsClause) (l1 := 0) (l2 := 12) dX12_readsClause_141 FX12 18 wd1191 (by decide) (tl123 hT) rfl I122 rfl 144 rfl (fun v133 ev133 pv133 qv133 => ?_)
          have wv133 : v133.toInt = (m121 123 18).toInt := congrArg Int32.toInt ev133
          refine pv_iconst (M := mX12_readsClause) (v := 1) dX12_readsClause_144 145 rfl (by decide) ?_
          refine iv_iadd (M := mX12_readsClause) (X := v133.toInt) (Y := 1) dX12_readsClause_145 146 rfl rfl (by decide) (by omega) (by omega) (fun v134 ev134 => ?_)
          refine iv_put (M := mX12_readsClause) (l1 := 0) (l2 := 12) dX12_readsClause_146 FX12 18 wd1191 (by decide) rfl (tl123 hT) rfl rfl rfl I122 rfl (by omega) (by omega) 149 rfl (fun m135 e138 I136 => ?_)
          have K137 := K123.set e138 rfl
          have w139 : (m135 123 12).toInt = (m121 123 12).toInt := by rw [e138, up2_ne (by omega)]
          have w140 : (m135 123 13).toInt = (m121 123 13).toInt := by rw [e138, up2_ne (by omega)]
          have w141 : (m135 123 16).toInt = (m121 123 16).toInt := by rw [e138, up2_ne (by omega)]
          have w142 : (m135 123 17).toInt = (m121 123 17).toInt := by rw [e138, up2_ne (by omega)]
          have w143 : (m135 123 18).toInt = v134.toInt := by rw [e138, up2_eq]
          have w144 : (m135 123 14).toInt = (m121 123 14).toInt := by rw [e138, up2_ne (by omega)]
          have w145 : (m135 123 15).toInt = (m121 123 15).toInt := by rw [e138, up2_ne (by omega)]
          refine pv_iconst (M := mX12_readsClause) (v := 1) dX12_readsClause_149 150 rfl (by decide) ?_
          have z146 : (1 : Int32).toInt = 1 := by decide
          exact pv_iret (M := mX12_readsClause) dX12_readsClause_150 rfl rfl ⟨_, _, _, rfl, rfl, I136, K137, by decide, by decide, (Or.inr ⟨by decide, ⟨SX_clause hp2 (m 123 18).toInt.toNat (by omega) e1 e2 e3 (by omega) (by omega) e4 e5 q6.1 q6.2.1 q6.2.2.1 q6.2.2.2.1 e7 (by omega) (by omega) f8 kc.2.1 kc.1 kc.2.2.2.1 e9 (by omega) (by omega) e138 (by omega) (by omega), by omega, by omega, by omega, by omega⟩, by rw [kSU, kcC, show (m101 123 12).toInt = (m135 123 12).toInt by omega], by omega⟩)⟩
        · have c111 := iv_eq (X := v105.toInt) (Y := 0) c111 rfl (by decide)
          refine pv_iconst (M := mX12_readsClause) (v := 0) dX12_readsClause_124 125 rfl (by decide) ?_
          have z147 : (0 : Int32).toInt = 0 := by decide
          exact pv_iret (M := mX12_readsClause) dX12_readsClause_125 rfl rfl ⟨_, _, _, rfl, rfl, I103, K104, by decide, by decide, (Or.inl ⟨by decide, by rw [kSU]; exact (kC.resolve_right (fun q => by have q1 := q.1; omega)).2⟩)⟩
      · have c76 := iv_eq (X := v2.toInt) (Y := 112) c76 rfl (by decide)
        omega
    · have c6 := iv_eq (X := v5.toInt) (Y := 12) c6 rfl (by decide)
      refine pv_aload_n (M := mX12_readsClause) 0 dX12_readsClause_36 37 rfl rfl rfl ?_
      refine pv_iconst (M := mX12_readsClause) (v := 4) dX12_readsClause_37 38 rfl (by decide) ?_
      refine pv_aload_n (M := mX12_readsClause) 0 dX12_readsClause_38 39 rfl rfl rfl ?_
      refine iv_get (M := mX12_readsClause) (l1 := 0) (l2 := 160) dX12_readsClause_39 FX12 12 wd1185 (by decide) (tl123 hT) rfl I rfl 42 rfl (fun v148 ev148 pv148 qv148 => ?_)
      have wv148 : v148.toInt = (m 123 12).toInt := congrArg Int32.toInt ev148
      have z149 : (4 : Int32).toInt = 4 := by decide
      refine pv_callv (M := mX12_readsClause) (as := [.int 4, .int v148]) (st := []) (kc2 := 0) (ks2 := 0) dX12_readsClause_42 wd1421 YX12_wrongAt ⟨wd1423, wd61⟩ (mk_get (tl123 hT)) rfl rfl (s_X12_wrongAt_vx g hT I 4 (by decide) (by decide) v148 (by omega) (by omega)) rfl rfl (Nat.le_of_ble_eq_true rfl) (by decide) rfl rfl 45 rfl (fun rv h1 q150 => ?_)
      obtain ⟨m151, n152, v155, rfl, rfl, I153, K154, pv155, qv155, rv155⟩ := q150
      replace rv155 : (m151 123 14).toInt = -1000 * (4 : Int) - v148.toInt := by have q_ := rv155; (try rw [z149] at q_); exact q_
      have K154c := K154
      have w156 : (m151 123 12).toInt = (m 123 12).toInt := congrArg Int32.toInt (K154 123 12 rfl)
      have w157 : (m151 123 13).toInt = (m 123 13).toInt := congrArg Int32.toInt (K154 123 13 rfl)
      have w158 : (m151 123 16).toInt = (m 123 16).toInt := congrArg Int32.toInt (K154 123 16 rfl)
      have w159 : (m151 123 17).toInt = (m 123 17).toInt := congrArg Int32.toInt (K154 123 17 rfl)
      have w160 : (m151 123 18).toInt = (m 123 18).toInt := congrArg Int32.toInt (K154 123 18 rfl)
      have w161 : (m151 123 15).toInt = (m 123 15).toInt := congrArg Int32.toInt (K154 123 15 rfl)
      have K154 := Kp.trans (K154.sub (wl_sub (by decide)))
      show PV _ _ _ _ _ _ _ 45 [.ref 123, .int v2] [.int v155] _
      exact pv_iret (M := mX12_readsClause) dX12_readsClause_45 rfl (iv_nz (by omega) (by omega)) ⟨_, _, _, rfl, rfl, I153, K154, by omega, by omega, (Or.inl ⟨by omega, CLA_4 (by omega) (by omega) (by omega)⟩)⟩
  · have c4 := iv_ne (X := v2.toInt) (Y := 110) c4 rfl (by decide)
    refine pv_iload_n (M := mX12_readsClause) 1 dX12_readsClause_11 12 rfl rfl rfl ?_
    refine pv_bipush (M := mX12_readsClause) (v := 112) dX12_readsClause_12 14 rfl (by decide) ?_
    refine pv_icmp_eq (M := mX12_readsClause) (tgt := 27) dX12_readsClause_14 17 rfl (by decide) (fun c162 => ?_) (fun c162 => ?_)
    · have c162 := iv_eq (X := v2.toInt) (Y := 112) c162 rfl (by decide)
      refine pv_aload_n (M := mX12_readsClause) 0 dX12_readsClause_27 28 rfl rfl rfl ?_
      refine iv_get (M := mX12_readsClause) (l1 := 0) (l2 := 12) dX12_readsClause_28 FX12 18 wd1191 (by decide) (tl123 hT) rfl I rfl 31 rfl (fun v163 ev163 pv163 qv163 => ?_)
      have wv163 : v163.toInt = (m 123 18).toInt := congrArg Int32.toInt ev163
      refine pv_bipush (M := mX12_readsClause) (v := 12) dX12_readsClause_31 33 rfl (by decide) ?_
      refine pv_icmp_ne (M := mX12_readsClause) (tgt := 46) dX12_readsClause_33 36 rfl (by decide) (fun c164 => ?_) (fun c164 => ?_)
      · have c164 := iv_ne (X := v163.toInt) (Y := 12) c164 rfl (by decide)
        refine pv_aload_n (M := mX12_readsClause) 0 dX12_readsClause_46 47 rfl rfl rfl ?_
        refine mv_get (M := mX12_readsClause) (v := .ref 132) dX12_readsClause_47 FX12 23 wd1196 (by decide) (tl123 hT) rfl rfl 50 rfl ?_
        refine pv_aload_n (M := mX12_readsClause) 0 dX12_readsClause_50 51 rfl rfl rfl ?_
        refine iv_get (M := mX12_readsClause) (l1 := 0) (l2 := 12) dX12_readsClause_51 FX12 18 wd1191 (by decide) (tl123 hT) rfl I rfl 54 rfl (fun v165 ev165 pv165 qv165 => ?_)
        have wv165 : v165.toInt = (m 123 18).toInt := congrArg Int32.toInt ev165
        refine pv_iload_n (M := mX12_readsClause) 1 dX12_readsClause_54 55 rfl rfl rfl ?_
        refine iv_iast (M := mX12_readsClause) (X := v165.toInt) (l1 := (-2147483648)) (l2 := 2147483647) dX12_readsClause_55 (tl132 hT) rfl (by omega) (by omega) I (fun _ => rfl) (iv_rng v2).1 (iv_rng v2).2 56 rfl (fun m166 e169 I167 => ?_)
        have K168 := Kp.set e169 rfl
        have w170 : (m166 123 12).toInt = (m 123 12).toInt := by rw [e169, up2_ne (by omega)]
        have w171 : (m166 123 13).toInt = (m 123 13).toInt := by rw [e169, up2_ne (by omega)]
        have w172 : (m166 123 16).toInt = (m 123 16).toInt := by rw [e169, up2_ne (by omega)]
        have w173 : (m166 123 17).toInt = (m 123 17).toInt := by rw [e169, up2_ne (by omega)]
        have w174 : (m166 123 18).toInt = (m 123 18).toInt := by rw [e169, up2_ne (by omega)]
        have w175 : (m166 123 14).toInt = (m 123 14).toInt := by rw [e169, up2_ne (by omega)]
        have w176 : (m166 123 15).toInt = (m 123 15).toInt := by rw [e169, up2_ne (by omega)]
        have e1 := e169
        refine pv_aload_n (M := mX12_readsClause) 0 dX12_readsClause_56 57 rfl rfl rfl ?_
        refine pv_aload_n (M := mX12_readsClause) 0 dX12_readsClause_57 58 rfl rfl rfl ?_
        refine iv_get (M := mX12_readsClause) (l1 := 0) (l2 := 160) dX12_readsClause_58 FX12 12 wd1185 (by decide) (tl123 hT) rfl I167 rfl 61 rfl (fun v178 ev178 pv178 qv178 => ?_)
        have wv178 : v178.toInt = (m166 123 12).toInt := congrArg Int32.toInt ev178
        refine pv_iconst (M := mX12_readsClause) (v := 1) dX12_readsClause_61 62 rfl (by decide) ?_
        refine iv_iadd (M := mX12_readsClause) (X := v178.toInt) (Y := 1) dX12_readsClause_62 63 rfl rfl (by decide) (by omega) (by omega) (fun v179 ev179 => ?_)
        refine iv_put (M := mX12_readsClause) (l1 := 0) (l2 := 160) dX12_readsClause_63 FX12 12 wd1185 (by decide) rfl (tl123 hT) rfl rfl rfl I167 rfl (by omega) (by omega) 66 rfl (fun m180 e183 I181 => ?_)
        have K182 := K168.set e183 rfl
        have w184 : (m180 123 12).toInt = v179.toInt := by rw [e183, up2_eq]
        have w185 : (m180 123 13).toInt = (m166 123 13).toInt := by rw [e183, up2_ne (by omega)]
        have w186 : (m180 123 16).toInt = (m166 123 16).toInt := by rw [e183, up2_ne (by omega)]
        have w187 : (m180 123 17).toInt = (m166 123 17).toInt := by rw [e183, up2_ne (by omega)]
        have w188 : (m180 123 18).toInt = (m166 123 18).toInt := by rw [e183, up2_ne (by omega)]
        have w189 : (m180 123 14).toInt = (m166 123 14).toInt := by rw [e183, up2_ne (by omega)]
        have w190 : (m180 123 15).toInt = (m166 123 15).toInt := by rw [e183, up2_ne (by omega)]
        have e2 := e183
        refine pv_aload_n (M := mX12_readsClause) 0 dX12_readsClause_66 67 rfl rfl rfl ?_
        refine mv_get (M := mX12_readsClause) (v := .ref 133) dX12_readsClause_67 FX12 24 wd1197 (by decide) (tl123 hT) rfl rfl 70 rfl ?_
        refine pv_aload_n (M := mX12_readsClause) 0 dX12_readsClause_70 71 rfl rfl rfl ?_
        refine iv_get (M := mX12_readsClause) (l1 := 0) (l2 := 12) dX12_readsClause_71 FX12 18 wd1191 (by decide) (tl123 hT) rfl I181 rfl 74 rfl (fun v192 ev192 pv192 qv192 => ?_)
        have wv192 : v192.toInt = (m180 123 18).toInt := congrArg Int32.toInt ev192
        refine pv_aload_n (M := mX12_readsClause) 0 dX12_readsClause_74 75 rfl rfl rfl ?_
        refine iv_get (M := mX12_readsClause) (l1 := 0) (l2 := 180) dX12_readsClause_75 FX12 16 wd1189 (by decide) (tl123 hT) rfl I181 rfl 78 rfl (fun v193 ev193 pv193 qv193 => ?_)
        have wv193 : v193.toInt = (m180 123 16).toInt := congrArg Int32.toInt ev193
        refine iv_iast (M := mX12_readsClause) (X := v192.toInt) (l1 := 0) (l2 := 180) dX12_readsClause_78 (tl133 hT) rfl (by omega) (by omega) I181 (fun _ => rfl) (by omega) (by omega) 79 rfl (fun m194 e197 I195 => ?_)
        have K196 := K182.set e197 rfl
        have w198 : (m194 123 12).toInt = (m180 123 12).toInt := by rw [e197, up2_ne (by omega)]
        have w199 : (m194 123 13).toInt = (m180 123 13).toInt := by rw [e197, up2_ne (by omega)]
        have w200 : (m194 123 16).toInt = (m180 123 16).toInt := by rw [e197, up2_ne (by omega)]
        have w201 : (m194 123 17).toInt = (m180 123 17).toInt := by rw [e197, up2_ne (by omega)]
        have w202 : (m194 123 18).toInt = (m180 123 18).toInt := by rw [e197, up2_ne (by omega)]
        have w203 : (m194 123 14).toInt = (m180 123 14).toInt := by rw [e197, up2_ne (by omega)]
        have w204 : (m194 123 15).toInt = (m180 123 15).toInt := by rw [e197, up2_ne (by omega)]
        have e3 := e197
        refine pv_aload_n (M := mX12_readsClause) 0 dX12_readsClause_79 80 rfl rfl rfl ?_
        refine pv_iconst (M := mX12_readsClause) (v := 0) dX12_readsClause_80 81 rfl (by decide) ?_
        refine iv_put (M := mX12_readsClause) (l1 := (-2147483648)) (l2 := 2147483647) dX12_readsClause_81 FX12 15 wd1188 (by decide) rfl (tl123 hT) rfl rfl rfl I195 rfl (by decide) (by decide) 84 rfl (fun m206 e209 I207 => ?_)
        have K208 := K196.set e209 rfl
        have w210 : (m206 123 12).toInt = (m194 123 12).toInt := by rw [e209, up2_ne (by omega)]
        have w211 : (m206 123 13).toInt = (m194 123 13).toInt := by rw [e209, up2_ne (by omega)]
        have w212 : (m206 123 16).toInt = (m194 123 16).toInt := by rw [e209, up2_ne (by omega)]
        have w213 : (m206 123 17).toInt = (m194 123 17).toInt := by rw [e209, up2_ne (by omega)]
        have w214 : (m206 123 18).toInt = (m194 123 18).toInt := by rw [e209, up2_ne (by omega)]
        have w215 : (m206 123 14).toInt = (m194 123 14).toInt := by rw [e209, up2_ne (by omega)]
        have w216 : (m206 123 15).toInt = 0 := by rw [e209, up2_eq] <;> rfl
        have e4 := e209
        refine pv_aload_n (M := mX12_readsClause) 0 dX12_readsClause_84 85 rfl rfl rfl ?_
        refine pv_iconst (M := mX12_readsClause) (v := 0) dX12_readsClause_85 86 rfl (by decide) ?_
        refine iv_put (M := mX12_readsClause) (l1 := 0) (l2 := 180) dX12_readsClause_86 FX12 17 wd1190 (by decide) rfl (tl123 hT) rfl rfl rfl I207 rfl (by decide) (by decide) 89 rfl (fun m218 e221 I219 => ?_)
        have K220 := K208.set e221 rfl
        have w222 : (m218 123 12).toInt = (m206 123 12).toInt := by rw [e221, up2_ne (by omega)]
        have w223 : (m218 123 13).toInt = (m206 123 13).toInt := by rw [e221, up2_ne (by omega)]
        have w224 : (m218 123 16).toInt = (m206 123 16).toInt := by rw [e221, up2_ne (by omega)]
        have w225 : (m218 123 17).toInt = 0 := by rw [e221, up2_eq] <;> rfl
        have w226 : (m218 123 18).toInt = (m206 123 18).toInt := by rw [e221, up2_ne (by omega)]
        have w227 : (m218 123 14).toInt = (m206 123 14).toInt := by rw [e221, up2_ne (by omega)]
        have w228 : (m218 123 15).toInt = (m206 123 15).toInt := by rw [e221, up2_ne (by omega)]
        have e5 := e221
        have s5 := SLK_new (m := m218) (by omega)
        have kt89 : tR m218 = tR m := tR_eq (K220 123 13 rfl) (fun j => K220 129 j rfl)
        have ko89 : eo (m218 123 15).toInt = 6 := by unfold eo; omega
        have kp89 : (m218 123 12).toInt = (m 123 12).toInt + 1 := by omega
        refine pv_iload_n (M := mX12_readsClause) 1 dX12_readsClause_89 90 rfl rfl rfl ?_
        refine pv_bipush (M := mX12_readsClause) (v := 112) dX12_readsClause_90 92 rfl (by decide) ?_
        refine pv_icmp_ne (M := mX12_readsClause) (tgt := 104) dX12_readsClause_92 95 rfl (by decide) (fun c234 => ?_) (fun c234 => ?_)
        · have c234 := iv_ne (X := v2.toInt) (Y := 112) c234 rfl (by decide)
          omega
        · have c234 := iv_eq (X := v2.toInt) (Y := 112) c234 rfl (by decide)
          refine pv_aload_n (M := mX12_readsClause) 0 dX12_readsClause_95 96 rfl rfl rfl ?_
          refine pv_callv (M := mX12_readsClause) (as := []) (st := []) (kc2 := 0) (ks2 := 0) dX12_readsClause_96 wd1425 YX12_readsSum ⟨wd1427, wd62⟩ (mk_get (tl123 hT)) rfl rfl (s_X12_readsSum_vx g hT I219 ((m 123 16).toInt) 0 (by have q := HW_new' (m := m218) (by omega) (by omega); rw [show (m218 123 16).toInt = (m 123 16).toInt by omega] at q; exact q) (by decide) (by rw [s5]; omega) (by first | omega | assumption | exact (iv_rng _).2 | exact (iv_rng _).1 | decide) (by first | omega | assumption | exact (iv_rng _).2 | exact (iv_rng _).1 | decide) (NS_new (by omega)) (by first | omega | assumption | exact (iv_rng _).2 | exact (iv_rng _).1 | decide) (by first | omega | assumption | exact (iv_rng _).2 | exact (iv_rng _).1 | decide)) rfl rfl (Nat.le_of_ble_eq_true rfl) (by decide) rfl rfl 99 rfl (fun rv h1 q235 => ?_)
          obtain ⟨m236, n237, v240, rfl, rfl, I238, K239, pv240, qv240, rv240⟩ := q235
          replace rv240 : (v240.toInt = 0 ∧ FLT (SU (tR m218) (eo (m218 123 15).toInt) (m218 123 12).toInt) (m236 123 14).toInt) ∨ (v240.toInt = 1 ∧ RS ((m 123 16).toInt) (0 + 1) m218 m236 ∧ SU (tR m218) (eo (m218 123 15).toInt) (m218 123 12).toInt = (0, (m236 123 12).toInt) ∧ (m236 123 15).toInt = (m218 123 15).toInt) := rv240
          have K239c := K239
          have w241 : (m236 123 13).toInt = (m218 123 13).toInt := congrArg Int32.toInt (K239 123 13 rfl)
          have w242 : (m236 123 18).toInt = (m218 123 18).toInt := congrArg Int32.toInt (K239 123 18 rfl)
          have K239 := K220.trans (K239.sub (wl_sub (by decide)))
          show PV _ _ _ _ _ _ _ 99 [.ref 123, .int v2] [.int v240] _
          have kR := rv240
          have f6 : FR4 m218 m236 := ⟨fun j => K239c 133 j rfl, fun j => K239c 134 j rfl, fun j => K239c 135 j rfl, K239c 123 18 rfl⟩
          rw [kt89, ko89, kp89] at kR
          refine pv_if_ne (M := mX12_readsClause) (tgt := 104) dX12_readsClause_99 102 rfl (by decide) (fun c246 => ?_) (fun c246 => ?_)
          · have c246 := iv_ne (X := v240.toInt) (Y := 0) c246 rfl (by decide)
            have q6 : FR4 m218 m236 ∧ KB (m 123 16).toInt m218 m236 ∧ WFc (m236 130) (m 123 16).toInt.toNat (m236 123 16).toInt.toNat ∧ (m 123 16).toInt ≤ (m236 123 16).toInt ∧ 0 ≤ SLK m236 ∧ (m236 123 17).toInt = 0 ∧ (m218 123 12).toInt ≤ (m236 123 12).toInt ∧ (m236 123 12).toInt ≤ (m236 123 13).toInt ∧ (m236 123 13).toInt = (m218 123 13).toInt := by first | (have kS := (kR.resolve_left (fun q => by have q1 := q.1; omega)).2.1; have z1 := kS.2.1; have z2 := kS.2.2.2.1; have z3 := kS.2.2.2.2.2.1; have z4 := kS.2.2.2.2.2.2.1; have z5 := kS.2.2.2.2.2.2.2; exact ⟨f6, kS.2.2.1, HW_done kS.1 (show (m236 123 17).toInt = 0 by omega), kS.1.1.2.1, by omega, by omega, by omega, by omega, by omega⟩) | exact ⟨⟨fun _ => rfl, fun _ => rfl, fun _ => rfl, rfl⟩, KB.rf, WFc_nil (by omega), by omega, by rw [s5]; omega, by omega, by omega, by omega, by omega⟩
            have q61 := q6.2.2.2.1
            have q62 := q6.2.2.2.2.2.1
            have q63 := q6.2.2.2.2.2.2.1
            have q64 := q6.2.2.2.2.2.2.2.1
            have q65 := q6.2.2.2.2.2.2.2.2
            have kSU : CLA (tR m) (m 123 18).toInt (m 123 12).toInt = CND (tR m) (m236 123 12).toInt := by first | exact CLA_p (by omega) (by omega) (kR.resolve_left (fun q => by have q1 := q.1; omega)).2.2.1 | (rw [CLA_n (by omega) (by omega), show (m 123 12).toInt + 1 = (m236 123 12).toInt by omega])
            refine pv_aload_n (M := mX12_readsClause) 0 dX12_readsClause_104 105 rfl rfl rfl ?_
            refine mv_get (M := mX12_readsClause) (v := .ref 134) dX12_readsClause_105 FX12 25 wd1198 (by decide) (tl123 hT) rfl rfl 108 rfl ?_
            refine pv_aload_n (M := mX12_readsClause) 0 dX12_readsClause_108 109 rfl rfl rfl ?_
            refine iv_get (M := mX12_readsClause) (l1 := 0) (l2 := 12) dX12_readsClause_109 FX12 18 wd1191 (by decide) (tl123 hT) rfl I238 rfl 112 rfl (fun v254 ev254 pv254 qv254 => ?_)
            have wv254 : v254.toInt = (m236 123 18).toInt := congrArg Int32.toInt ev254
            refine pv_aload_n (M := mX12_readsClause) 0 dX12_readsClause_112 113 rfl rfl rfl ?_
            refine iv_get (M := mX12_readsClause) (l1 := 0) (l2 := 180) dX12_readsClause_113 FX12 16 wd1189 (by decide) (tl123 hT) rfl I238 rfl 116 rfl (fun v255 ev255 pv255 qv255 => ?_)
            have wv255 : v255.toInt = (m236 123 16).toInt := congrArg Int32.toInt ev255
            refine iv_iast (M := mX12_readsClause) (X := v254.toInt) (l1 := 0) (l2 := 180) dX12_readsClause_116 (tl134 hT) rfl (by omega) (by omega) I238 (fun _ => rfl) (by omega) (by omega) 117 rfl (fun m256 e259 I257 => ?_)
            have K258 := K239.set e259 rfl
            have w260 : (m256 123 12).toInt = (m236 123 12).toInt := by rw [e259, up2_ne (by omega)]
            have w261 : (m256 123 13).toInt = (m236 123 13).toInt := by rw [e259, up2_ne (by omega)]
            have w262 : (m256 123 16).toInt = (m236 123 16).toInt := by rw [e259, up2_ne (by omega)]
            have w263 : (m256 123 17).toInt = (m236 123 17).toInt := by rw [e259, up2_ne (by omega)]
            have w264 : (m256 123 18).toInt = (m236 123 18).toInt := by rw [e259, up2_ne (by omega)]
            have w265 : (m256 123 14).toInt = (m236 123 14).toInt := by rw [e259, up2_ne (by omega)]
            have w266 : (m256 123 15).toInt = (m236 123 15).toInt := by rw [e259, up2_ne (by omega)]
            have e7 := e259
            have kt117 : tR m256 = tR m := tR_eq (K258 123 13 rfl) (fun j => K258 129 j rfl)
            have kp117 : (m256 123 12).toInt = (m236 123 12).toInt := by omega
            refine pv_aload_n (M := mX12_readsClause) 0 dX12_readsClause_117 118 rfl rfl rfl ?_
            refine pv_callv (M := mX12_readsClause) (as := []) (st := []) (kc2 := 0) (ks2 := 0) dX12_readsClause_118 wd1468 YX12_readsCondition ⟨wd1470, wd71⟩ (mk_get (tl123 hT)) rfl rfl (s_X12_readsCondition_vx g hT I257 ((m236 123 16).toInt) (by rw [SLK_eq (m := m236) (by rw [e259, up2_ne (by omega)]) (by rw [e259, up2_ne (by omega)]) (by rw [e259, up2_ne (by omega)]) (fun j => by rw [e259, up2_ne (by omega)])]; exact q6.2.2.2.2.1) (by first | omega | assumption | exact (iv_rng _).2 | exact (iv_rng _).1 | decide) (by first | omega | assumption | exact (iv_rng _).2 | exact (iv_rng _).1 | decide)) rfl rfl (Nat.le_of_ble_eq_true rfl) (by decide) rfl rfl 121 rfl (fun rv h1 q270 => ?_)
            obtain ⟨m271, n272, v275, rfl, rfl, I273, K274, pv275, qv275, rv275⟩ := q270
            replace rv275 : (v275.toInt = 0 ∧ FLT (CND (tR m256) (m256 123 12).toInt) (m271 123 14).toInt) ∨ (v275.toInt = 1 ∧ (WFc (m271 130) ((m236 123 16).toInt).toNat (m271 123 16).toInt.toNat ∧ KB ((m236 123 16).toInt) m256 m271 ∧ 0 ≤ SLK m271 ∧ ((m236 123 16).toInt) ≤ (m271 123 16).toInt ∧ (m256 123 12).toInt ≤ (m271 123 12).toInt ∧ (m271 123 12).toInt ≤ (m271 123 13).toInt ∧ (m271 123 13).toInt = (m256 123 13).toInt ∧ (m271 123 17).toInt = 0) ∧ CND (tR m256) (m256 123 12).toInt = (0, (m271 123 12).toInt)) := rv275
            have K274c := K274
            have w276 : (m271 123 13).toInt = (m256 123 13).toInt := congrArg Int32.toInt (K274 123 13 rfl)
            have w277 : (m271 123 18).toInt = (m256 123 18).toInt := congrArg Int32.toInt (K274 123 18 rfl)
            have K274 := K258.trans (K274.sub (wl_sub (by decide)))
            show PV _ _ _ _ _ _ _ 121 [.ref 123, .int v2] [.int v275] _
            have kC := rv275
            have f8 : FR4 m256 m271 := ⟨fun j => K274c 133 j rfl, fun j => K274c 134 j rfl, fun j => K274c 135 j rfl, K274c 123 18 rfl⟩
            rw [kt117, kp117] at kC
            refine pv_if_ne (M := mX12_readsClause) (tgt := 126) dX12_readsClause_121 124 rfl (by decide) (fun c281 => ?_) (fun c281 => ?_)
            · have c281 := iv_ne (X := v275.toInt) (Y := 0) c281 rfl (by decide)
              have kc := (kC.resolve_left (fun q => by have q1 := q.1; omega)).2.1
              have kcC := (kC.resolve_left (fun q => by have q1 := q.1; omega)).2.2
              have kc1 := kc.2.2.2.1
              have kc2 : (m271 123 16).toInt ≤ (m271 123 12).toInt := SLK_cm kc.2.2.1
              have kc3 := kc.2.2.2.2.1
              have kc4 := kc.2.2.2.2.2.1
              have kc5 := kc.2.2.2.2.2.2.1
              refine pv_aload_n (M := mX12_readsClause) 0 dX12_readsClause_126 127 rfl rfl rfl ?_
              refine mv_get (M := mX12_readsClause) (v := .ref 135) dX12_readsClause_127 FX12 26 wd1199 (by decide) (tl123 hT) rfl rfl 130 rfl ?_
              refine pv_aload_n (M := mX12_readsClause) 0 dX12_readsClause_130 131 rfl rfl rfl ?_
              refine iv_get (M := mX12_readsClause) (l1 := 0) (l2 := 12) dX12_readsClause_131 FX12 18 wd1191 (by decide) (tl123 hT) rfl I273 rfl 134 rfl (fun v289 ev289 pv289 qv289 => ?_)
              have wv289 : v289.toInt = (m271 123 18).toInt := congrArg Int32.toInt ev289
              refine pv_aload_n (M := mX12_readsClause) 0 dX12_readsClause_134 135 rfl rfl rfl ?_
              refine iv_get (M := mX12_readsClause) (l1 := 0) (l2 := 180) dX12_readsClause_135 FX12 16 wd1189 (by decide) (tl123 hT) rfl I273 rfl 138 rfl (fun v290 ev290 pv290 qv290 => ?_)
              have wv290 : v290.toInt = (m271 123 16).toInt := congrArg Int32.toInt ev290
              refine iv_iast (M := mX12_readsClause) (X := v289.toInt) (l1 := 0) (l2 := 180) dX12_readsClause_138 (tl135 hT) rfl (by omega) (by omega) I273 (fun _ => rfl) (by omega) (by omega) 139 rfl (fun m291 e294 I292 => ?_)
              have K293 := K274.set e294 rfl
              have w295 : (m291 123 12).toInt = (m271 123 12).toInt := by rw [e294, up2_ne (by omega)]
              have w296 : (m291 123 13).toInt = (m271 123 13).toInt := by rw [e294, up2_ne (by omega)]
              have w297 : (m291 123 16).toInt = (m271 123 16).toInt := by rw [e294, up2_ne (by omega)]
              have w298 : (m291 123 17).toInt = (m271 123 17).toInt := by rw [e294, up2_ne (by omega)]
              have w299 : (m291 123 18).toInt = (m271 123 18).toInt := by rw [e294, up2_ne (by omega)]
              have w300 : (m291 123 14).toInt = (m271 123 14).toInt := by rw [e294, up2_ne (by omega)]
              have w301 : (m291 123 15).toInt = (m271 123 15).toInt := by rw [e294, up2_ne (by omega)]
              have e9 := e294
              refine pv_aload_n (M := mX12_readsClause) 0 dX12_readsClause_139 140 rfl rfl rfl ?_
              refine pv_aload_n (M := mX12_readsClause) 0 dX12_readsClause_140 141 rfl rfl rfl ?_
              refine iv_get (M := mX12_readsClause) (l1 := 0) (l2 := 12) dX12_readsClause_141 FX12 18 wd1191 (by decide) (tl123 hT) rfl I292 rfl 144 rfl (fun v303 ev303 pv303 qv303 => ?_)
              have wv303 : v303.toInt = (m291 123 18).toInt := congrArg Int32.toInt ev303
              refine pv_iconst (M := mX12_readsClause) (v := 1) dX12_readsClause_144 145 rfl (by decide) ?_
              refine iv_iadd (M := mX12_readsClause) (X := v303.toInt) (Y := 1) dX12_readsClause_145 146 rfl rfl (by decide) (by omega) (by omega) (fun v304 ev304 => ?_)
              refine iv_put (M := mX12_readsClause) (l1 := 0) (l2 := 12) dX12_readsClause_146 FX12 18 wd1191 (by decide) rfl (tl123 hT) rfl rfl rfl I292 rfl (by omega) (by omega) 149 rfl (fun m305 e308 I306 => ?_)
              have K307 := K293.set e308 rfl
              have w309 : (m305 123 12).toInt = (m291 123 12).toInt := by rw [e308, up2_ne (by omega)]
              have w310 : (m305 123 13).toInt = (m291 123 13).toInt := by rw [e308, up2_ne (by omega)]
              have w311 : (m305 123 16).toInt = (m291 123 16).toInt := by rw [e308, up2_ne (by omega)]
              have w312 : (m305 123 17).toInt = (m291 123 17).toInt := by rw [e308, up2_ne (by omega)]
              have w313 : (m305 123 18).toInt = v304.toInt := by rw [e308, up2_eq]
              have w314 : (m305 123 14).toInt = (m291 123 14).toInt := by rw [e308, up2_ne (by omega)]
              have w315 : (m305 123 15).toInt = (m291 123 15).toInt := by rw [e308, up2_ne (by omega)]
              refine pv_iconst (M := mX12_readsClause) (v := 1) dX12_readsClause_149 150 rfl (by decide) ?_
              have z316 : (1 : Int32).toInt = 1 := by decide
              exact pv_iret (M := mX12_readsClause) dX12_readsClause_150 rfl rfl ⟨_, _, _, rfl, rfl, I306, K307, by decide, by decide, (Or.inr ⟨by decide, ⟨SX_clause hp2 (m 123 18).toInt.toNat (by omega) e1 e2 e3 (by omega) (by omega) e4 e5 q6.1 q6.2.1 q6.2.2.1 q6.2.2.2.1 e7 (by omega) (by omega) f8 kc.2.1 kc.1 kc.2.2.2.1 e9 (by omega) (by omega) e308 (by omega) (by omega), by omega, by omega, by omega, by omega⟩, by rw [kSU, kcC, show (m271 123 12).toInt = (m305 123 12).toInt by omega], by omega⟩)⟩
            · have c281 := iv_eq (X := v275.toInt) (Y := 0) c281 rfl (by decide)
              refine pv_iconst (M := mX12_readsClause) (v := 0) dX12_readsClause_124 125 rfl (by decide) ?_
              have z317 : (0 : Int32).toInt = 0 := by decide
              exact pv_iret (M := mX12_readsClause) dX12_readsClause_125 rfl rfl ⟨_, _, _, rfl, rfl, I273, K274, by decide, by decide, (Or.inl ⟨by decide, by rw [kSU]; exact (kC.resolve_right (fun q => by have q1 := q.1; omega)).2⟩)⟩
          · have c246 := iv_eq (X := v240.toInt) (Y := 0) c246 rfl (by decide)
            refine pv_iconst (M := mX12_readsClause) (v := 0) dX12_readsClause_102 103 rfl (by decide) ?_
            have z318 : (0 : Int32).toInt = 0 := by decide
            exact pv_iret (M := mX12_readsClause) dX12_readsClause_103 rfl rfl ⟨_, _, _, rfl, rfl, I238, K239, by decide, by decide, (Or.inl ⟨by decide, CLA_pf (by omega) (by omega) (kR.resolve_right (fun q => by have q1 := q.1; omega)).2⟩)⟩
      · have c164 := iv_eq (X := v163.toInt) (Y := 12) c164 rfl (by decide)
        refine pv_aload_n (M := mX12_readsClause) 0 dX12_readsClause_36 37 rfl rfl rfl ?_
        refine pv_iconst (M := mX12_readsClause) (v := 4) dX12_readsClause_37 38 rfl (by decide) ?_
        refine pv_aload_n (M := mX12_readsClause) 0 dX12_readsClause_38 39 rfl rfl rfl ?_
        refine iv_get (M := mX12_readsClause) (l1 := 0) (l2 := 160) dX12_readsClause_39 FX12 12 wd1185 (by decide) (tl123 hT) rfl I rfl 42 rfl (fun v319 ev319 pv319 qv319 => ?_)
        have wv319 : v319.toInt = (m 123 12).toInt := congrArg Int32.toInt ev319
        have z320 : (4 : Int32).toInt = 4 := by decide
        refine pv_callv (M := mX12_readsClause) (as := [.int 4, .int v319]) (st := []) (kc2 := 0) (ks2 := 0) dX12_readsClause_42 wd1421 YX12_wrongAt ⟨wd1423, wd61⟩ (mk_get (tl123 hT)) rfl rfl (s_X12_wrongAt_vx g hT I 4 (by decide) (by decide) v319 (by omega) (by omega)) rfl rfl (Nat.le_of_ble_eq_true rfl) (by decide) rfl rfl 45 rfl (fun rv h1 q321 => ?_)
        obtain ⟨m322, n323, v326, rfl, rfl, I324, K325, pv326, qv326, rv326⟩ := q321
        replace rv326 : (m322 123 14).toInt = -1000 * (4 : Int) - v319.toInt := by have q_ := rv326; (try rw [z320] at q_); exact q_
        have K325c := K325
        have w327 : (m322 123 12).toInt = (m 123 12).toInt := congrArg Int32.toInt (K325 123 12 rfl)
        have w328 : (m322 123 13).toInt = (m 123 13).toInt := congrArg Int32.toInt (K325 123 13 rfl)
        have w329 : (m322 123 16).toInt = (m 123 16).toInt := congrArg Int32.toInt (K325 123 16 rfl)
        have w330 : (m322 123 17).toInt = (m 123 17).toInt := congrArg Int32.toInt (K325 123 17 rfl)
        have w331 : (m322 123 18).toInt = (m 123 18).toInt := congrArg Int32.toInt (K325 123 18 rfl)
        have w332 : (m322 123 15).toInt = (m 123 15).toInt := congrArg Int32.toInt (K325 123 15 rfl)
        have K325 := Kp.trans (K325.sub (wl_sub (by decide)))
        show PV _ _ _ _ _ _ _ 45 [.ref 123, .int v2] [.int v326] _
        exact pv_iret (M := mX12_readsClause) dX12_readsClause_45 rfl (iv_nz (by omega) (by omega)) ⟨_, _, _, rfl, rfl, I324, K325, by omega, by omega, (Or.inl ⟨by omega, CLA_4 (by omega) (by omega) (by omega)⟩)⟩
    · have c162 := iv_ne (X := v2.toInt) (Y := 112) c162 rfl (by decide)
      refine pv_aload_n (M := mX12_readsClause) 0 dX12_readsClause_17 18 rfl rfl rfl ?_
      refine pv_iconst (M := mX12_readsClause) (v := 1) dX12_readsClause_18 19 rfl (by decide) ?_
      refine pv_aload_n (M := mX12_readsClause) 0 dX12_readsClause_19 20 rfl rfl rfl ?_
      refine iv_get (M := mX12_readsClause) (l1 := 0) (l2 := 160) dX12_readsClause_20 FX12 12 wd1185 (by decide) (tl123 hT) rfl I rfl 23 rfl (fun v333 ev333 pv333 qv333 => ?_)
      have wv333 : v333.toInt = (m 123 12).toInt := congrArg Int32.toInt ev333
      have z334 : (1 : Int32).toInt = 1 := by decide
      refine pv_callv (M := mX12_readsClause) (as := [.int 1, .int v333]) (st := []) (kc2 := 0) (ks2 := 0) dX12_readsClause_23 wd1421 YX12_wrongAt ⟨wd1423, wd61⟩ (mk_get (tl123 hT)) rfl rfl (s_X12_wrongAt_vx g hT I 1 (by decide) (by decide) v333 (by omega) (by omega)) rfl rfl (Nat.le_of_ble_eq_true rfl) (by decide) rfl rfl 26 rfl (fun rv h1 q335 => ?_)
      obtain ⟨m336, n337, v340, rfl, rfl, I338, K339, pv340, qv340, rv340⟩ := q335
      replace rv340 : (m336 123 14).toInt = -1000 * (1 : Int) - v333.toInt := by have q_ := rv340; (try rw [z334] at q_); exact q_
      have K339c := K339
      have w341 : (m336 123 12).toInt = (m 123 12).toInt := congrArg Int32.toInt (K339 123 12 rfl)
      have w342 : (m336 123 13).toInt = (m 123 13).toInt := congrArg Int32.toInt (K339 123 13 rfl)
      have w343 : (m336 123 16).toInt = (m 123 16).toInt := congrArg Int32.toInt (K339 123 16 rfl)
      have w344 : (m336 123 17).toInt = (m 123 17).toInt := congrArg Int32.toInt (K339 123 17 rfl)
      have w345 : (m336 123 18).toInt = (m 123 18).toInt := congrArg Int32.toInt (K339 123 18 rfl)
      have w346 : (m336 123 15).toInt = (m 123 15).toInt := congrArg Int32.toInt (K339 123 15 rfl)
      have K339 := Kp.trans (K339.sub (wl_sub (by decide)))
      show PV _ _ _ _ _ _ _ 26 [.ref 123, .int v2] [.int v340] _
      exact pv_iret (M := mX12_readsClause) dX12_readsClause_26 rfl (iv_nz (by omega) (by omega)) ⟨_, _, _, rfl, rfl, I338, K339, by omega, by omega, (Or.inl ⟨by omega, CLA_1 (by omega) (by omega) (by omega)⟩)⟩

set_option maxHeartbeats 2000000 in
set_option maxRecDepth 20000 in
theorem s_X12_law_vy (g : pv_G) {T : List mv_T} {m : Nat → Nat → Int32} {n : Nat → Nat → Int64} {r : Nat → Value} (hT : TX T) (I : IV BB m) (x0 : Int32) (hp0 : LX m) : PM g mX12_law yX12_law (sqI T BB (wl [(123, 123, some 11), (123, 123, some 12), (123, 123, some 13), (123, 123, some 14), (123, 123, some 15), (123, 123, some 16), (123, 123, some 17), (123, 123, some 18), (123, 123, some 19), (123, 123, some 20), (130, 130, none), (131, 131, none), (132, 132, none), (133, 133, none), (134, 134, none), (135, 135, none), (136, 136, none), (137, 137, none), (138, 138, none), (139, 139, none), (140, 140, none)]) r m (-2147483648) 2147483647 (fun m' v => LX m' ∧ LWK x0.toInt (m 123 11).toInt (m' 123 11).toInt ∧ LWV x0.toInt (m 123 11).toInt (tN (m 129) x0.toInt) v.toInt)) 9 0 0 [.ref 123, .int x0] (mk T m n r) := by
  have Kp : fr (wl [(123, 123, some 11), (123, 123, some 12), (123, 123, some 13), (123, 123, some 14), (123, 123, some 15), (123, 123, some 16), (123, 123, some 17), (123, 123, some 18), (123, 123, some 19), (123, 123, some 20), (130, 130, none), (131, 131, none), (132, 132, none), (133, 133, none), (134, 134, none), (135, 135, none), (136, 136, none), (137, 137, none), (138, 138, none), (139, 139, none), (140, 140, none)]) m m := fr.rf
  have z389 : 0 ≤ (m 123 12).toInt ∧ (m 123 12).toInt ≤ 160 := I 123 12
  have z390 : 0 ≤ (m 123 13).toInt ∧ (m 123 13).toInt ≤ 160 := I 123 13
  have z391 : 0 ≤ (m 123 16).toInt ∧ (m 123 16).toInt ≤ 180 := I 123 16
  have z392 : 0 ≤ (m 123 17).toInt ∧ (m 123 17).toInt ≤ 180 := I 123 17
  have z393 : 0 ≤ (m 123 18).toInt ∧ (m 123 18).toInt ≤ 12 := I 123 18
  have z394 : 0 ≤ (m 123 20).toInt ∧ (m 123 20).toInt ≤ 12 := I 123 20
  have z395 : 0 ≤ (m 123 11).toInt ∧ (m 123 11).toInt ≤ 200 := I 123 11
  have z396 : 0 ≤ (m 123 12).toInt ∧ (m 123 12).toInt ≤ 160 := I 123 12
  have z397 : 0 ≤ (m 123 13).toInt ∧ (m 123 13).toInt ≤ 160 := I 123 13
  refine PM.of 2 (lo := [.ref 123, .int x0, pv_U, pv_U]) rfl (by decide) rfl rfl (Nat.le_of_ble_eq_true rfl) ?_
  refine pv_iload_n (M := mX12_law) 1 dX12_law_0 1 rfl rfl rfl ?_
  refine pv_iconst (M := mX12_law) (v := 1) dX12_law_1 2 rfl (by decide) ?_
  refine pv_sipush (M := mX12_law) (v := 160) dX12_law_2 5 rfl (by decide) ?_
  have z1 : (1 : Int32).toInt = 1 := by decide
  have z2 : (160 : Int32).toInt = 160 := by decide
  refine pv_calls (M := mX12_law) (as := [.int x0, .int 1, .int 160]) (st := []) (kc2 := 0) (ks2 := 0) dX12_law_5 wd1370 YX12_in wd1371 (s_X12_in_vx g hT I x0 1 160) rfl rfl (Nat.le_of_ble_eq_true rfl) (by decide) rfl rfl 8 rfl (fun rv h1 q3 => ?_)
  obtain ⟨v4, rfl, rfl, pv4, qv4, rv4⟩ := q3
  replace rv4 : (v4 = 0 ∨ ((1 : Int) ≤ x0.toInt ∧ x0.toInt ≤ (160 : Int))) ∧ ((v4.toInt = 1 ∧ (1 : Int) ≤ x0.toInt ∧ x0.toInt ≤ (160 : Int)) ∨ (v4.toInt = 0 ∧ (x0.toInt < (1 : Int) ∨ (160 : Int) < x0.toInt))) := by have q_ := rv4; (try rw [z1] at q_); (try rw [z2] at q_); exact q_
  show PV _ _ _ _ _ _ _ 8 [.ref 123, .int x0, pv_U, pv_U] [.int v4] _
  refine pv_if_eq (M := mX12_law) (tgt := 19) dX12_law_8 11 rfl (by decide) (fun c5 => ?_) (fun c5 => ?_)
  · have c5 := iv_eq (X := v4.toInt) (Y := 0) c5 rfl (by decide)
    refine pv_iconst (M := mX12_law) (v := (-1)) dX12_law_19 20 rfl (by decide) ?_
    have z6 : ((-1) : Int32).toInt = (-1) := by decide
    exact pv_iret (M := mX12_law) dX12_law_20 rfl rfl ⟨_, _, _, rfl, rfl, I, Kp, by decide, by decide, ⟨hp0, (by first | exact Or.inr ⟨by omega, by omega⟩ | exact Or.inl ⟨by omega, by omega, by omega, by first | omega | decide⟩), Or.inr ⟨by omega, by decide⟩⟩⟩
  · have pc5 := rv4.1.resolve_left c5
    have c5 := iv_ne (X := v4.toInt) (Y := 0) c5 rfl (by decide)
    refine pv_iload_n (M := mX12_law) 1 dX12_law_11 12 rfl rfl rfl ?_
    refine pv_aload_n (M := mX12_law) 0 dX12_law_12 13 rfl rfl rfl ?_
    refine iv_get (M := mX12_law) (l1 := 0) (l2 := 200) dX12_law_13 FX12 11 wd1184 (by decide) (tl123 hT) rfl I rfl 16 rfl (fun v7 ev7 pv7 qv7 => ?_)
    have wv7 : v7.toInt = (m 123 11).toInt := congrArg Int32.toInt ev7
    refine pv_icmp_le (M := mX12_law) (tgt := 21) dX12_law_16 19 rfl (by decide) (fun c8 => ?_) (fun c8 => ?_)
    · have c8 := iv_le (X := x0.toInt) (Y := v7.toInt) c8 rfl rfl
      refine pv_aload_n (M := mX12_law) 0 dX12_law_21 22 rfl rfl rfl ?_
      refine pv_iconst (M := mX12_law) (v := 0) dX12_law_22 23 rfl (by decide) ?_
      refine iv_put (M := mX12_law) (l1 := 0) (l2 := 160) dX12_law_23 FX12 12 wd1185 (by decide) rfl (tl123 hT) rfl rfl rfl I rfl (by decide) (by decide) 26 rfl (fun m9 e12 I10 => ?_)
      have K11 := Kp.set e12 rfl
      have w13 : (m9 123 12).toInt = 0 := by rw [e12, up2_eq] <;> rfl
      have w14 : (m9 123 13).toInt = (m 123 13).toInt := by rw [e12, up2_ne (by omega)]
      have w15 : (m9 123 16).toInt = (m 123 16).toInt := by rw [e12, up2_ne (by omega)]
      have w16 : (m9 123 17).toInt = (m 123 17).toInt := by rw [e12, up2_ne (by omega)]
      have w17 : (m9 123 18).toInt = (m 123 18).toInt := by rw [e12, up2_ne (by omega)]
      have w18 : (m9 123 20).toInt = (m 123 20).toInt := by rw [e12, up2_ne (by omega)]
      have w19 : (m9 123 11).toInt = (m 123 11).toInt := by rw [e12, up2_ne (by omega)]
      have w20 : (m9 123 14).toInt = (m 123 14).toInt := by rw [e12, up2_ne (by omega)]
      have w21 : (m9 123 12).toInt = 0 := by rw [e12, up2_eq] <;> rfl
      have w22 : (m9 123 13).toInt = (m 123 13).toInt := by rw [e12, up2_ne (by omega)]
      refine pv_aload_n (M := mX12_law) 0 dX12_law_26 27 rfl rfl rfl ?_
      refine pv_iload_n (M := mX12_law) 1 dX12_law_27 28 rfl rfl rfl ?_
      refine iv_put (M := mX12_law) (l1 := 0) (l2 := 160) dX12_law_28 FX12 13 wd1186 (by decide) rfl (tl123 hT) rfl rfl rfl I10 rfl (by omega) (by omega) 31 rfl (fun m23 e26 I24 => ?_)
      have K25 := K11.set e26 rfl
      have w27 : (m23 123 12).toInt = (m9 123 12).toInt := by rw [e26, up2_ne (by omega)]
      have w28 : (m23 123 13).toInt = x0.toInt := by rw [e26, up2_eq]
      have w29 : (m23 123 16).toInt = (m9 123 16).toInt := by rw [e26, up2_ne (by omega)]
      have w30 : (m23 123 17).toInt = (m9 123 17).toInt := by rw [e26, up2_ne (by omega)]
      have w31 : (m23 123 18).toInt = (m9 123 18).toInt := by rw [e26, up2_ne (by omega)]
      have w32 : (m23 123 20).toInt = (m9 123 20).toInt := by rw [e26, up2_ne (by omega)]
      have w33 : (m23 123 11).toInt = (m9 123 11).toInt := by rw [e26, up2_ne (by omega)]
      have w34 : (m23 123 14).toInt = (m9 123 14).toInt := by rw [e26, up2_ne (by omega)]
      have w35 : (m23 123 12).toInt = (m9 123 12).toInt := by rw [e26, up2_ne (by omega)]
      have w36 : (m23 123 13).toInt = x0.toInt := by rw [e26, up2_eq]
      refine pv_aload_n (M := mX12_law) 0 dX12_law_31 32 rfl rfl rfl ?_
      refine pv_iconst (M := mX12_law) (v := 0) dX12_law_32 33 rfl (by decide) ?_
      refine iv_put (M := mX12_law) (l1 := 0) (l2 := 180) dX12_law_33 FX12 16 wd1189 (by decide) rfl (tl123 hT) rfl rfl rfl I24 rfl (by decide) (by decide) 36 rfl (fun m37 e40 I38 => ?_)
      have K39 := K25.set e40 rfl
      have w41 : (m37 123 12).toInt = (m23 123 12).toInt := by rw [e40, up2_ne (by omega)]
      have w42 : (m37 123 13).toInt = (m23 123 13).toInt := by rw [e40, up2_ne (by omega)]
      have w43 : (m37 123 16).toInt = 0 := by rw [e40, up2_eq] <;> rfl
      have w44 : (m37 123 17).toInt = (m23 123 17).toInt := by rw [e40, up2_ne (by omega)]
      have w45 : (m37 123 18).toInt = (m23 123 18).toInt := by rw [e40, up2_ne (by omega)]
      have w46 : (m37 123 20).toInt = (m23 123 20).toInt := by rw [e40, up2_ne (by omega)]
      have w47 : (m37 123 11).toInt = (m23 123 11).toInt := by rw [e40, up2_ne (by omega)]
      have w48 : (m37 123 14).toInt = (m23 123 14).toInt := by rw [e40, up2_ne (by omega)]
      have w49 : (m37 123 12).toInt = (m23 123 12).toInt := by rw [e40, up2_ne (by omega)]
      have w50 : (m37 123 13).toInt = (m23 123 13).toInt := by rw [e40, up2_ne (by omega)]
      refine pv_aload_n (M := mX12_law) 0 dX12_law_36 37 rfl rfl rfl ?_
      refine pv_iconst (M := mX12_law) (v := 0) dX12_law_37 38 rfl (by decide) ?_
      refine iv_put (M := mX12_law) (l1 := 0) (l2 := 12) dX12_law_38 FX12 18 wd1191 (by decide) rfl (tl123 hT) rfl rfl rfl I38 rfl (by decide) (by decide) 41 rfl (fun m51 e54 I52 => ?_)
      have K53 := K39.set e54 rfl
      have w55 : (m51 123 12).toInt = (m37 123 12).toInt := by rw [e54, up2_ne (by omega)]
      have w56 : (m51 123 13).toInt = (m37 123 13).toInt := by rw [e54, up2_ne (by omega)]
      have w57 : (m51 123 16).toInt = (m37 123 16).toInt := by rw [e54, up2_ne (by omega)]
      have w58 : (m51 123 17).toInt = (m37 123 17).toInt := by rw [e54, up2_ne (by omega)]
      have w59 : (m51 123 18).toInt = 0 := by rw [e54, up2_eq] <;> rfl
      have w60 : (m51 123 20).toInt = (m37 123 20).toInt := by rw [e54, up2_ne (by omega)]
      have w61 : (m51 123 11).toInt = (m37 123 11).toInt := by rw [e54, up2_ne (by omega)]
      have w62 : (m51 123 14).toInt = (m37 123 14).toInt := by rw [e54, up2_ne (by omega)]
      have w63 : (m51 123 12).toInt = (m37 123 12).toInt := by rw [e54, up2_ne (by omega)]
      have w64 : (m51 123 13).toInt = (m37 123 13).toInt := by rw [e54, up2_ne (by omega)]
      have kl1 : LX m51 := LX_eq hp0 (by rw [e54, e40, e26, e12, up2_ne (by omega), up2_ne (by omega), up2_ne (by omega), up2_ne (by omega)]) (fun j => by rw [e54, e40, e26, e12, up2_ne (by omega), up2_ne (by omega), up2_ne (by omega), up2_ne (by omega)]) (fun j => by rw [e54, e40, e26, e12, up2_ne (by omega), up2_ne (by omega), up2_ne (by omega), up2_ne (by omega)]) (fun j => by rw [e54, e40, e26, e12, up2_ne (by omega), up2_ne (by omega), up2_ne (by omega), up2_ne (by omega)]) (fun j => by rw [e54, e40, e26, e12, up2_ne (by omega), up2_ne (by omega), up2_ne (by omega), up2_ne (by omega)])
      have kt41 : tR m51 = (tN (m 129) x0.toInt) := tR_N (by omega) (fun j => K53 129 j rfl)
      have kz41 : (m51 123 12).toInt = 0 ∧ (m51 123 18).toInt = 0 := ⟨by omega, by omega⟩
      have kz41b := kz41.1
      have kz41c := kz41.2
      refine pv_aload_n (M := mX12_law) 0 dX12_law_41 42 rfl rfl rfl ?_
      refine pv_callv (M := mX12_law) (as := []) (st := []) (kc2 := 0) (ks2 := 0) dX12_law_42 wd1413 YX12_readsClause ⟨wd1415, wd59⟩ (mk_get (tl123 hT)) rfl rfl (s_X12_readsClause_vy g hT I52 (by omega) (by omega) (SX_0 (by omega))) rfl rfl (Nat.le_of_ble_eq_true rfl) (by decide) rfl rfl 45 rfl (fun rv h1 q70 => ?_)
      obtain ⟨m71, n72, v75, rfl, rfl, I73, K74, pv75, qv75, rv75⟩ := q70
      replace rv75 : (v75.toInt = 0 ∧ FLT (CLA (tR m51) (m51 123 18).toInt (m51 123 12).toInt) (m71 123 14).toInt) ∨ (v75.toInt = 1 ∧ (SX m71 ∧ (m71 123 16).toInt ≤ (m71 123 12).toInt ∧ (m51 123 12).toInt + 1 ≤ (m71 123 12).toInt ∧ (m71 123 12).toInt ≤ (m71 123 13).toInt ∧ (m71 123 13).toInt = (m51 123 13).toInt) ∧ CLA (tR m51) (m51 123 18).toInt (m51 123 12).toInt = (0, (m71 123 12).toInt) ∧ (m71 123 18).toInt = (m51 123 18).toInt + 1) := rv75
      have K74c := K74
      have w76 : (m71 123 13).toInt = (m51 123 13).toInt := congrArg Int32.toInt (K74 123 13 rfl)
      have w77 : (m71 123 20).toInt = (m51 123 20).toInt := congrArg Int32.toInt (K74 123 20 rfl)
      have w78 : (m71 123 11).toInt = (m51 123 11).toInt := congrArg Int32.toInt (K74 123 11 rfl)
      have w79 : (m71 123 13).toInt = (m51 123 13).toInt := congrArg Int32.toInt (K74 123 13 rfl)
      have K74 := K53.trans (K74.sub (wl_sub (by decide)))
      show PV _ _ _ _ _ _ _ 45 [.ref 123, .int x0, pv_U, pv_U] [.int v75] _
      have kRa := rv75
      have kl0 : LX m71 := LX_eq kl1 (K74c 123 20 rfl) (fun j => K74c 136 j rfl) (fun j => K74c 138 j rfl) (fun j => K74c 139 j rfl) (fun j => K74c 140 j rfl)
      have kg0 : v75.toInt ≠ 0 → SX m71 ∧ (m71 123 16).toInt ≤ (m71 123 12).toInt ∧ (m71 123 12).toInt ≤ (m71 123 13).toInt := fun q => by have z := (kRa.resolve_left (fun w => q w.1)).2.1; exact ⟨z.1, z.2.1, z.2.2.2.1⟩
      rw [kt41, kz41b, kz41c] at kRa
      have kj1 : v75.toInt ≠ 0 → LWA (tN (m 129) x0.toInt) x0.toInt 14 0 0 = LWC (tN (m 129) x0.toInt) x0.toInt (14 - (m71 123 18).toInt).toNat (m71 123 18).toInt (m71 123 12).toInt := fun q => by rw [show (14 - (m71 123 18).toInt).toNat = 13 by have := (kRa.resolve_left (fun w => q w.1)).2.2.2; omega, show (m71 123 18).toInt = 0 + 1 from (kRa.resolve_left (fun w => q w.1)).2.2.2]; exact LWA_o (kRa.resolve_left (fun w => q w.1)).2.2.1
      have kj0 : v75.toInt = 0 → LWA (tN (m 129) x0.toInt) x0.toInt 14 0 0 = (m71 123 14).toInt := fun q => LWA_f (kRa.resolve_right (fun w => by have w1 := w.1; omega)).2
      refine pv_istore_n (M := mX12_law) 2 (lo2 := [.ref 123, .int x0, .int v75, pv_U]) dX12_law_45 46 rfl rfl (by decide) rfl rfl ?_
      have lp92 : ∀ (fuel91 : Nat) (y86 : Int32) (m87 : Nat → Nat → Int32) (n88 : Nat → Nat → Int64), (0 ≤ y86.toInt) → (y86.toInt ≤ 1) → (LX m87) → (y86.toInt ≠ 0 → SX m87 ∧ (m87 123 16).toInt ≤ (m87 123 12).toInt ∧ (m87 123 12).toInt ≤ (m87 123 13).toInt) → ((m87 123 11).toInt = (m 123 11).toInt) → ((m87 123 13).toInt = x0.toInt) → ((y86).toInt ≠ 0 → LWA (tN (m 129) x0.toInt) x0.toInt 14 0 0 = LWC (tN (m 129) x0.toInt) x0.toInt (14 - (m87 123 18).toInt).toNat (m87 123 18).toInt (m87 123 12).toInt) → ((y86).toInt = 0 → LWA (tN (m 129) x0.toInt) x0.toInt 14 0 0 = (m87 123 14).toInt) → IV BB m87 → fr (wl [(123, 123, some 11), (123, 123, some 12), (123, 123, some 13), (123, 123, some 14), (123, 123, some 15), (123, 123, some 16), (123, 123, some 17), (123, 123, some 18), (123, 123, some 19), (123, 123, some 20), (130, 130, none), (131, 131, none), (132, 132, none), (133, 133, none), (134, 134, none), (135, 135, none), (136, 136, none), (137, 137, none), (138, 138, none), (139, 139, none), (140, 140, none)]) m m87 → ((400 * y86.toInt + (160 - (m87 123 12).toInt)) : Int).toNat < fuel91 → PV none g mX12_law (sqI T BB (wl [(123, 123, some 11), (123, 123, some 12), (123, 123, some 13), (123, 123, some 14), (123, 123, some 15), (123, 123, some 16), (123, 123, some 17), (123, 123, some 18), (123, 123, some 19), (123, 123, some 20), (130, 130, none), (131, 131, none), (132, 132, none), (133, 133, none), (134, 134, none), (135, 135, none), (136, 136, none), (137, 137, none), (138, 138, none), (139, 139, none), (140, 140, none)]) r m (-2147483648) 2147483647 (fun m' v => LX m' ∧ LWK x0.toInt (m 123 11).toInt (m' 123 11).toInt ∧ LWV x0.toInt (m 123 11).toInt (tN (m 129) x0.toInt) v.toInt)) 9 0 0 46 [.ref 123, .int x0, .int y86, pv_U] [] (mk T m87 n88 r) := by
        intro fuel91
        induction fuel91 with
        | zero => intro y86 m87 n88 b94 b95 b96 b97 b98 b99 b100 b101 I89 K90 z102; omega
        | succ fuel91 ih93 =>
          intro y86 m87 n88 b94 b95 b96 b97 b98 b99 b100 b101 I89 K90 z102
          have z103 : 0 ≤ (m87 123 12).toInt ∧ (m87 123 12).toInt ≤ 160 := I89 123 12
          have z104 : 0 ≤ (m87 123 13).toInt ∧ (m87 123 13).toInt ≤ 160 := I89 123 13
          have z105 : 0 ≤ (m87 123 16).toInt ∧ (m87 123 16).toInt ≤ 180 := I89 123 16
          have z106 : 0 ≤ (m87 123 17).toInt ∧ (m87 123 17).toInt ≤ 180 := I89 123 17
          have z107 : 0 ≤ (m87 123 18).toInt ∧ (m87 123 18).toInt ≤ 12 := I89 123 18
          have z108 : 0 ≤ (m87 123 20).toInt ∧ (m87 123 20).toInt ≤ 12 := I89 123 20
          have z109 : 0 ≤ (m87 123 11).toInt ∧ (m87 123 11).toInt ≤ 200 := I89 123 11
          have z110 : 0 ≤ (m87 123 12).toInt ∧ (m87 123 12).toInt ≤ 160 := I89 123 12
          have z111 : 0 ≤ (m87 123 13).toInt ∧ (m87 123 13).toInt ≤ 160 := I89 123 13
          have kl := (show LX m87 by assumption)
          have kg := (show y86.toInt ≠ 0 → SX m87 ∧ (m87 123 16).toInt ≤ (m87 123 12).toInt ∧ (m87 123 12).toInt ≤ (m87 123 13).toInt by assumption)
          have kgj1 := (show (y86).toInt ≠ 0 → LWA (tN (m 129) x0.toInt) x0.toInt 14 0 0 = LWC (tN (m 129) x0.toInt) x0.toInt (14 - (m87 123 18).toInt).toNat (m87 123 18).toInt (m87 123 12).toInt by assumption)
          have kgj0 := (show (y86).toInt = 0 → LWA (tN (m 129) x0.toInt) x0.toInt 14 0 0 = (m87 123 14).toInt by assumption)
          have kt46 : tR m87 = (tN (m 129) x0.toInt) := tR_N (by omega) (fun j => K90 129 j rfl)
          refine pv_iload_n (M := mX12_law) 2 dX12_law_46 47 rfl rfl rfl ?_
          refine pv_if_eq (M := mX12_law) (tgt := 86) dX12_law_47 50 rfl (by decide) (fun c117 => ?_) (fun c117 => ?_)
          · have c117 := iv_eq (X := y86.toInt) (Y := 0) c117 rfl (by decide)
            refine pv_aload_n (M := mX12_law) 0 dX12_law_86 87 rfl rfl rfl ?_
            refine pv_iconst (M := mX12_law) (v := 0) dX12_law_87 88 rfl (by decide) ?_
            refine iv_put (M := mX12_law) (l1 := 0) (l2 := 200) dX12_law_88 FX12 11 wd1184 (by decide) rfl (tl123 hT) rfl rfl rfl I89 rfl (by decide) (by decide) 91 rfl (fun m118 e121 I119 => ?_)
            have K120 := K90.set e121 rfl
            have w122 : (m118 123 12).toInt = (m87 123 12).toInt := by rw [e121, up2_ne (by omega)]
            have w123 : (m118 123 13).toInt = (m87 123 13).toInt := by rw [e121, up2_ne (by omega)]
            have w124 : (m118 123 16).toInt = (m87 123 16).toInt := by rw [e121, up2_ne (by omega)]
            have w125 : (m118 123 17).toInt = (m87 123 17).toInt := by rw [e121, up2_ne (by omega)]
            have w126 : (m118 123 18).toInt = (m87 123 18).toInt := by rw [e121, up2_ne (by omega)]
            have w127 : (m118 123 20).toInt = (m87 123 20).toInt := by rw [e121, up2_ne (by omega)]
            have w128 : (m118 123 11).toInt = 0 := by rw [e121, up2_eq] <;> rfl
            have w129 : (m118 123 14).toInt = (m87 123 14).toInt := by rw [e121, up2_ne (by omega)]
            have w130 : (m118 123 12).toInt = (m87 123 12).toInt := by rw [e121, up2_ne (by omega)]
            have w131 : (m118 123 13).toInt = (m87 123 13).toInt := by rw [e121, up2_ne (by omega)]
            refine pv_iload_n (M := mX12_law) 2 dX12_law_91 92 rfl rfl rfl ?_
            refine pv_if_ne (M := mX12_law) (tgt := 100) dX12_law_92 95 rfl (by decide) (fun c132 => ?_) (fun c132 => ?_)
            · have c132 := iv_ne (X := y86.toInt) (Y := 0) c132 rfl (by decide)
              omega
            · have c132 := iv_eq (X := y86.toInt) (Y := 0) c132 rfl (by decide)
              have klz : LX m118 := LX_eq kl (by rw [e121, up2_ne (by omega)]) (fun j => by rw [e121, up2_ne (by omega)]) (fun j => by rw [e121, up2_ne (by omega)]) (fun j => by rw [e121, up2_ne (by omega)]) (fun j => by rw [e121, up2_ne (by omega)])
              refine pv_aload_n (M := mX12_law) 0 dX12_law_95 96 rfl rfl rfl ?_
              refine iv_get (M := mX12_law) (l1 := (-2147483648)) (l2 := 2147483647) dX12_law_96 FX12 14 wd1187 (by decide) (tl123 hT) rfl I119 rfl 99 rfl (fun v134 ev134 pv134 qv134 => ?_)
              have wv134 : v134.toInt = (m118 123 14).toInt := congrArg Int32.toInt ev134
              have k99 : v134.toInt = (m118 123 14).toInt := congrArg Int32.toInt ev134
              exact pv_iret (M := mX12_law) dX12_law_99 rfl rfl ⟨_, _, _, rfl, rfl, I119, K120, (iv_rng v134).1, (iv_rng v134).2, ⟨klz, (by first | exact Or.inr ⟨by omega, by omega⟩ | exact Or.inl ⟨by omega, by omega, by omega, by first | omega | decide⟩), Or.inl ⟨by omega, by omega, by omega, by rw [kgj0 (by omega)]; omega⟩⟩⟩
          · have c117 := iv_ne (X := y86.toInt) (Y := 0) c117 rfl (by decide)
            have kG := kg (by omega)
            have kG2 := kG.2.1
            have kG3 := kG.2.2
            have kJ1 := kgj1 (by omega)
            refine pv_aload_n (M := mX12_law) 0 dX12_law_50 51 rfl rfl rfl ?_
            refine iv_get (M := mX12_law) (l1 := 0) (l2 := 160) dX12_law_51 FX12 12 wd1185 (by decide) (tl123 hT) rfl I89 rfl 54 rfl (fun v140 ev140 pv140 qv140 => ?_)
            have wv140 : v140.toInt = (m87 123 12).toInt := congrArg Int32.toInt ev140
            refine pv_aload_n (M := mX12_law) 0 dX12_law_54 55 rfl rfl rfl ?_
            refine iv_get (M := mX12_law) (l1 := 0) (l2 := 160) dX12_law_55 FX12 13 wd1186 (by decide) (tl123 hT) rfl I89 rfl 58 rfl (fun v141 ev141 pv141 qv141 => ?_)
            have wv141 : v141.toInt = (m87 123 13).toInt := congrArg Int32.toInt ev141
            refine pv_icmp_ge (M := mX12_law) (tgt := 86) dX12_law_58 61 rfl (by decide) (fun c142 => ?_) (fun c142 => ?_)
            · have c142 := iv_le (X := v141.toInt) (Y := v140.toInt) c142 rfl rfl
              refine pv_aload_n (M := mX12_law) 0 dX12_law_86 87 rfl rfl rfl ?_
              refine pv_iconst (M := mX12_law) (v := 0) dX12_law_87 88 rfl (by decide) ?_
              refine iv_put (M := mX12_law) (l1 := 0) (l2 := 200) dX12_law_88 FX12 11 wd1184 (by decide) rfl (tl123 hT) rfl rfl rfl I89 rfl (by decide) (by decide) 91 rfl (fun m143 e146 I144 => ?_)
              have K145 := K90.set e146 rfl
              have w147 : (m143 123 12).toInt = (m87 123 12).toInt := by rw [e146, up2_ne (by omega)]
              have w148 : (m143 123 13).toInt = (m87 123 13).toInt := by rw [e146, up2_ne (by omega)]
              have w149 : (m143 123 16).toInt = (m87 123 16).toInt := by rw [e146, up2_ne (by omega)]
              have w150 : (m143 123 17).toInt = (m87 123 17).toInt := by rw [e146, up2_ne (by omega)]
              have w151 : (m143 123 18).toInt = (m87 123 18).toInt := by rw [e146, up2_ne (by omega)]
              have w152 : (m143 123 20).toInt = (m87 123 20).toInt := by rw [e146, up2_ne (by omega)]
              have w153 : (m143 123 11).toInt = 0 := by rw [e146, up2_eq] <;> rfl
              have w154 : (m143 123 14).toInt = (m87 123 14).toInt := by rw [e146, up2_ne (by omega)]
              have w155 : (m143 123 12).toInt = (m87 123 12).toInt := by rw [e146, up2_ne (by omega)]
              have w156 : (m143 123 13).toInt = (m87 123 13).toInt := by rw [e146, up2_ne (by omega)]
              refine pv_iload_n (M := mX12_law) 2 dX12_law_91 92 rfl rfl rfl ?_
              refine pv_if_ne (M := mX12_law) (tgt := 100) dX12_law_92 95 rfl (by decide) (fun c157 => ?_) (fun c157 => ?_)
              · have c157 := iv_ne (X := y86.toInt) (Y := 0) c157 rfl (by decide)
                have kG := kg (by omega)
                have kG2 := kG.2.1
                have kG3 := kG.2.2
                have kJ2 : LWA (tN (m 129) x0.toInt) x0.toInt 14 0 0 = (m87 123 18).toInt := by rw [kgj1 (by omega)]; exact LWC_e (by omega)
                refine pv_aload_n (M := mX12_law) 0 dX12_law_100 101 rfl rfl rfl ?_
                refine pv_aload_n (M := mX12_law) 0 dX12_law_101 102 rfl rfl rfl ?_
                refine iv_get (M := mX12_law) (l1 := 0) (l2 := 12) dX12_law_102 FX12 18 wd1191 (by decide) (tl123 hT) rfl I144 rfl 105 rfl (fun v162 ev162 pv162 qv162 => ?_)
                have wv162 : v162.toInt = (m143 123 18).toInt := congrArg Int32.toInt ev162
                refine iv_put (M := mX12_law) (l1 := 0) (l2 := 12) dX12_law_105 FX12 20 wd1193 (by decide) rfl (tl123 hT) rfl rfl rfl I144 rfl (by omega) (by omega) 108 rfl (fun m163 e166 I164 => ?_)
                have K165 := K145.set e166 rfl
                have w167 : (m163 123 12).toInt = (m143 123 12).toInt := by rw [e166, up2_ne (by omega)]
                have w168 : (m163 123 13).toInt = (m143 123 13).toInt := by rw [e166, up2_ne (by omega)]
                have w169 : (m163 123 16).toInt = (m143 123 16).toInt := by rw [e166, up2_ne (by omega)]
                have w170 : (m163 123 17).toInt = (m143 123 17).toInt := by rw [e166, up2_ne (by omega)]
                have w171 : (m163 123 18).toInt = (m143 123 18).toInt := by rw [e166, up2_ne (by omega)]
                have w172 : (m163 123 20).toInt = v162.toInt := by rw [e166, up2_eq]
                have w173 : (m163 123 11).toInt = (m143 123 11).toInt := by rw [e166, up2_ne (by omega)]
                have w174 : (m163 123 14).toInt = (m143 123 14).toInt := by rw [e166, up2_ne (by omega)]
                have w175 : (m163 123 12).toInt = (m143 123 12).toInt := by rw [e166, up2_ne (by omega)]
                have w176 : (m163 123 13).toInt = (m143 123 13).toInt := by rw [e166, up2_ne (by omega)]
                refine pv_iconst (M := mX12_law) (v := 0) dX12_law_108 109 rfl (by decide) ?_
                refine pv_istore_n (M := mX12_law) 3 (lo2 := [.ref 123, .int x0, .int y86, .int 0]) dX12_law_109 110 rfl rfl (by decide) rfl rfl ?_
                have lp183 : ∀ (fuel182 : Nat) (y177 : Int32) (m178 : Nat → Nat → Int32) (n179 : Nat → Nat → Int64), (0 ≤ y177.toInt) → (y177.toInt ≤ 180) → (SX m178) → ((m178 123 16).toInt ≤ 179) → ((m178 123 20).toInt = (m178 123 18).toInt) → (∀ j : Nat, (j : Int) < y177.toInt → m178 136 j = m178 130 j) → ((m178 123 11).toInt = 0) → (LWA (tN (m 129) x0.toInt) x0.toInt 14 0 0 = (m178 123 18).toInt) → IV BB m178 → fr (wl [(123, 123, some 11), (123, 123, some 12), (123, 123, some 13), (123, 123, some 14), (123, 123, some 15), (123, 123, some 16), (123, 123, some 17), (123, 123, some 18), (123, 123, some 19), (123, 123, some 20), (130, 130, none), (131, 131, none), (132, 132, none), (133, 133, none), (134, 134, none), (135, 135, none), (136, 136, none), (137, 137, none), (138, 138, none), (139, 139, none), (140, 140, none)]) m m178 → ((180 - y177.toInt) : Int).toNat < fuel182 → PV none g mX12_law (sqI T BB (wl [(123, 123, some 11), (123, 123, some 12), (123, 123, some 13), (123, 123, some 14), (123, 123, some 15), (123, 123, some 16), (123, 123, some 17), (123, 123, some 18), (123, 123, some 19), (123, 123, some 20), (130, 130, none), (131, 131, none), (132, 132, none), (133, 133, none), (134, 134, none), (135, 135, none), (136, 136, none), (137, 137, none), (138, 138, none), (139, 139, none), (140, 140, none)]) r m (-2147483648) 2147483647 (fun m' v => LX m' ∧ LWK x0.toInt (m 123 11).toInt (m' 123 11).toInt ∧ LWV x0.toInt (m 123 11).toInt (tN (m 129) x0.toInt) v.toInt)) 9 0 0 110 [.ref 123, .int x0, .int y86, .int y177] [] (mk T m178 n179 r) := by
                  intro fuel182
                  induction fuel182 with
                  | zero => intro y177 m178 n179 b185 b186 b187 b188 b189 b190 b191 b192 I180 K181 z193; omega
                  | succ fuel182 ih184 =>
                    intro y177 m178 n179 b185 b186 b187 b188 b189 b190 b191 b192 I180 K181 z193
                    have z194 : 0 ≤ (m178 123 12).toInt ∧ (m178 123 12).toInt ≤ 160 := I180 123 12
                    have z195 : 0 ≤ (m178 123 13).toInt ∧ (m178 123 13).toInt ≤ 160 := I180 123 13
                    have z196 : 0 ≤ (m178 123 16).toInt ∧ (m178 123 16).toInt ≤ 180 := I180 123 16
                    have z197 : 0 ≤ (m178 123 17).toInt ∧ (m178 123 17).toInt ≤ 180 := I180 123 17
                    have z198 : 0 ≤ (m178 123 18).toInt ∧ (m178 123 18).toInt ≤ 12 := I180 123 18
                    have z199 : 0 ≤ (m178 123 20).toInt ∧ (m178 123 20).toInt ≤ 12 := I180 123 20
                    have z200 : 0 ≤ (m178 123 11).toInt ∧ (m178 123 11).toInt ≤ 200 := I180 123 11
                    have z201 : 0 ≤ (m178 123 12).toInt ∧ (m178 123 12).toInt ≤ 160 := I180 123 12
                    have z202 : 0 ≤ (m178 123 13).toInt ∧ (m178 123 13).toInt ≤ 160 := I180 123 13
                    have ks := (show SX m178 by assumption)
                    have kc := (show ∀ j : Nat, (j : Int) < y177.toInt → m178 136 j = m178 130 j by assumption)
                    refine pv_iload_n (M := mX12_law) 3 dX12_law_110 111 rfl rfl rfl ?_
                    refine pv_aload_n (M := mX12_law) 0 dX12_law_111 112 rfl rfl rfl ?_
                    refine iv_get (M := mX12_law) (l1 := 0) (l2 := 180) dX12_law_112 FX12 16 wd1189 (by decide) (tl123 hT) rfl I180 rfl 115 rfl (fun v205 ev205 pv205 qv205 => ?_)
                    have wv205 : v205.toInt = (m178 123 16).toInt := congrArg Int32.toInt ev205
                    refine pv_icmp_ge (M := mX12_law) (tgt := 136) dX12_law_115 118 rfl (by decide) (fun c206 => ?_) (fun c206 => ?_)
                    · have c206 := iv_le (X := v205.toInt) (Y := y177.toInt) c206 rfl rfl
                      refine pv_iconst (M := mX12_law) (v := 0) dX12_law_136 137 rfl (by decide) ?_
                      refine pv_istore_n (M := mX12_law) 3 (lo2 := [.ref 123, .int x0, .int y86, .int 0]) dX12_law_137 138 rfl rfl (by decide) rfl rfl ?_
                      have lp213 : ∀ (fuel212 : Nat) (y207 : Int32) (m208 : Nat → Nat → Int32) (n209 : Nat → Nat → Int64), (0 ≤ y207.toInt) → (y207.toInt ≤ 12) → (SX m208) → ((m208 123 16).toInt ≤ 179) → ((m208 123 20).toInt = (m208 123 18).toInt) → (∀ j : Nat, (j : Int) < (m208 123 16).toInt → m208 136 j = m208 130 j) → (∀ j : Nat, (j : Int) < y207.toInt → m208 138 j = m208 133 j ∧ m208 139 j = m208 134 j ∧ m208 140 j = m208 135 j) → ((m208 123 11).toInt = 0) → (LWA (tN (m 129) x0.toInt) x0.toInt 14 0 0 = (m208 123 18).toInt) → IV BB m208 → fr (wl [(123, 123, some 11), (123, 123, some 12), (123, 123, some 13), (123, 123, some 14), (123, 123, some 15), (123, 123, some 16), (123, 123, some 17), (123, 123, some 18), (123, 123, some 19), (123, 123, some 20), (130, 130, none), (131, 131, none), (132, 132, none), (133, 133, none), (134, 134, none), (135, 135, none), (136, 136, none), (137, 137, none), (138, 138, none), (139, 139, none), (140, 140, none)]) m m208 → ((12 - y207.toInt) : Int).toNat < fuel212 → PV none g mX12_law (sqI T BB (wl [(123, 123, some 11), (123, 123, some 12), (123, 123, some 13), (123, 123, some 14), (123, 123, some 15), (123, 123, some 16), (123, 123, some 17), (123, 123, some 18), (123, 123, some 19), (123, 123, some 20), (130, 130, none), (131, 131, none), (132, 132, none), (133, 133, none), (134, 134, none), (135, 135, none), (136, 136, none), (137, 137, none), (138, 138, none), (139, 139, none), (140, 140, none)]) r m (-2147483648) 2147483647 (fun m' v => LX m' ∧ LWK x0.toInt (m 123 11).toInt (m' 123 11).toInt ∧ LWV x0.toInt (m 123 11).toInt (tN (m 129) x0.toInt) v.toInt)) 9 0 0 138 [.ref 123, .int x0, .int y86, .int y207] [] (mk T m208 n209 r) := by
                        intro fuel212
                        induction fuel212 with
                        | zero => intro y207 m208 n209 b215 b216 b217 b218 b219 b220 b221 b222 b223 I210 K211 z224; omega
                        | succ fuel212 ih214 =>
                          intro y207 m208 n209 b215 b216 b217 b218 b219 b220 b221 b222 b223 I210 K211 z224
                          have z225 : 0 ≤ (m208 123 12).toInt ∧ (m208 123 12).toInt ≤ 160 := I210 123 12
                          have z226 : 0 ≤ (m208 123 13).toInt ∧ (m208 123 13).toInt ≤ 160 := I210 123 13
                          have z227 : 0 ≤ (m208 123 16).toInt ∧ (m208 123 16).toInt ≤ 180 := I210 123 16
                          have z228 : 0 ≤ (m208 123 17).toInt ∧ (m208 123 17).toInt ≤ 180 := I210 123 17
                          have z229 : 0 ≤ (m208 123 18).toInt ∧ (m208 123 18).toInt ≤ 12 := I210 123 18
                          have z230 : 0 ≤ (m208 123 20).toInt ∧ (m208 123 20).toInt ≤ 12 := I210 123 20
                          have z231 : 0 ≤ (m208 123 11).toInt ∧ (m208 123 11).toInt ≤ 200 := I210 123 11
                          have z232 : 0 ≤ (m208 123 12).toInt ∧ (m208 123 12).toInt ≤ 160 := I210 123 12
                          have z233 : 0 ≤ (m208 123 13).toInt ∧ (m208 123 13).toInt ≤ 160 := I210 123 13
                          have ks := (show SX m208 by assumption)
                          have kc := (show ∀ j : Nat, (j : Int) < (m208 123 16).toInt → m208 136 j = m208 130 j by assumption)
                          have kd := (show ∀ j : Nat, (j : Int) < y207.toInt → m208 138 j = m208 133 j ∧ m208 139 j = m208 134 j ∧ m208 140 j = m208 135 j by assumption)
                          refine pv_iload_n (M := mX12_law) 3 dX12_law_138 139 rfl rfl rfl ?_
                          refine pv_aload_n (M := mX12_law) 0 dX12_law_139 140 rfl rfl rfl ?_
                          refine iv_get (M := mX12_law) (l1 := 0) (l2 := 12) dX12_law_140 FX12 18 wd1191 (by decide) (tl123 hT) rfl I210 rfl 143 rfl (fun v237 ev237 pv237 qv237 => ?_)
                          have wv237 : v237.toInt = (m208 123 18).toInt := congrArg Int32.toInt ev237
                          refine pv_icmp_ge (M := mX12_law) (tgt := 200) dX12_law_143 146 rfl (by decide) (fun c238 => ?_) (fun c238 => ?_)
                          · have c238 := iv_le (X := v237.toInt) (Y := y207.toInt) c238 rfl rfl
                            refine pv_aload_n (M := mX12_law) 0 dX12_law_200 201 rfl rfl rfl ?_
                            refine iv_get (M := mX12_law) (l1 := 0) (l2 := 12) dX12_law_201 FX12 18 wd1191 (by decide) (tl123 hT) rfl I210 rfl 204 rfl (fun v239 ev239 pv239 qv239 => ?_)
                            have wv239 : v239.toInt = (m208 123 18).toInt := congrArg Int32.toInt ev239
                            have k204 : v239.toInt = (m208 123 18).toInt := congrArg Int32.toInt ev239
                            exact pv_iret (M := mX12_law) dX12_law_204 rfl rfl ⟨_, _, _, rfl, rfl, I210, K211, (iv_rng v239).1, (iv_rng v239).2, ⟨(LX_of ks (by omega) (by omega) kc (fun j hj => kd j (by omega))), (by first | exact Or.inr ⟨by omega, by omega⟩ | exact Or.inl ⟨by omega, by omega, by omega, by first | omega | decide⟩), Or.inl ⟨by omega, by omega, by omega, by omega⟩⟩⟩
                          · have c238 := iv_nle (X := v237.toInt) (Y := y207.toInt) c238 rfl rfl
                            refine pv_aload_n (M := mX12_law) 0 dX12_law_146 147 rfl rfl rfl ?_
                            refine mv_get (M := mX12_law) (v := .ref 137) dX12_law_147 FX12 28 wd1201 (by decide) (tl123 hT) rfl rfl 150 rfl ?_
                            refine pv_iload_n (M := mX12_law) 3 dX12_law_150 151 rfl rfl rfl ?_
                            refine pv_aload_n (M := mX12_law) 0 dX12_law_151 152 rfl rfl rfl ?_
                            refine mv_get (M := mX12_law) (v := .ref 132) dX12_law_152 FX12 23 wd1196 (by decide) (tl123 hT) rfl rfl 155 rfl ?_
                            refine pv_iload_n (M := mX12_law) 3 dX12_law_155 156 rfl rfl rfl ?_
                            refine iv_iald (M := mX12_law) (X := y207.toInt) (l1 := (-2147483648)) (l2 := 2147483647) dX12_law_156 (tl132 hT) rfl (by omega) (by omega) I210 (fun _ => rfl) 157 rfl (fun v241 ev241 pv241 qv241 => ?_)
                            refine iv_iast (M := mX12_law) (X := y207.toInt) (l1 := (-2147483648)) (l2 := 2147483647) dX12_law_157 (tl137 hT) rfl (by omega) (by omega) I210 (fun _ => rfl) (iv_rng v241).1 (iv_rng v241).2 158 rfl (fun m242 e245 I243 => ?_)
                            have K244 := K211.set e245 rfl
                            have w246 : (m242 123 12).toInt = (m208 123 12).toInt := by rw [e245, up2_ne (by omega)]
                            have w247 : (m242 123 13).toInt = (m208 123 13).toInt := by rw [e245, up2_ne (by omega)]
                            have w248 : (m242 123 16).toInt = (m208 123 16).toInt := by rw [e245, up2_ne (by omega)]
                            have w249 : (m242 123 17).toInt = (m208 123 17).toInt := by rw [e245, up2_ne (by omega)]
                            have w250 : (m242 123 18).toInt = (m208 123 18).toInt := by rw [e245, up2_ne (by omega)]
                            have w251 : (m242 123 20).toInt = (m208 123 20).toInt := by rw [e245, up2_ne (by omega)]
                            have w252 : (m242 123 11).toInt = (m208 123 11).toInt := by rw [e245, up2_ne (by omega)]
                            have w253 : (m242 123 14).toInt = (m208 123 14).toInt := by rw [e245, up2_ne (by omega)]
                            have w254 : (m242 123 12).toInt = (m208 123 12).toInt := by rw [e245, up2_ne (by omega)]
                            have w255 : (m242 123 13).toInt = (m208 123 13).toInt := by rw [e245, up2_ne (by omega)]
                            refine pv_aload_n (M := mX12_law) 0 dX12_law_158 159 rfl rfl rfl ?_
                            refine mv_get (M := mX12_law) (v := .ref 138) dX12_law_159 FX12 29 wd1202 (by decide) (tl123 hT) rfl rfl 162 rfl ?_
                            refine pv_iload_n (M := mX12_law) 3 dX12_law_162 163 rfl rfl rfl ?_
                            refine pv_aload_n (M := mX12_law) 0 dX12_law_163 164 rfl rfl rfl ?_
                            refine mv_get (M := mX12_law) (v := .ref 133) dX12_law_164 FX12 24 wd1197 (by decide) (tl123 hT) rfl rfl 167 rfl ?_
                            refine pv_iload_n (M := mX12_law) 3 dX12_law_167 168 rfl rfl rfl ?_
                            refine iv_iald (M := mX12_law) (X := y207.toInt) (l1 := 0) (l2 := 180) dX12_law_168 (tl133 hT) rfl (by omega) (by omega) I243 (fun _ => rfl) 169 rfl (fun v256 ev256 pv256 qv256 => ?_)
                            have k169 := ev256
                            refine iv_iast (M := mX12_law) (X := y207.toInt) (l1 := 0) (l2 := 180) dX12_law_169 (tl138 hT) rfl (by omega) (by omega) I243 (fun _ => rfl) (by omega) (by omega) 170 rfl (fun m258 e261 I259 => ?_)
                            have K260 := K244.set e261 rfl
                            have w262 : (m258 123 12).toInt = (m242 123 12).toInt := by rw [e261, up2_ne (by omega)]
                            have w263 : (m258 123 13).toInt = (m242 123 13).toInt := by rw [e261, up2_ne (by omega)]
                            have w264 : (m258 123 16).toInt = (m242 123 16).toInt := by rw [e261, up2_ne (by omega)]
                            have w265 : (m258 123 17).toInt = (m242 123 17).toInt := by rw [e261, up2_ne (by omega)]
                            have w266 : (m258 123 18).toInt = (m242 123 18).toInt := by rw [e261, up2_ne (by omega)]
                            have w267 : (m258 123 20).toInt = (m242 123 20).toInt := by rw [e261, up2_ne (by omega)]
                            have w268 : (m258 123 11).toInt = (m242 123 11).toInt := by rw [e261, up2_ne (by omega)]
                            have w269 : (m258 123 14).toInt = (m242 123 14).toInt := by rw [e261, up2_ne (by omega)]
                            have w270 : (m258 123 12).toInt = (m242 123 12).toInt := by rw [e261, up2_ne (by omega)]
                            have w271 : (m258 123 13).toInt = (m242 123 13).toInt := by rw [e261, up2_ne (by omega)]
                            refine pv_aload_n (M := mX12_law) 0 dX12_law_170 171 rfl rfl rfl ?_
                            refine mv_get (M := mX12_law) (v := .ref 139) dX12_law_171 FX12 30 wd1203 (by decide) (tl123 hT) rfl rfl 174 rfl ?_
                            refine pv_iload_n (M := mX12_law) 3 dX12_law_174 175 rfl rfl rfl ?_
                            refine pv_aload_n (M := mX12_law) 0 dX12_law_175 176 rfl rfl rfl ?_
                            refine mv_get (M := mX12_law) (v := .ref 134) dX12_law_176 FX12 25 wd1198 (by decide) (tl123 hT) rfl rfl 179 rfl ?_
                            refine pv_iload_n (M := mX12_law) 3 dX12_law_179 180 rfl rfl rfl ?_
                            refine iv_iald (M := mX12_law) (X := y207.toInt) (l1 := 0) (l2 := 180) dX12_law_180 (tl134 hT) rfl (by omega) (by omega) I259 (fun _ => rfl) 181 rfl (fun v272 ev272 pv272 qv272 => ?_)
                            have k181 := ev272
                            refine iv_iast (M := mX12_law) (X := y207.toInt) (l1 := 0) (l2 := 180) dX12_law_181 (tl139 hT) rfl (by omega) (by omega) I259 (fun _ => rfl) (by omega) (by omega) 182 rfl (fun m274 e277 I275 => ?_)
                            have K276 := K260.set e277 rfl
                            have w278 : (m274 123 12).toInt = (m258 123 12).toInt := by rw [e277, up2_ne (by omega)]
                            have w279 : (m274 123 13).toInt = (m258 123 13).toInt := by rw [e277, up2_ne (by omega)]
                            have w280 : (m274 123 16).toInt = (m258 123 16).toInt := by rw [e277, up2_ne (by omega)]
                            have w281 : (m274 123 17).toInt = (m258 123 17).toInt := by rw [e277, up2_ne (by omega)]
                            have w282 : (m274 123 18).toInt = (m258 123 18).toInt := by rw [e277, up2_ne (by omega)]
                            have w283 : (m274 123 20).toInt = (m258 123 20).toInt := by rw [e277, up2_ne (by omega)]
                            have w284 : (m274 123 11).toInt = (m258 123 11).toInt := by rw [e277, up2_ne (by omega)]
                            have w285 : (m274 123 14).toInt = (m258 123 14).toInt := by rw [e277, up2_ne (by omega)]
                            have w286 : (m274 123 12).toInt = (m258 123 12).toInt := by rw [e277, up2_ne (by omega)]
                            have w287 : (m274 123 13).toInt = (m258 123 13).toInt := by rw [e277, up2_ne (by omega)]
                            refine pv_aload_n (M := mX12_law) 0 dX12_law_182 183 rfl rfl rfl ?_
                            refine mv_get (M := mX12_law) (v := .ref 140) dX12_law_183 FX12 31 wd1204 (by decide) (tl123 hT) rfl rfl 186 rfl ?_
                            refine pv_iload_n (M := mX12_law) 3 dX12_law_186 187 rfl rfl rfl ?_
                            refine pv_aload_n (M := mX12_law) 0 dX12_law_187 188 rfl rfl rfl ?_
                            refine mv_get (M := mX12_law) (v := .ref 135) dX12_law_188 FX12 26 wd1199 (by decide) (tl123 hT) rfl rfl 191 rfl ?_
                            refine pv_iload_n (M := mX12_law) 3 dX12_law_191 192 rfl rfl rfl ?_
                            refine iv_iald (M := mX12_law) (X := y207.toInt) (l1 := 0) (l2 := 180) dX12_law_192 (tl135 hT) rfl (by omega) (by omega) I275 (fun _ => rfl) 193 rfl (fun v288 ev288 pv288 qv288 => ?_)
                            have k193 := ev288
                            refine iv_iast (M := mX12_law) (X := y207.toInt) (l1 := 0) (l2 := 180) dX12_law_193 (tl140 hT) rfl (by omega) (by omega) I275 (fun _ => rfl) (by omega) (by omega) 194 rfl (fun m290 e293 I291 => ?_)
                            have K292 := K276.set e293 rfl
                            have w294 : (m290 123 12).toInt = (m274 123 12).toInt := by rw [e293, up2_ne (by omega)]
                            have w295 : (m290 123 13).toInt = (m274 123 13).toInt := by rw [e293, up2_ne (by omega)]
                            have w296 : (m290 123 16).toInt = (m274 123 16).toInt := by rw [e293, up2_ne (by omega)]
                            have w297 : (m290 123 17).toInt = (m274 123 17).toInt := by rw [e293, up2_ne (by omega)]
                            have w298 : (m290 123 18).toInt = (m274 123 18).toInt := by rw [e293, up2_ne (by omega)]
                            have w299 : (m290 123 20).toInt = (m274 123 20).toInt := by rw [e293, up2_ne (by omega)]
                            have w300 : (m290 123 11).toInt = (m274 123 11).toInt := by rw [e293, up2_ne (by omega)]
                            have w301 : (m290 123 14).toInt = (m274 123 14).toInt := by rw [e293, up2_ne (by omega)]
                            have w302 : (m290 123 12).toInt = (m274 123 12).toInt := by rw [e293, up2_ne (by omega)]
                            have w303 : (m290 123 13).toInt = (m274 123 13).toInt := by rw [e293, up2_ne (by omega)]
                            refine iv_inc (M := mX12_law) (C := 1) dX12_law_194 197 rfl rfl (by decide) rfl rfl (by decide) (by omega) (by omega) (fun v304 ev304 => ?_)
                            show PV _ _ _ _ _ _ _ 197 [.ref 123, .int x0, .int y86, .int v304] [] _
                            refine pv_goto (M := mX12_law) (tgt := 138) dX12_law_197 (by decide) ?_
                            have ksb1 : SX m290 := SX_eq ks (by rw [e293, e277, e261, e245, up2_ne (by omega), up2_ne (by omega), up2_ne (by omega), up2_ne (by omega)]) (by rw [e293, e277, e261, e245, up2_ne (by omega), up2_ne (by omega), up2_ne (by omega), up2_ne (by omega)]) (fun j => by rw [e293, e277, e261, e245, up2_ne (by omega), up2_ne (by omega), up2_ne (by omega), up2_ne (by omega)]) (fun j => by rw [e293, e277, e261, e245, up2_ne (by omega), up2_ne (by omega), up2_ne (by omega), up2_ne (by omega)]) (fun j => by rw [e293, e277, e261, e245, up2_ne (by omega), up2_ne (by omega), up2_ne (by omega), up2_ne (by omega)]) (fun j => by rw [e293, e277, e261, e245, up2_ne (by omega), up2_ne (by omega), up2_ne (by omega), up2_ne (by omega)])
                            have kcb1 : ∀ j : Nat, (j : Int) < (m290 123 16).toInt → m290 136 j = m290 130 j := fun j hj => (show m290 136 j = m208 136 j by rw [e293, e277, e261, e245, up2_ne (by omega), up2_ne (by omega), up2_ne (by omega), up2_ne (by omega)]).trans ((kc j (by omega)).trans (show m208 130 j = m290 130 j by rw [e293, e277, e261, e245, up2_ne (by omega), up2_ne (by omega), up2_ne (by omega), up2_ne (by omega)]))
                            have kdb : ∀ j : Nat, (j : Int) < v304.toInt → m290 138 j = m290 133 j ∧ m290 139 j = m290 134 j ∧ m290 140 j = m290 135 j := fun j hj => LW_step e245 e261 e277 e293 k169 k181 k193 kd (by omega)
                            exact ih214 v304 m290 n209 (by first | omega | assumption | exact (iv_rng _).2 | exact (iv_rng _).1 | decide) (by first | omega | assumption | exact (iv_rng _).2 | exact (iv_rng _).1 | decide) ksb1 (by first | omega | assumption | (show (m290 123 16).toInt ≤ 179; omega) | decide) (by first | omega | assumption | (show (m290 123 20).toInt = (m290 123 18).toInt; omega) | decide) kcb1 kdb (by first | omega | assumption | (show (m290 123 11).toInt = 0; omega) | decide) (by first | omega | assumption | (show LWA (tN (m 129) x0.toInt) x0.toInt 14 0 0 = (m290 123 18).toInt; omega) | decide) I291 K292 (by omega)
                      have z308 : (0 : Int32).toInt = 0 := by decide
                      have ks1 := ks
                      have kcx : ∀ j : Nat, (j : Int) < (m178 123 16).toInt → m178 136 j = m178 130 j := fun j hj => kc j (by omega)
                      exact lp213 (((12 - 0) : Int).toNat + 1) 0 m178 n179 (by first | omega | assumption | exact (iv_rng _).2 | exact (iv_rng _).1 | decide) (by first | omega | assumption | exact (iv_rng _).2 | exact (iv_rng _).1 | decide) ks1 (by first | omega | assumption | (show (m178 123 16).toInt ≤ 179; omega) | decide) (by first | omega | assumption | (show (m178 123 20).toInt = (m178 123 18).toInt; omega) | decide) kcx (fun j hj => by omega) (by first | omega | assumption | (show (m178 123 11).toInt = 0; omega) | decide) (by first | omega | assumption | (show LWA (tN (m 129) x0.toInt) x0.toInt 14 0 0 = (m178 123 18).toInt; omega) | decide) I180 K181 (by omega)
                    · have c206 := iv_nle (X := v205.toInt) (Y := y177.toInt) c206 rfl rfl
                      refine pv_aload_n (M := mX12_law) 0 dX12_law_118 119 rfl rfl rfl ?_
                      refine mv_get (M := mX12_law) (v := .ref 136) dX12_law_119 FX12 27 wd1200 (by decide) (tl123 hT) rfl rfl 122 rfl ?_
                      refine pv_iload_n (M := mX12_law) 3 dX12_law_122 123 rfl rfl rfl ?_
                      refine pv_aload_n (M := mX12_law) 0 dX12_law_123 124 rfl rfl rfl ?_
                      refine mv_get (M := mX12_law) (v := .ref 130) dX12_law_124 FX12 21 wd1194 (by decide) (tl123 hT) rfl rfl 127 rfl ?_
                      refine pv_iload_n (M := mX12_law) 3 dX12_law_127 128 rfl rfl rfl ?_
                      refine iv_iald (M := mX12_law) (X := y177.toInt) (l1 := 0) (l2 := 13631487) dX12_law_128 (tl130 hT) rfl (by omega) (by omega) I180 (fun _ => rfl) 129 rfl (fun v311 ev311 pv311 qv311 => ?_)
                      have k129 := ev311
                      refine iv_iast (M := mX12_law) (X := y177.toInt) (l1 := 0) (l2 := 13631487) dX12_law_129 (tl136 hT) rfl (by omega) (by omega) I180 (fun _ => rfl) (by omega) (by omega) 130 rfl (fun m313 e316 I314 => ?_)
                      have K315 := K181.set e316 rfl
                      have w317 : (m313 123 12).toInt = (m178 123 12).toInt := by rw [e316, up2_ne (by omega)]
                      have w318 : (m313 123 13).toInt = (m178 123 13).toInt := by rw [e316, up2_ne (by omega)]
                      have w319 : (m313 123 16).toInt = (m178 123 16).toInt := by rw [e316, up2_ne (by omega)]
                      have w320 : (m313 123 17).toInt = (m178 123 17).toInt := by rw [e316, up2_ne (by omega)]
                      have w321 : (m313 123 18).toInt = (m178 123 18).toInt := by rw [e316, up2_ne (by omega)]
                      have w322 : (m313 123 20).toInt = (m178 123 20).toInt := by rw [e316, up2_ne (by omega)]
                      have w323 : (m313 123 11).toInt = (m178 123 11).toInt := by rw [e316, up2_ne (by omega)]
                      have w324 : (m313 123 14).toInt = (m178 123 14).toInt := by rw [e316, up2_ne (by omega)]
                      have w325 : (m313 123 12).toInt = (m178 123 12).toInt := by rw [e316, up2_ne (by omega)]
                      have w326 : (m313 123 13).toInt = (m178 123 13).toInt := by rw [e316, up2_ne (by omega)]
                      refine iv_inc (M := mX12_law) (C := 1) dX12_law_130 133 rfl rfl (by decide) rfl rfl (by decide) (by omega) (by omega) (fun v327 ev327 => ?_)
                      show PV _ _ _ _ _ _ _ 133 [.ref 123, .int x0, .int y86, .int v327] [] _
                      refine pv_goto (M := mX12_law) (tgt := 110) dX12_law_133 (by decide) ?_
                      have ksb : SX m313 := SX_eq ks (by rw [e316, up2_ne (by omega)]) (by rw [e316, up2_ne (by omega)]) (fun j => by rw [e316, up2_ne (by omega)]) (fun j => by rw [e316, up2_ne (by omega)]) (fun j => by rw [e316, up2_ne (by omega)]) (fun j => by rw [e316, up2_ne (by omega)])
                      have kcb : ∀ j : Nat, (j : Int) < v327.toInt → m313 136 j = m313 130 j := fun j hj => by rw [e316]; exact (if q : j = (y177.toInt).toNat then (by rw [q, up2_f, up2_ne (by omega)]; exact k129) else (by rw [up2_ne (fun z => q z.2), up2_ne (by omega)]; exact kc j (by omega)))
                      exact ih184 v327 m313 n179 (by first | omega | assumption | exact (iv_rng _).2 | exact (iv_rng _).1 | decide) (by first | omega | assumption | exact (iv_rng _).2 | exact (iv_rng _).1 | decide) ksb (by first | omega | assumption | (show (m313 123 16).toInt ≤ 179; omega) | decide) (by first | omega | assumption | (show (m313 123 20).toInt = (m313 123 18).toInt; omega) | decide) kcb (by first | omega | assumption | (show (m313 123 11).toInt = 0; omega) | decide) (by first | omega | assumption | (show LWA (tN (m 129) x0.toInt) x0.toInt 14 0 0 = (m313 123 18).toInt; omega) | decide) I314 K315 (by omega)
                have z330 : (0 : Int32).toInt = 0 := by decide
                have ks0 : SX m163 := SX_eq kG.1 (by rw [e166, e146, up2_ne (by omega), up2_ne (by omega)]) (by rw [e166, e146, up2_ne (by omega), up2_ne (by omega)]) (fun j => by rw [e166, e146, up2_ne (by omega), up2_ne (by omega)]) (fun j => by rw [e166, e146, up2_ne (by omega), up2_ne (by omega)]) (fun j => by rw [e166, e146, up2_ne (by omega), up2_ne (by omega)]) (fun j => by rw [e166, e146, up2_ne (by omega), up2_ne (by omega)])
                exact lp183 (((180 - 0) : Int).toNat + 1) 0 m163 n88 (by first | omega | assumption | exact (iv_rng _).2 | exact (iv_rng _).1 | decide) (by first | omega | assumption | exact (iv_rng _).2 | exact (iv_rng _).1 | decide) ks0 (by first | omega | assumption | (show (m163 123 16).toInt ≤ 179; omega) | decide) (by first | omega | assumption | (show (m163 123 20).toInt = (m163 123 18).toInt; omega) | decide) (fun j hj => by omega) (by first | omega | assumption | (show (m163 123 11).toInt = 0; omega) | decide) (by first | omega | assumption | (show LWA (tN (m 129) x0.toInt) x0.toInt 14 0 0 = (m163 123 18).toInt; omega) | decide) I164 K165 (by omega)
              · have c157 := iv_eq (X := y86.toInt) (Y := 0) c157 rfl (by decide)
                omega
            · have c142 := iv_nle (X := v141.toInt) (Y := v140.toInt) c142 rfl rfl
              refine pv_aload_n (M := mX12_law) 0 dX12_law_61 62 rfl rfl rfl ?_
              refine pv_bipush (M := mX12_law) (v := 59) dX12_law_62 64 rfl (by decide) ?_
              have z332 : (59 : Int32).toInt = 59 := by decide
              refine pv_callv (M := mX12_law) (as := [.int 59]) (st := []) (kc2 := 0) (ks2 := 0) dX12_law_64 wd1488 YX12_takes ⟨wd1490, wd76⟩ (mk_get (tl123 hT)) rfl rfl (s_X12_takes_vx g hT I89 59 (by decide) (by decide) (by first | omega | assumption | exact (iv_rng _).2 | exact (iv_rng _).1 | decide)) rfl rfl (Nat.le_of_ble_eq_true rfl) (by decide) rfl rfl 67 rfl (fun rv h1 q333 => ?_)
              obtain ⟨m334, n335, v338, rfl, rfl, I336, K337, pv338, qv338, rv338⟩ := q333
              replace rv338 : ((v338.toInt = 0 ∨ (m334 123 12).toInt = (m87 123 12).toInt + 1) ∧ (m87 123 12).toInt ≤ (m334 123 12).toInt ∧ (m334 123 12).toInt ≤ (m334 123 13).toInt ∧ (m334 123 13).toInt = (m87 123 13).toInt) ∧ ((v338.toInt = 1 ∧ tR m87 (m87 123 12).toInt = (59 : Int) ∧ (m334 123 12).toInt = (m87 123 12).toInt + 1) ∨ (v338.toInt = 0 ∧ tR m87 (m87 123 12).toInt ≠ (59 : Int) ∧ (m334 123 14).toInt = -1000 - (m87 123 12).toInt)) := by have q_ := rv338; (try rw [z332] at q_); exact q_
              have K337c := K337
              have w339 : (m334 123 13).toInt = (m87 123 13).toInt := congrArg Int32.toInt (K337 123 13 rfl)
              have w340 : (m334 123 16).toInt = (m87 123 16).toInt := congrArg Int32.toInt (K337 123 16 rfl)
              have w341 : (m334 123 17).toInt = (m87 123 17).toInt := congrArg Int32.toInt (K337 123 17 rfl)
              have w342 : (m334 123 18).toInt = (m87 123 18).toInt := congrArg Int32.toInt (K337 123 18 rfl)
              have w343 : (m334 123 20).toInt = (m87 123 20).toInt := congrArg Int32.toInt (K337 123 20 rfl)
              have w344 : (m334 123 11).toInt = (m87 123 11).toInt := congrArg Int32.toInt (K337 123 11 rfl)
              have w345 : (m334 123 13).toInt = (m87 123 13).toInt := congrArg Int32.toInt (K337 123 13 rfl)
              have K337 := K90.trans (K337.sub (wl_sub (by decide)))
              show PV _ _ _ _ _ _ _ 67 [.ref 123, .int x0, .int y86, pv_U] [.int v338] _
              have kl2 : LX m334 := LX_eq kl (K337c 123 20 rfl) (fun j => K337c 136 j rfl) (fun j => K337c 138 j rfl) (fun j => K337c 139 j rfl) (fun j => K337c 140 j rfl)
              have kT : SX m334 := SX_eq kG.1 (K337c 123 18 rfl) (K337c 123 16 rfl) (fun j => K337c 130 j rfl) (fun j => K337c 133 j rfl) (fun j => K337c 134 j rfl) (fun j => K337c 135 j rfl)
              have klx : LX m334 := kl2
              have k67 := rv338.2
              rw [kt46] at k67
              have kt67 : tR m334 = (tN (m 129) x0.toInt) := tR_N (by omega) (fun j => K337 129 j rfl)
              refine pv_if_eq (M := mX12_law) (tgt := 81) dX12_law_67 70 rfl (by decide) (fun c352 => ?_) (fun c352 => ?_)
              · have c352 := iv_eq (X := v338.toInt) (Y := 0) c352 rfl (by decide)
                refine pv_iconst (M := mX12_law) (v := 0) dX12_law_81 82 rfl (by decide) ?_
                refine pv_istore_n (M := mX12_law) 2 (lo2 := [.ref 123, .int x0, .int 0, pv_U]) dX12_law_82 83 rfl rfl (by decide) rfl rfl ?_
                refine pv_goto (M := mX12_law) (tgt := 46) dX12_law_83 (by decide) ?_
                have z353 : (0 : Int32).toInt = 0 := by decide
                have klb := klx
                have kub : 0 ≤ (m334 123 12).toInt := (I336 123 12).1
                have kgb : ((0 : Int32)).toInt ≠ 0 → SX m334 ∧ (m334 123 16).toInt ≤ (m334 123 12).toInt ∧ (m334 123 12).toInt ≤ (m334 123 13).toInt := fun q => by first | omega | (have z := (kRa.resolve_left (fun q => by have q1 := q.1; omega)).2.1; exact ⟨z.1, z.2.1, z.2.2.2.1⟩)
                have kmm : 0 = 0 ∨ (m87 123 12).toInt + 1 ≤ (m334 123 12).toInt := by first | omega | (have z := (kRa.resolve_left (fun q => by have q1 := q.1; omega)).2.1; have z2 := z.2.2.1; omega)
                have kjb1 : ((0 : Int32)).toInt ≠ 0 → LWA (tN (m 129) x0.toInt) x0.toInt 14 0 0 = LWC (tN (m 129) x0.toInt) x0.toInt (14 - (m334 123 18).toInt).toNat (m334 123 18).toInt (m334 123 12).toInt := fun q => by first | (exfalso; omega) | (have z := (kRa.resolve_left (fun q => by have q1 := q.1; omega)).2; have z2 := z.2.2; rw [kJ1, LWC_y (by omega) (by omega), show (m87 123 12).toInt + 1 = (m334 123 12).toInt by omega, show (14 - (m87 123 18).toInt).toNat = (14 - (m334 123 18).toInt).toNat + 1 by omega, show (m87 123 18).toInt = (m334 123 18).toInt by omega, LWA_o z.2.1, z2])
                have kjb0 : ((0 : Int32)).toInt = 0 → LWA (tN (m 129) x0.toInt) x0.toInt 14 0 0 = (m334 123 14).toInt := fun q => by first | (exfalso; omega) | (rw [kJ1, LWC_n (f := (m334 123 14).toInt) (by omega) (by omega) (by omega)]) | (have z := (kRa.resolve_right (fun q => by have q1 := q.1; omega)).2; rw [kJ1, LWC_y (by omega) (by omega), show (m87 123 12).toInt + 1 = (m334 123 12).toInt by omega, show (14 - (m87 123 18).toInt).toNat = (13 - (m87 123 18).toInt).toNat + 1 by omega, show (m87 123 18).toInt = (m334 123 18).toInt by omega]; exact LWA_f z)
                exact ih93 0 m334 n335 (by first | omega | assumption | exact (iv_rng _).2 | exact (iv_rng _).1 | decide) (by first | omega | assumption | exact (iv_rng _).2 | exact (iv_rng _).1 | decide) klb kgb (by first | omega | assumption | (show (m334 123 11).toInt = (m 123 11).toInt; omega) | decide) (by first | omega | assumption | (show (m334 123 13).toInt = x0.toInt; omega) | decide) kjb1 kjb0 I336 K337 (by omega)
              · have c352 := iv_ne (X := v338.toInt) (Y := 0) c352 rfl (by decide)
                refine pv_aload_n (M := mX12_law) 0 dX12_law_70 71 rfl rfl rfl ?_
                refine pv_callv (M := mX12_law) (as := []) (st := []) (kc2 := 0) (ks2 := 0) dX12_law_71 wd1413 YX12_readsClause ⟨wd1415, wd59⟩ (mk_get (tl123 hT)) rfl rfl (s_X12_readsClause_vy g hT I336 (by omega) (by omega) kT) rfl rfl (Nat.le_of_ble_eq_true rfl) (by decide) rfl rfl 74 rfl (fun rv h1 q360 => ?_)
                obtain ⟨m361, n362, v365, rfl, rfl, I363, K364, pv365, qv365, rv365⟩ := q360
                replace rv365 : (v365.toInt = 0 ∧ FLT (CLA (tR m334) (m334 123 18).toInt (m334 123 12).toInt) (m361 123 14).toInt) ∨ (v365.toInt = 1 ∧ (SX m361 ∧ (m361 123 16).toInt ≤ (m361 123 12).toInt ∧ (m334 123 12).toInt + 1 ≤ (m361 123 12).toInt ∧ (m361 123 12).toInt ≤ (m361 123 13).toInt ∧ (m361 123 13).toInt = (m334 123 13).toInt) ∧ CLA (tR m334) (m334 123 18).toInt (m334 123 12).toInt = (0, (m361 123 12).toInt) ∧ (m361 123 18).toInt = (m334 123 18).toInt + 1) := rv365
                have K364c := K364
                have w366 : (m361 123 13).toInt = (m334 123 13).toInt := congrArg Int32.toInt (K364 123 13 rfl)
                have w367 : (m361 123 20).toInt = (m334 123 20).toInt := congrArg Int32.toInt (K364 123 20 rfl)
                have w368 : (m361 123 11).toInt = (m334 123 11).toInt := congrArg Int32.toInt (K364 123 11 rfl)
                have w369 : (m361 123 13).toInt = (m334 123 13).toInt := congrArg Int32.toInt (K364 123 13 rfl)
                have K364 := K337.trans (K364.sub (wl_sub (by decide)))
                show PV _ _ _ _ _ _ _ 74 [.ref 123, .int x0, .int y86, pv_U] [.int v365] _
                have kRa := rv365
                have klx : LX m361 := LX_eq kl2 (K364c 123 20 rfl) (fun j => K364c 136 j rfl) (fun j => K364c 138 j rfl) (fun j => K364c 139 j rfl) (fun j => K364c 140 j rfl)
                rw [kt67] at kRa
                refine pv_if_eq (M := mX12_law) (tgt := 81) dX12_law_74 77 rfl (by decide) (fun c373 => ?_) (fun c373 => ?_)
                · have c373 := iv_eq (X := v365.toInt) (Y := 0) c373 rfl (by decide)
                  refine pv_iconst (M := mX12_law) (v := 0) dX12_law_81 82 rfl (by decide) ?_
                  refine pv_istore_n (M := mX12_law) 2 (lo2 := [.ref 123, .int x0, .int 0, pv_U]) dX12_law_82 83 rfl rfl (by decide) rfl rfl ?_
                  refine pv_goto (M := mX12_law) (tgt := 46) dX12_law_83 (by decide) ?_
                  have z374 : (0 : Int32).toInt = 0 := by decide
                  have klb := klx
                  have kub : 0 ≤ (m361 123 12).toInt := (I363 123 12).1
                  have kgb : ((0 : Int32)).toInt ≠ 0 → SX m361 ∧ (m361 123 16).toInt ≤ (m361 123 12).toInt ∧ (m361 123 12).toInt ≤ (m361 123 13).toInt := fun q => by first | omega | (have z := (kRa.resolve_left (fun q => by have q1 := q.1; omega)).2.1; exact ⟨z.1, z.2.1, z.2.2.2.1⟩)
                  have kmm : 0 = 0 ∨ (m87 123 12).toInt + 1 ≤ (m361 123 12).toInt := by first | omega | (have z := (kRa.resolve_left (fun q => by have q1 := q.1; omega)).2.1; have z2 := z.2.2.1; omega)
                  have kjb1 : ((0 : Int32)).toInt ≠ 0 → LWA (tN (m 129) x0.toInt) x0.toInt 14 0 0 = LWC (tN (m 129) x0.toInt) x0.toInt (14 - (m361 123 18).toInt).toNat (m361 123 18).toInt (m361 123 12).toInt := fun q => by first | (exfalso; omega) | (have z := (kRa.resolve_left (fun q => by have q1 := q.1; omega)).2; have z2 := z.2.2; rw [kJ1, LWC_y (by omega) (by omega), show (m87 123 12).toInt + 1 = (m334 123 12).toInt by omega, show (14 - (m87 123 18).toInt).toNat = (14 - (m361 123 18).toInt).toNat + 1 by omega, show (m87 123 18).toInt = (m334 123 18).toInt by omega, LWA_o z.2.1, z2])
                  have kjb0 : ((0 : Int32)).toInt = 0 → LWA (tN (m 129) x0.toInt) x0.toInt 14 0 0 = (m361 123 14).toInt := fun q => by first | (exfalso; omega) | (rw [kJ1, LWC_n (f := (m361 123 14).toInt) (by omega) (by omega) (by omega)]) | (have z := (kRa.resolve_right (fun q => by have q1 := q.1; omega)).2; rw [kJ1, LWC_y (by omega) (by omega), show (m87 123 12).toInt + 1 = (m334 123 12).toInt by omega, show (14 - (m87 123 18).toInt).toNat = (13 - (m87 123 18).toInt).toNat + 1 by omega, show (m87 123 18).toInt = (m334 123 18).toInt by omega]; exact LWA_f z)
                  exact ih93 0 m361 n362 (by first | omega | assumption | exact (iv_rng _).2 | exact (iv_rng _).1 | decide) (by first | omega | assumption | exact (iv_rng _).2 | exact (iv_rng _).1 | decide) klb kgb (by first | omega | assumption | (show (m361 123 11).toInt = (m 123 11).toInt; omega) | decide) (by first | omega | assumption | (show (m361 123 13).toInt = x0.toInt; omega) | decide) kjb1 kjb0 I363 K364 (by omega)
                · have c373 := iv_ne (X := v365.toInt) (Y := 0) c373 rfl (by decide)
                  refine pv_iconst (M := mX12_law) (v := 1) dX12_law_77 78 rfl (by decide) ?_
                  refine pv_goto (M := mX12_law) (tgt := 82) dX12_law_78 (by decide) ?_
                  refine pv_istore_n (M := mX12_law) 2 (lo2 := [.ref 123, .int x0, .int 1, pv_U]) dX12_law_82 83 rfl rfl (by decide) rfl rfl ?_
                  refine pv_goto (M := mX12_law) (tgt := 46) dX12_law_83 (by decide) ?_
                  have z381 : (1 : Int32).toInt = 1 := by decide
                  have klb := klx
                  have kub : 0 ≤ (m361 123 12).toInt := (I363 123 12).1
                  have kgb : ((1 : Int32)).toInt ≠ 0 → SX m361 ∧ (m361 123 16).toInt ≤ (m361 123 12).toInt ∧ (m361 123 12).toInt ≤ (m361 123 13).toInt := fun q => by first | omega | (have z := (kRa.resolve_left (fun q => by have q1 := q.1; omega)).2.1; exact ⟨z.1, z.2.1, z.2.2.2.1⟩)
                  have kmm : 1 = 0 ∨ (m87 123 12).toInt + 1 ≤ (m361 123 12).toInt := by first | omega | (have z := (kRa.resolve_left (fun q => by have q1 := q.1; omega)).2.1; have z2 := z.2.2.1; omega)
                  have kjb1 : ((1 : Int32)).toInt ≠ 0 → LWA (tN (m 129) x0.toInt) x0.toInt 14 0 0 = LWC (tN (m 129) x0.toInt) x0.toInt (14 - (m361 123 18).toInt).toNat (m361 123 18).toInt (m361 123 12).toInt := fun q => by first | (exfalso; omega) | (have z := (kRa.resolve_left (fun q => by have q1 := q.1; omega)).2; have z2 := z.2.2; rw [kJ1, LWC_y (by omega) (by omega), show (m87 123 12).toInt + 1 = (m334 123 12).toInt by omega, show (14 - (m87 123 18).toInt).toNat = (14 - (m361 123 18).toInt).toNat + 1 by omega, show (m87 123 18).toInt = (m334 123 18).toInt by omega, LWA_o z.2.1, z2])
                  have kjb0 : ((1 : Int32)).toInt = 0 → LWA (tN (m 129) x0.toInt) x0.toInt 14 0 0 = (m361 123 14).toInt := fun q => by first | (exfalso; omega) | (rw [kJ1, LWC_n (f := (m361 123 14).toInt) (by omega) (by omega) (by omega)]) | (have z := (kRa.resolve_right (fun q => by have q1 := q.1; omega)).2; rw [kJ1, LWC_y (by omega) (by omega), show (m87 123 12).toInt + 1 = (m334 123 12).toInt by omega, show (14 - (m87 123 18).toInt).toNat = (13 - (m87 123 18).toInt).toNat + 1 by omega, show (m87 123 18).toInt = (m334 123 18).toInt by omega]; exact LWA_f z)
                  exact ih93 1 m361 n362 (by first | omega | assumption | exact (iv_rng _).2 | exact (iv_rng _).1 | decide) (by first | omega | assumption | exact (iv_rng _).2 | exact (iv_rng _).1 | decide) klb kgb (by first | omega | assumption | (show (m361 123 11).toInt = (m 123 11).toInt; omega) | decide) (by first | omega | assumption | (show (m361 123 13).toInt = x0.toInt; omega) | decide) kjb1 kjb0 I363 K364 (by omega)
      exact lp92 (((400 * v75.toInt + (160 - (m71 123 12).toInt)) : Int).toNat + 1) v75 m71 n72 (by first | omega | assumption | exact (iv_rng _).2 | exact (iv_rng _).1 | decide) (by first | omega | assumption | exact (iv_rng _).2 | exact (iv_rng _).1 | decide) kl0 kg0 (by first | omega | assumption | (show (m71 123 11).toInt = (m 123 11).toInt; omega) | decide) (by first | omega | assumption | (show (m71 123 13).toInt = x0.toInt; omega) | decide) kj1 kj0 I73 K74 (by omega)
    · have c8 := iv_nle (X := x0.toInt) (Y := v7.toInt) c8 rfl rfl
      refine pv_iconst (M := mX12_law) (v := (-1)) dX12_law_19 20 rfl (by decide) ?_
      have z388 : ((-1) : Int32).toInt = (-1) := by decide
      exact pv_iret (M := mX12_law) dX12_law_20 rfl rfl ⟨_, _, _, rfl, rfl, I, Kp, by decide, by decide, ⟨hp0, (by first | exact Or.inr ⟨by omega, by omega⟩ | exact Or.inl ⟨by omega, by omega, by omega, by first | omega | decide⟩), Or.inr ⟨by omega, by decide⟩⟩⟩
