set_option maxHeartbeats 2000000 in
set_option maxRecDepth 20000 in
theorem s_X12_readsCompared_vz (g : pv_G) {T : List mv_T} {m : Nat → Nat → Int32} {n : Nat → Nat → Int64} {r : Nat → Value} (hT : TX T) (I : IV BB m) (cb : Int) (hp0 : HW cb 0 m) (hp1 : 0 ≤ SLK m) (hp2 : (m 123 12).toInt ≤ (m 123 13).toInt) (hp3 : (m 123 17).toInt ≤ (m 123 12).toInt) (hp4 : NS m) (hp5 : 0 ≤ (m 123 15).toInt) (hp6 : (m 123 15).toInt ≤ 6) : PM g mX12_readsCompared yX12_readsCompared (sqI T BB (wl [(123, 123, some 12), (123, 123, some 14), (123, 123, some 15), (123, 123, some 16), (123, 123, some 17), (123, 123, some 19), (130, 130, none), (131, 131, none)]) r m 0 1 (fun m' v => ((v.toInt = 0 ∧ FLT (CM (tR m) (eo (m 123 15).toInt) (m 123 12).toInt) (m' 123 14).toInt) ∨ (v.toInt = 1 ∧ RC cb m m' ∧ CM (tR m) (eo (m 123 15).toInt) (m 123 12).toInt = (0, (m' 123 12).toInt) ∧ (m' 123 15).toInt - (m' 123 17).toInt = (m 123 15).toInt - (m 123 17).toInt ∧ ((m' 123 17).toInt = 0 ∨ opv (m' 131 ((m' 123 17).toInt - 1).toNat) ≠ 10))) ∧ IFZ v.toInt (CPZ (tR m) m m'))) 6 0 0 [.ref 123] (mk T m n r) := by
  have Kp : fr (wl [(123, 123, some 12), (123, 123, some 14), (123, 123, some 15), (123, 123, some 16), (123, 123, some 17), (123, 123, some 19), (130, 130, none), (131, 131, none)]) m m := fr.rf
  have z273 : 0 ≤ (m 123 12).toInt ∧ (m 123 12).toInt ≤ 160 := I 123 12
  have z274 : 0 ≤ (m 123 13).toInt ∧ (m 123 13).toInt ≤ 160 := I 123 13
  have z275 : 0 ≤ (m 123 16).toInt ∧ (m 123 16).toInt ≤ 180 := I 123 16
  have z276 : 0 ≤ (m 123 17).toInt ∧ (m 123 17).toInt ≤ 180 := I 123 17
  refine PM.of 1 (lo := [.ref 123, pv_U]) rfl (by decide) rfl rfl (Nat.le_of_ble_eq_true rfl) ?_
  refine pv_aload_n (M := mX12_readsCompared) 0 dX12_readsCompared_0 1 rfl rfl rfl ?_
  refine pv_callv (M := mX12_readsCompared) (as := []) (st := []) (kc2 := 0) (ks2 := 0) dX12_readsCompared_1 wd1425 YX12_readsSum ⟨wd1427, wd62⟩ (mk_get (tl123 hT)) rfl rfl (s_X12_readsSum_vz g hT I cb 0 hp0 (by omega) (by first | omega | assumption | exact (iv_rng _).2 | exact (iv_rng _).1 | decide) (by first | omega | assumption | exact (iv_rng _).2 | exact (iv_rng _).1 | decide) (by first | omega | assumption | exact (iv_rng _).2 | exact (iv_rng _).1 | decide) hp4 (by first | omega | assumption | exact (iv_rng _).2 | exact (iv_rng _).1 | decide) (by first | omega | assumption | exact (iv_rng _).2 | exact (iv_rng _).1 | decide)) rfl rfl (Nat.le_of_ble_eq_true rfl) (by decide) rfl rfl 4 rfl (fun rv h1 q1 => ?_)
  obtain ⟨m2, n3, v6, rfl, rfl, I4, K5, pv6, qv6, rv6⟩ := q1
  replace rv6 : ((v6.toInt = 0 ∧ FLT (SU (tR m) (eo (m 123 15).toInt) (m 123 12).toInt) (m2 123 14).toInt) ∨ (v6.toInt = 1 ∧ RS cb (0 + 1) m m2 ∧ SU (tR m) (eo (m 123 15).toInt) (m 123 12).toInt = (0, (m2 123 12).toInt) ∧ (m2 123 15).toInt = (m 123 15).toInt)) ∧ IFZ v6.toInt (SRZ m m2 (SUD (tR m) (eo (m 123 15).toInt) (m 123 12).toInt)) := rv6
  have K5c := K5
  have w7 : (m2 123 13).toInt = (m 123 13).toInt := congrArg Int32.toInt (K5 123 13 rfl)
  have K5 := Kp.trans (K5.sub (fun _ _ q => q))
  show PV _ _ _ _ _ _ _ 4 [.ref 123, pv_U] [.int v6] _
  have kR := rv6.1
  have kRz := rv6.2
  refine pv_if_ne (M := mX12_readsCompared) (tgt := 9) dX12_readsCompared_4 7 rfl (by decide) (fun c10 => ?_) (fun c10 => ?_)
  · have c10 := iv_ne (X := v6.toInt) (Y := 0) c10 rfl (by decide)
    have kab := (kR.resolve_left (fun q => by have q1 := q.1; omega)).2
    have ka : RS cb 1 m m2 := kab.1
    have kaS := kab.2.1
    have kaO := kab.2.2
    have ka2 := ka.2.1
    have ka3 := ka.2.2.2.1
    have ka4 := ka.2.2.2.2.2.1
    have ka5 := ka.2.2.2.2.2.2.1
    have kt9 : tR m2 = tR m := tR_eq (K5 123 13 rfl) (fun j => K5 129 j rfl)
    have kaZ := IFZ.get kRz (by omega)
    refine pv_aload_n (M := mX12_readsCompared) 0 dX12_readsCompared_9 10 rfl rfl rfl ?_
    refine pv_callv (M := mX12_readsCompared) (as := []) (st := []) (kc2 := 0) (ks2 := 0) dX12_readsCompared_10 wd1417 YX12_here ⟨wd1419, wd60⟩ (mk_get (tl123 hT)) rfl rfl (s_X12_here g hT I4) rfl rfl (Nat.le_of_ble_eq_true rfl) (by decide) rfl rfl 13 rfl (fun rv h1 q21 => ?_)
    obtain ⟨v22, rfl, rfl, pv22, qv22, rv22⟩ := q21
    replace rv22 : v22.toInt = hereV m2 ∧ (v22.toInt = -1 ∨ (m2 123 12).toInt < (m2 123 13).toInt) := rv22
    show PV _ _ _ _ _ _ _ 13 [.ref 123, pv_U] [.int v22] _
    have k13 : v22.toInt = tR m (m2 123 12).toInt := rv22.1.trans (congrFun kt9 _)
    refine pv_bipush (M := mX12_readsCompared) (v := 60) dX12_readsCompared_13 15 rfl (by decide) ?_
    refine pv_icmp_ne (M := mX12_readsCompared) (tgt := 23) dX12_readsCompared_15 18 rfl (by decide) (fun c24 => ?_) (fun c24 => ?_)
    · have c24 := iv_ne (X := v22.toInt) (Y := 60) c24 rfl (by decide)
      refine pv_aload_n (M := mX12_readsCompared) 0 dX12_readsCompared_23 24 rfl rfl rfl ?_
      refine pv_callv (M := mX12_readsCompared) (as := []) (st := []) (kc2 := 0) (ks2 := 0) dX12_readsCompared_24 wd1417 YX12_here ⟨wd1419, wd60⟩ (mk_get (tl123 hT)) rfl rfl (s_X12_here g hT I4) rfl rfl (Nat.le_of_ble_eq_true rfl) (by decide) rfl rfl 27 rfl (fun rv h1 q25 => ?_)
      obtain ⟨v26, rfl, rfl, pv26, qv26, rv26⟩ := q25
      replace rv26 : v26.toInt = hereV m2 ∧ (v26.toInt = -1 ∨ (m2 123 12).toInt < (m2 123 13).toInt) := rv26
      show PV _ _ _ _ _ _ _ 27 [.ref 123, pv_U] [.int v26] _
      have k27 : v26.toInt = tR m (m2 123 12).toInt := rv26.1.trans (congrFun kt9 _)
      refine pv_bipush (M := mX12_readsCompared) (v := 62) dX12_readsCompared_27 29 rfl (by decide) ?_
      refine pv_icmp_ne (M := mX12_readsCompared) (tgt := 37) dX12_readsCompared_29 32 rfl (by decide) (fun c28 => ?_) (fun c28 => ?_)
      · have c28 := iv_ne (X := v26.toInt) (Y := 62) c28 rfl (by decide)
        refine pv_aload_n (M := mX12_readsCompared) 0 dX12_readsCompared_37 38 rfl rfl rfl ?_
        refine pv_callv (M := mX12_readsCompared) (as := []) (st := []) (kc2 := 0) (ks2 := 0) dX12_readsCompared_38 wd1417 YX12_here ⟨wd1419, wd60⟩ (mk_get (tl123 hT)) rfl rfl (s_X12_here g hT I4) rfl rfl (Nat.le_of_ble_eq_true rfl) (by decide) rfl rfl 41 rfl (fun rv h1 q29 => ?_)
        obtain ⟨v30, rfl, rfl, pv30, qv30, rv30⟩ := q29
        replace rv30 : v30.toInt = hereV m2 ∧ (v30.toInt = -1 ∨ (m2 123 12).toInt < (m2 123 13).toInt) := rv30
        show PV _ _ _ _ _ _ _ 41 [.ref 123, pv_U] [.int v30] _
        have k41 : v30.toInt = tR m (m2 123 12).toInt := rv30.1.trans (congrFun kt9 _)
        refine pv_bipush (M := mX12_readsCompared) (v := 61) dX12_readsCompared_41 43 rfl (by decide) ?_
        refine pv_icmp_ne (M := mX12_readsCompared) (tgt := 51) dX12_readsCompared_43 46 rfl (by decide) (fun c32 => ?_) (fun c32 => ?_)
        · have c32 := iv_ne (X := v30.toInt) (Y := 61) c32 rfl (by decide)
          refine pv_iconst (M := mX12_readsCompared) (v := (-1)) dX12_readsCompared_51 52 rfl (by decide) ?_
          refine pv_istore_n (M := mX12_readsCompared) 1 (lo2 := [.ref 123, .int (-1)]) dX12_readsCompared_52 53 rfl rfl (by decide) rfl rfl ?_
          refine pv_iload_n (M := mX12_readsCompared) 1 dX12_readsCompared_53 54 rfl rfl rfl ?_
          refine pv_iconst (M := mX12_readsCompared) (v := (-1)) dX12_readsCompared_54 55 rfl (by decide) ?_
          refine pv_icmp_ne (M := mX12_readsCompared) (tgt := 68) dX12_readsCompared_55 58 rfl (by decide) (fun q => absurd (by decide) q) (fun _ => ?_)
          refine pv_aload_n (M := mX12_readsCompared) 0 dX12_readsCompared_58 59 rfl rfl rfl ?_
          refine pv_iconst (M := mX12_readsCompared) (v := 1) dX12_readsCompared_59 60 rfl (by decide) ?_
          refine pv_aload_n (M := mX12_readsCompared) 0 dX12_readsCompared_60 61 rfl rfl rfl ?_
          refine iv_get (M := mX12_readsCompared) (l1 := 0) (l2 := 160) dX12_readsCompared_61 FX12 12 wd1185 (by decide) (tl123 hT) rfl I4 rfl 64 rfl (fun v34 ev34 pv34 qv34 => ?_)
          have wv34 : v34.toInt = (m2 123 12).toInt := congrArg Int32.toInt ev34
          have z35 : (1 : Int32).toInt = 1 := by decide
          refine pv_callv (M := mX12_readsCompared) (as := [.int 1, .int v34]) (st := []) (kc2 := 0) (ks2 := 0) dX12_readsCompared_64 wd1421 YX12_wrongAt ⟨wd1423, wd61⟩ (mk_get (tl123 hT)) rfl rfl (s_X12_wrongAt_vx g hT I4 1 (by decide) (by decide) v34 (by omega) (by omega)) rfl rfl (Nat.le_of_ble_eq_true rfl) (by decide) rfl rfl 67 rfl (fun rv h1 q36 => ?_)
          obtain ⟨m37, n38, v41, rfl, rfl, I39, K40, pv41, qv41, rv41⟩ := q36
          replace rv41 : (m37 123 14).toInt = -1000 * (1 : Int) - v34.toInt := by have q_ := rv41; (try rw [z35] at q_); exact q_
          have K40c := K40
          have w42 : (m37 123 12).toInt = (m2 123 12).toInt := congrArg Int32.toInt (K40 123 12 rfl)
          have w43 : (m37 123 13).toInt = (m2 123 13).toInt := congrArg Int32.toInt (K40 123 13 rfl)
          have w44 : (m37 123 16).toInt = (m2 123 16).toInt := congrArg Int32.toInt (K40 123 16 rfl)
          have w45 : (m37 123 17).toInt = (m2 123 17).toInt := congrArg Int32.toInt (K40 123 17 rfl)
          have w46 : (m37 123 15).toInt = (m2 123 15).toInt := congrArg Int32.toInt (K40 123 15 rfl)
          have K40 := K5.trans (K40.sub (wl_sub (by decide)))
          show PV _ _ _ _ _ _ _ 67 [.ref 123, .int (-1)] [.int v41] _
          exact pv_iret (M := mX12_readsCompared) dX12_readsCompared_67 rfl (iv_nz (by omega) (by omega)) ⟨_, _, _, rfl, rfl, I39, K40, by omega, by omega, ⟨(Or.inl ⟨by omega, CM_no kaS (isC_no (by omega) (by omega) (by omega)) (by omega)⟩), IFZ.no (by omega)⟩⟩
        · have c32 := iv_eq (X := v30.toInt) (Y := 61) c32 rfl (by decide)
          refine pv_bipush (M := mX12_readsCompared) (v := 9) dX12_readsCompared_46 48 rfl (by decide) ?_
          refine pv_goto (M := mX12_readsCompared) (tgt := 52) dX12_readsCompared_48 (by decide) ?_
          refine pv_istore_n (M := mX12_readsCompared) 1 (lo2 := [.ref 123, .int 9]) dX12_readsCompared_52 53 rfl rfl (by decide) rfl rfl ?_
          refine pv_iload_n (M := mX12_readsCompared) 1 dX12_readsCompared_53 54 rfl rfl rfl ?_
          refine pv_iconst (M := mX12_readsCompared) (v := (-1)) dX12_readsCompared_54 55 rfl (by decide) ?_
          refine pv_icmp_ne (M := mX12_readsCompared) (tgt := 68) dX12_readsCompared_55 58 rfl (by decide) (fun _ => ?_) (fun q => absurd q (by decide))
          refine pv_aload_n (M := mX12_readsCompared) 0 dX12_readsCompared_68 69 rfl rfl rfl ?_
          refine pv_aload_n (M := mX12_readsCompared) 0 dX12_readsCompared_69 70 rfl rfl rfl ?_
          refine iv_get (M := mX12_readsCompared) (l1 := 0) (l2 := 160) dX12_readsCompared_70 FX12 12 wd1185 (by decide) (tl123 hT) rfl I4 rfl 73 rfl (fun v48 ev48 pv48 qv48 => ?_)
          have wv48 : v48.toInt = (m2 123 12).toInt := congrArg Int32.toInt ev48
          refine pv_iconst (M := mX12_readsCompared) (v := 1) dX12_readsCompared_73 74 rfl (by decide) ?_
          refine iv_iadd (M := mX12_readsCompared) (X := v48.toInt) (Y := 1) dX12_readsCompared_74 75 rfl rfl (by decide) (by omega) (by omega) (fun v49 ev49 => ?_)
          refine iv_put (M := mX12_readsCompared) (l1 := 0) (l2 := 160) dX12_readsCompared_75 FX12 12 wd1185 (by decide) rfl (tl123 hT) rfl rfl rfl I4 rfl (by omega) (by omega) 78 rfl (fun m50 e53 I51 => ?_)
          have K52 := K5.set e53 rfl
          have w54 : (m50 123 12).toInt = v49.toInt := by rw [e53, up2_eq]
          have w55 : (m50 123 13).toInt = (m2 123 13).toInt := by rw [e53, up2_ne (by omega)]
          have w56 : (m50 123 16).toInt = (m2 123 16).toInt := by rw [e53, up2_ne (by omega)]
          have w57 : (m50 123 17).toInt = (m2 123 17).toInt := by rw [e53, up2_ne (by omega)]
          have w58 : (m50 123 14).toInt = (m2 123 14).toInt := by rw [e53, up2_ne (by omega)]
          have w59 : (m50 123 15).toInt = (m2 123 15).toInt := by rw [e53, up2_ne (by omega)]
          have kA : HW cb 1 m50 ∧ SLK m2 + 1 ≤ SLK m50 ∧ 0 ≤ SLK m2 ∧ NS m50 := ⟨(HW_move ka.1 (by rw [e53, up2_ne (by omega)]) (by rw [e53, up2_ne (by omega)]) (fun j => by rw [e53, up2_ne (by omega)]) (fun j => by rw [e53, up2_ne (by omega)])).1, by have := (HW_move (m' := m50) ka.1 (by rw [e53, up2_ne (by omega)]) (by rw [e53, up2_ne (by omega)]) (fun j => by rw [e53, up2_ne (by omega)]) (fun j => by rw [e53, up2_ne (by omega)])).2; omega, by omega, NS_eq hp4 (by omega) (fun j hj => by rw [e53, up2_ne (by omega)]; exact ka.2.2.2.2.1 j (by omega))⟩
          have ke := e53
          have kA2 := kA.2.1
          have kt78 : tR m50 = tR m := tR_eq (K52 123 13 rfl) (fun j => K52 129 j rfl)
          have kC : isC (tR m (m2 123 12).toInt) = true := isC_y (by omega)
          have kp78 : (m50 123 12).toInt = (m2 123 12).toInt + 1 := by omega
          have ko78 : (m50 123 15).toInt = (m 123 15).toInt := by omega
          refine pv_aload_n (M := mX12_readsCompared) 0 dX12_readsCompared_78 79 rfl rfl rfl ?_
          refine pv_callv (M := mX12_readsCompared) (as := []) (st := []) (kc2 := 0) (ks2 := 0) dX12_readsCompared_79 wd1425 YX12_readsSum ⟨wd1427, wd62⟩ (mk_get (tl123 hT)) rfl rfl (s_X12_readsSum_vz g hT I51 cb 1 kA.1 (by omega) (by have := kA.2.1; have := kA.2.2.1; omega) (by omega) (by omega) kA.2.2.2 (by first | omega | assumption | exact (iv_rng _).2 | exact (iv_rng _).1 | decide) (by first | omega | assumption | exact (iv_rng _).2 | exact (iv_rng _).1 | decide)) rfl rfl (Nat.le_of_ble_eq_true rfl) (by decide) rfl rfl 82 rfl (fun rv h1 q67 => ?_)
          obtain ⟨m68, n69, v72, rfl, rfl, I70, K71, pv72, qv72, rv72⟩ := q67
          replace rv72 : ((v72.toInt = 0 ∧ FLT (SU (tR m50) (eo (m50 123 15).toInt) (m50 123 12).toInt) (m68 123 14).toInt) ∨ (v72.toInt = 1 ∧ RS cb (1 + 1) m50 m68 ∧ SU (tR m50) (eo (m50 123 15).toInt) (m50 123 12).toInt = (0, (m68 123 12).toInt) ∧ (m68 123 15).toInt = (m50 123 15).toInt)) ∧ IFZ v72.toInt (SRZ m50 m68 (SUD (tR m50) (eo (m50 123 15).toInt) (m50 123 12).toInt)) := rv72
          have K71c := K71
          have w73 : (m68 123 13).toInt = (m50 123 13).toInt := congrArg Int32.toInt (K71 123 13 rfl)
          have K71 := K52.trans (K71.sub (fun _ _ q => q))
          show PV _ _ _ _ _ _ _ 82 [.ref 123, .int 9] [.int v72] _
          have kR2 := rv72.1
          rw [kt78, ko78, kp78] at kR2
          have kR2z := rv72.2
          rw [kt78] at kR2z
          refine pv_if_ne (M := mX12_readsCompared) (tgt := 87) dX12_readsCompared_82 85 rfl (by decide) (fun c78 => ?_) (fun c78 => ?_)
          · have c78 := iv_ne (X := v72.toInt) (Y := 0) c78 rfl (by decide)
            have kbb := (kR2.resolve_left (fun q => by have q1 := q.1; omega)).2
            have kb : RS cb 2 _ m68 := kbb.1
            have kbS := kbb.2.1
            have kbO := kbb.2.2
            have kbw := kbb.1.2.2.2.1
            have kb2 := kb.2.1
            have kb3 : (m68 123 16).toInt ≤ (m68 123 12).toInt := SLK_cm (m := m68) (by omega)
            have kb4 : (m68 123 12).toInt ≤ 160 := (I70 123 12).2
            have kbZ := IFZ.get kR2z (by omega)
            have kI87 : 0 ≤ (m68 123 16).toInt := (I70 123 16).1
            have kbSx : SU (tR m) (eo (m50 123 15).toInt) (m50 123 12).toInt = (0, (m68 123 12).toInt) := by rw [show (m50 123 15).toInt = (m 123 15).toInt by omega, show (m50 123 12).toInt = (m2 123 12).toInt + 1 by omega]; exact kbS
            refine pv_aload_n (M := mX12_readsCompared) 0 dX12_readsCompared_87 88 rfl rfl rfl ?_
            refine pv_iload_n (M := mX12_readsCompared) 1 dX12_readsCompared_88 89 rfl rfl rfl ?_
            refine pv_iconst (M := mX12_readsCompared) (v := 0) dX12_readsCompared_89 90 rfl (by decide) ?_
            have z90 : (9 : Int32).toInt = 9 := by decide
            have z91 : (0 : Int32).toInt = 0 := by decide
            refine pv_callv (M := mX12_readsCompared) (as := [.int 9, .int 0]) (st := []) (kc2 := 0) (ks2 := 0) dX12_readsCompared_90 wd1446 YX12_notes ⟨wd1448, wd67⟩ (mk_get (tl123 hT)) rfl rfl (s_X12_notes g hT I70 9 (by decide) (by decide) 0 (by decide) (by decide) (by first | omega | assumption | exact (iv_rng _).2 | exact (iv_rng _).1 | decide)) rfl rfl (Nat.le_of_ble_eq_true rfl) (by decide) rfl rfl 93 rfl (fun rv h1 q92 => ?_)
            obtain ⟨m93, n94, rfl, rfl, I95, K96, rm93⟩ := q92
            replace rm93 : NOTE (9 : Int) (0 : Int) m68 m93 := by have q_ := rm93; (try rw [z90] at q_); (try rw [z91] at q_); exact q_
            have K96c := K96
            have w97 : (m93 123 12).toInt = (m68 123 12).toInt := congrArg Int32.toInt (K96 123 12 rfl)
            have w98 : (m93 123 13).toInt = (m68 123 13).toInt := congrArg Int32.toInt (K96 123 13 rfl)
            have w99 : (m93 123 17).toInt = (m68 123 17).toInt := congrArg Int32.toInt (K96 123 17 rfl)
            have w100 : (m93 123 14).toInt = (m68 123 14).toInt := congrArg Int32.toInt (K96 123 14 rfl)
            have w101 : (m93 123 15).toInt = (m68 123 15).toInt := congrArg Int32.toInt (K96 123 15 rfl)
            have K96 := K71.trans (K96.sub (wl_sub (by decide)))
            show PV _ _ _ _ _ _ _ 93 [.ref 123, .int 9] [] _
            have kN := rm93
            have kB := NOTE_HW (d := -1) kN kb.1 (by omega) (by omega) (Or.inr (Or.inr (Or.inr ⟨by omega, by omega, rfl, by have := OPS_ge m68; omega⟩)))
            have kB : HW cb 1 m93 ∧ SLK m93 = SLK m68 - 1 := ⟨kB.1, kB.2.1⟩
            have kI93 : 0 ≤ (m93 123 16).toInt := (I95 123 16).1
            refine pv_aload_n (M := mX12_readsCompared) 0 dX12_readsCompared_93 94 rfl rfl rfl ?_
            refine pv_callv (M := mX12_readsCompared) (as := []) (st := []) (kc2 := 0) (ks2 := 0) dX12_readsCompared_94 wd1476 YX12_endsPiece ⟨wd1478, wd73⟩ (mk_get (tl123 hT)) rfl rfl (s_X12_endsPiece_vz g hT I95 cb 1 kB.1 (by omega) (by omega) (by first | omega | assumption | exact (iv_rng _).2 | exact (iv_rng _).1 | decide) (by first | omega | assumption | exact (iv_rng _).2 | exact (iv_rng _).1 | decide)) rfl rfl (Nat.le_of_ble_eq_true rfl) (by decide) rfl rfl 97 rfl (fun rv h1 q106 => ?_)
            obtain ⟨m107, n108, rfl, rfl, I109, K110, rm107⟩ := q106
            replace rm107 : ((EPI cb 1 m93 m107 ∧ ((m107 123 17).toInt = 0 ∨ opv (m107 131 ((m107 123 17).toInt - 1).toNat) ≠ 10)) ∧ (m107 123 15).toInt - (m107 123 17).toInt = (m93 123 15).toInt - (m93 123 17).toInt) ∧ CSX m93 m107 := rm107
            have K110c := K110
            have w111 : (m107 123 12).toInt = (m93 123 12).toInt := congrArg Int32.toInt (K110 123 12 rfl)
            have w112 : (m107 123 13).toInt = (m93 123 13).toInt := congrArg Int32.toInt (K110 123 13 rfl)
            have w113 : (m107 123 14).toInt = (m93 123 14).toInt := congrArg Int32.toInt (K110 123 14 rfl)
            have K110 := K96.trans (K110.sub (wl_sub (by decide)))
            show PV _ _ _ _ _ _ _ 97 [.ref 123, .int 9] [] _
            have kE := rm107.1.1
            have kEo := rm107.1.2
            have kEx := rm107.2
            have kCPo := CPZ_of (t := tR m) (how := 9) (m := m) (m1 := m2) (m2 := m50) (m3 := m68) (m4 := m93) kaZ kaS kC (by have q7 : opc 7 = 60 := (by decide); have q8 : opc 8 = 62 := (by decide); have q9 : opc 9 = 61 := (by decide); omega) (by omega) (by omega) (fun j => by rw [ke, up2_ne (by omega)]) (by rw [ke, up2_ne (by omega)]) ko78 (by omega) kbZ kbSx (by omega) kN (fun j hj => (kb.2.2.2.2.1 j (by have := ka.2.2.2.1; omega)).trans ((show m50 131 j = m2 131 j by rw [ke, up2_ne (by omega)]).trans (ka.2.2.2.2.1 j hj))) (by have := ka.2.2.2.1; have := kb.2.2.2.1; omega) (by omega)
            have kEx0 := kEx.2.1
            have kCPz := CPZ_ns kCPo.1 kEx (by omega) (fun i hi => kE.1.2.2.2.2.2.2.1 (wtN m93 - 1 - i) (by unfold wtN; omega) (by unfold wtN; omega)) (fun j => kE.1.2.2.2.2.2.1 j) (by omega) (by omega) (congrArg Int32.toInt (K110c 123 12 rfl))
            refine pv_iconst (M := mX12_readsCompared) (v := 1) dX12_readsCompared_97 98 rfl (by decide) ?_
            have z120 : (1 : Int32).toInt = 1 := by decide
            exact pv_iret (M := mX12_readsCompared) dX12_readsCompared_98 rfl rfl ⟨_, _, _, rfl, rfl, I109, K110, by decide, by decide, ⟨(Or.inr ⟨by decide, RC.of (by omega) ka ke (by omega) kb kN (by omega) (by omega) kE.1 (K110c 123 12 rfl) (K110c 123 13 rfl), by rw [CM_ok kaS kC, kbS, show (m68 123 12).toInt = (m107 123 12).toInt by omega], by omega, kE.2⟩), IFZ.is kCPz⟩⟩
          · have c78 := iv_eq (X := v72.toInt) (Y := 0) c78 rfl (by decide)
            refine pv_iconst (M := mX12_readsCompared) (v := 0) dX12_readsCompared_85 86 rfl (by decide) ?_
            have z121 : (0 : Int32).toInt = 0 := by decide
            exact pv_iret (M := mX12_readsCompared) dX12_readsCompared_86 rfl rfl ⟨_, _, _, rfl, rfl, I70, K71, by decide, by decide, ⟨(Or.inl ⟨by decide, by rw [CM_ok kaS kC]; exact (kR2.resolve_right (fun q => by have q1 := q.1; omega)).2⟩), IFZ.no (by decide)⟩⟩
      · have c28 := iv_eq (X := v26.toInt) (Y := 62) c28 rfl (by decide)
        refine pv_bipush (M := mX12_readsCompared) (v := 8) dX12_readsCompared_32 34 rfl (by decide) ?_
        refine pv_goto (M := mX12_readsCompared) (tgt := 52) dX12_readsCompared_34 (by decide) ?_
        refine pv_istore_n (M := mX12_readsCompared) 1 (lo2 := [.ref 123, .int 8]) dX12_readsCompared_52 53 rfl rfl (by decide) rfl rfl ?_
        refine pv_iload_n (M := mX12_readsCompared) 1 dX12_readsCompared_53 54 rfl rfl rfl ?_
        refine pv_iconst (M := mX12_readsCompared) (v := (-1)) dX12_readsCompared_54 55 rfl (by decide) ?_
        refine pv_icmp_ne (M := mX12_readsCompared) (tgt := 68) dX12_readsCompared_55 58 rfl (by decide) (fun _ => ?_) (fun q => absurd q (by decide))
        refine pv_aload_n (M := mX12_readsCompared) 0 dX12_readsCompared_68 69 rfl rfl rfl ?_
        refine pv_aload_n (M := mX12_readsCompared) 0 dX12_readsCompared_69 70 rfl rfl rfl ?_
        refine iv_get (M := mX12_readsCompared) (l1 := 0) (l2 := 160) dX12_readsCompared_70 FX12 12 wd1185 (by decide) (tl123 hT) rfl I4 rfl 73 rfl (fun v123 ev123 pv123 qv123 => ?_)
        have wv123 : v123.toInt = (m2 123 12).toInt := congrArg Int32.toInt ev123
        refine pv_iconst (M := mX12_readsCompared) (v := 1) dX12_readsCompared_73 74 rfl (by decide) ?_
        refine iv_iadd (M := mX12_readsCompared) (X := v123.toInt) (Y := 1) dX12_readsCompared_74 75 rfl rfl (by decide) (by omega) (by omega) (fun v124 ev124 => ?_)
        refine iv_put (M := mX12_readsCompared) (l1 := 0) (l2 := 160) dX12_readsCompared_75 FX12 12 wd1185 (by decide) rfl (tl123 hT) rfl rfl rfl I4 rfl (by omega) (by omega) 78 rfl (fun m125 e128 I126 => ?_)
        have K127 := K5.set e128 rfl
        have w129 : (m125 123 12).toInt = v124.toInt := by rw [e128, up2_eq]
        have w130 : (m125 123 13).toInt = (m2 123 13).toInt := by rw [e128, up2_ne (by omega)]
        have w131 : (m125 123 16).toInt = (m2 123 16).toInt := by rw [e128, up2_ne (by omega)]
        have w132 : (m125 123 17).toInt = (m2 123 17).toInt := by rw [e128, up2_ne (by omega)]
        have w133 : (m125 123 14).toInt = (m2 123 14).toInt := by rw [e128, up2_ne (by omega)]
        have w134 : (m125 123 15).toInt = (m2 123 15).toInt := by rw [e128, up2_ne (by omega)]
        have kA : HW cb 1 m125 ∧ SLK m2 + 1 ≤ SLK m125 ∧ 0 ≤ SLK m2 ∧ NS m125 := ⟨(HW_move ka.1 (by rw [e128, up2_ne (by omega)]) (by rw [e128, up2_ne (by omega)]) (fun j => by rw [e128, up2_ne (by omega)]) (fun j => by rw [e128, up2_ne (by omega)])).1, by have := (HW_move (m' := m125) ka.1 (by rw [e128, up2_ne (by omega)]) (by rw [e128, up2_ne (by omega)]) (fun j => by rw [e128, up2_ne (by omega)]) (fun j => by rw [e128, up2_ne (by omega)])).2; omega, by omega, NS_eq hp4 (by omega) (fun j hj => by rw [e128, up2_ne (by omega)]; exact ka.2.2.2.2.1 j (by omega))⟩
        have ke := e128
        have kA2 := kA.2.1
        have kt78 : tR m125 = tR m := tR_eq (K127 123 13 rfl) (fun j => K127 129 j rfl)
        have kC : isC (tR m (m2 123 12).toInt) = true := isC_y (by omega)
        have kp78 : (m125 123 12).toInt = (m2 123 12).toInt + 1 := by omega
        have ko78 : (m125 123 15).toInt = (m 123 15).toInt := by omega
        refine pv_aload_n (M := mX12_readsCompared) 0 dX12_readsCompared_78 79 rfl rfl rfl ?_
        refine pv_callv (M := mX12_readsCompared) (as := []) (st := []) (kc2 := 0) (ks2 := 0) dX12_readsCompared_79 wd1425 YX12_readsSum ⟨wd1427, wd62⟩ (mk_get (tl123 hT)) rfl rfl (s_X12_readsSum_vz g hT I126 cb 1 kA.1 (by omega) (by have := kA.2.1; have := kA.2.2.1; omega) (by omega) (by omega) kA.2.2.2 (by first | omega | assumption | exact (iv_rng _).2 | exact (iv_rng _).1 | decide) (by first | omega | assumption | exact (iv_rng _).2 | exact (iv_rng _).1 | decide)) rfl rfl (Nat.le_of_ble_eq_true rfl) (by decide) rfl rfl 82 rfl (fun rv h1 q142 => ?_)
        obtain ⟨m143, n144, v147, rfl, rfl, I145, K146, pv147, qv147, rv147⟩ := q142
        replace rv147 : ((v147.toInt = 0 ∧ FLT (SU (tR m125) (eo (m125 123 15).toInt) (m125 123 12).toInt) (m143 123 14).toInt) ∨ (v147.toInt = 1 ∧ RS cb (1 + 1) m125 m143 ∧ SU (tR m125) (eo (m125 123 15).toInt) (m125 123 12).toInt = (0, (m143 123 12).toInt) ∧ (m143 123 15).toInt = (m125 123 15).toInt)) ∧ IFZ v147.toInt (SRZ m125 m143 (SUD (tR m125) (eo (m125 123 15).toInt) (m125 123 12).toInt)) := rv147
        have K146c := K146
        have w148 : (m143 123 13).toInt = (m125 123 13).toInt := congrArg Int32.toInt (K146 123 13 rfl)
        have K146 := K127.trans (K146.sub (fun _ _ q => q))
        show PV _ _ _ _ _ _ _ 82 [.ref 123, .int 8] [.int v147] _
        have kR2 := rv147.1
        rw [kt78, ko78, kp78] at kR2
        have kR2z := rv147.2
        rw [kt78] at kR2z
        refine pv_if_ne (M := mX12_readsCompared) (tgt := 87) dX12_readsCompared_82 85 rfl (by decide) (fun c153 => ?_) (fun c153 => ?_)
        · have c153 := iv_ne (X := v147.toInt) (Y := 0) c153 rfl (by decide)
          have kbb := (kR2.resolve_left (fun q => by have q1 := q.1; omega)).2
          have kb : RS cb 2 _ m143 := kbb.1
          have kbS := kbb.2.1
          have kbO := kbb.2.2
          have kbw := kbb.1.2.2.2.1
          have kb2 := kb.2.1
          have kb3 : (m143 123 16).toInt ≤ (m143 123 12).toInt := SLK_cm (m := m143) (by omega)
          have kb4 : (m143 123 12).toInt ≤ 160 := (I145 123 12).2
          have kbZ := IFZ.get kR2z (by omega)
          have kI87 : 0 ≤ (m143 123 16).toInt := (I145 123 16).1
          have kbSx : SU (tR m) (eo (m125 123 15).toInt) (m125 123 12).toInt = (0, (m143 123 12).toInt) := by rw [show (m125 123 15).toInt = (m 123 15).toInt by omega, show (m125 123 12).toInt = (m2 123 12).toInt + 1 by omega]; exact kbS
          refine pv_aload_n (M := mX12_readsCompared) 0 dX12_readsCompared_87 88 rfl rfl rfl ?_
          refine pv_iload_n (M := mX12_readsCompared) 1 dX12_readsCompared_88 89 rfl rfl rfl ?_
          refine pv_iconst (M := mX12_readsCompared) (v := 0) dX12_readsCompared_89 90 rfl (by decide) ?_
          have z165 : (8 : Int32).toInt = 8 := by decide
          have z166 : (0 : Int32).toInt = 0 := by decide
          refine pv_callv (M := mX12_readsCompared) (as := [.int 8, .int 0]) (st := []) (kc2 := 0) (ks2 := 0) dX12_readsCompared_90 wd1446 YX12_notes ⟨wd1448, wd67⟩ (mk_get (tl123 hT)) rfl rfl (s_X12_notes g hT I145 8 (by decide) (by decide) 0 (by decide) (by decide) (by first | omega | assumption | exact (iv_rng _).2 | exact (iv_rng _).1 | decide)) rfl rfl (Nat.le_of_ble_eq_true rfl) (by decide) rfl rfl 93 rfl (fun rv h1 q167 => ?_)
          obtain ⟨m168, n169, rfl, rfl, I170, K171, rm168⟩ := q167
          replace rm168 : NOTE (8 : Int) (0 : Int) m143 m168 := by have q_ := rm168; (try rw [z165] at q_); (try rw [z166] at q_); exact q_
          have K171c := K171
          have w172 : (m168 123 12).toInt = (m143 123 12).toInt := congrArg Int32.toInt (K171 123 12 rfl)
          have w173 : (m168 123 13).toInt = (m143 123 13).toInt := congrArg Int32.toInt (K171 123 13 rfl)
          have w174 : (m168 123 17).toInt = (m143 123 17).toInt := congrArg Int32.toInt (K171 123 17 rfl)
          have w175 : (m168 123 14).toInt = (m143 123 14).toInt := congrArg Int32.toInt (K171 123 14 rfl)
          have w176 : (m168 123 15).toInt = (m143 123 15).toInt := congrArg Int32.toInt (K171 123 15 rfl)
          have K171 := K146.trans (K171.sub (wl_sub (by decide)))
          show PV _ _ _ _ _ _ _ 93 [.ref 123, .int 8] [] _
          have kN := rm168
          have kB := NOTE_HW (d := -1) kN kb.1 (by omega) (by omega) (Or.inr (Or.inr (Or.inr ⟨by omega, by omega, rfl, by have := OPS_ge m143; omega⟩)))
          have kB : HW cb 1 m168 ∧ SLK m168 = SLK m143 - 1 := ⟨kB.1, kB.2.1⟩
          have kI93 : 0 ≤ (m168 123 16).toInt := (I170 123 16).1
          refine pv_aload_n (M := mX12_readsCompared) 0 dX12_readsCompared_93 94 rfl rfl rfl ?_
          refine pv_callv (M := mX12_readsCompared) (as := []) (st := []) (kc2 := 0) (ks2 := 0) dX12_readsCompared_94 wd1476 YX12_endsPiece ⟨wd1478, wd73⟩ (mk_get (tl123 hT)) rfl rfl (s_X12_endsPiece_vz g hT I170 cb 1 kB.1 (by omega) (by omega) (by first | omega | assumption | exact (iv_rng _).2 | exact (iv_rng _).1 | decide) (by first | omega | assumption | exact (iv_rng _).2 | exact (iv_rng _).1 | decide)) rfl rfl (Nat.le_of_ble_eq_true rfl) (by decide) rfl rfl 97 rfl (fun rv h1 q181 => ?_)
          obtain ⟨m182, n183, rfl, rfl, I184, K185, rm182⟩ := q181
          replace rm182 : ((EPI cb 1 m168 m182 ∧ ((m182 123 17).toInt = 0 ∨ opv (m182 131 ((m182 123 17).toInt - 1).toNat) ≠ 10)) ∧ (m182 123 15).toInt - (m182 123 17).toInt = (m168 123 15).toInt - (m168 123 17).toInt) ∧ CSX m168 m182 := rm182
          have K185c := K185
          have w186 : (m182 123 12).toInt = (m168 123 12).toInt := congrArg Int32.toInt (K185 123 12 rfl)
          have w187 : (m182 123 13).toInt = (m168 123 13).toInt := congrArg Int32.toInt (K185 123 13 rfl)
          have w188 : (m182 123 14).toInt = (m168 123 14).toInt := congrArg Int32.toInt (K185 123 14 rfl)
          have K185 := K171.trans (K185.sub (wl_sub (by decide)))
          show PV _ _ _ _ _ _ _ 97 [.ref 123, .int 8] [] _
          have kE := rm182.1.1
          have kEo := rm182.1.2
          have kEx := rm182.2
          have kCPo := CPZ_of (t := tR m) (how := 8) (m := m) (m1 := m2) (m2 := m125) (m3 := m143) (m4 := m168) kaZ kaS kC (by have q7 : opc 7 = 60 := (by decide); have q8 : opc 8 = 62 := (by decide); have q9 : opc 9 = 61 := (by decide); omega) (by omega) (by omega) (fun j => by rw [ke, up2_ne (by omega)]) (by rw [ke, up2_ne (by omega)]) ko78 (by omega) kbZ kbSx (by omega) kN (fun j hj => (kb.2.2.2.2.1 j (by have := ka.2.2.2.1; omega)).trans ((show m125 131 j = m2 131 j by rw [ke, up2_ne (by omega)]).trans (ka.2.2.2.2.1 j hj))) (by have := ka.2.2.2.1; have := kb.2.2.2.1; omega) (by omega)
          have kEx0 := kEx.2.1
          have kCPz := CPZ_ns kCPo.1 kEx (by omega) (fun i hi => kE.1.2.2.2.2.2.2.1 (wtN m168 - 1 - i) (by unfold wtN; omega) (by unfold wtN; omega)) (fun j => kE.1.2.2.2.2.2.1 j) (by omega) (by omega) (congrArg Int32.toInt (K185c 123 12 rfl))
          refine pv_iconst (M := mX12_readsCompared) (v := 1) dX12_readsCompared_97 98 rfl (by decide) ?_
          have z195 : (1 : Int32).toInt = 1 := by decide
          exact pv_iret (M := mX12_readsCompared) dX12_readsCompared_98 rfl rfl ⟨_, _, _, rfl, rfl, I184, K185, by decide, by decide, ⟨(Or.inr ⟨by decide, RC.of (by omega) ka ke (by omega) kb kN (by omega) (by omega) kE.1 (K185c 123 12 rfl) (K185c 123 13 rfl), by rw [CM_ok kaS kC, kbS, show (m143 123 12).toInt = (m182 123 12).toInt by omega], by omega, kE.2⟩), IFZ.is kCPz⟩⟩
        · have c153 := iv_eq (X := v147.toInt) (Y := 0) c153 rfl (by decide)
          refine pv_iconst (M := mX12_readsCompared) (v := 0) dX12_readsCompared_85 86 rfl (by decide) ?_
          have z196 : (0 : Int32).toInt = 0 := by decide
          exact pv_iret (M := mX12_readsCompared) dX12_readsCompared_86 rfl rfl ⟨_, _, _, rfl, rfl, I145, K146, by decide, by decide, ⟨(Or.inl ⟨by decide, by rw [CM_ok kaS kC]; exact (kR2.resolve_right (fun q => by have q1 := q.1; omega)).2⟩), IFZ.no (by decide)⟩⟩
    · have c24 := iv_eq (X := v22.toInt) (Y := 60) c24 rfl (by decide)
      refine pv_bipush (M := mX12_readsCompared) (v := 7) dX12_readsCompared_18 20 rfl (by decide) ?_
      refine pv_goto (M := mX12_readsCompared) (tgt := 52) dX12_readsCompared_20 (by decide) ?_
      refine pv_istore_n (M := mX12_readsCompared) 1 (lo2 := [.ref 123, .int 7]) dX12_readsCompared_52 53 rfl rfl (by decide) rfl rfl ?_
      refine pv_iload_n (M := mX12_readsCompared) 1 dX12_readsCompared_53 54 rfl rfl rfl ?_
      refine pv_iconst (M := mX12_readsCompared) (v := (-1)) dX12_readsCompared_54 55 rfl (by decide) ?_
      refine pv_icmp_ne (M := mX12_readsCompared) (tgt := 68) dX12_readsCompared_55 58 rfl (by decide) (fun _ => ?_) (fun q => absurd q (by decide))
      refine pv_aload_n (M := mX12_readsCompared) 0 dX12_readsCompared_68 69 rfl rfl rfl ?_
      refine pv_aload_n (M := mX12_readsCompared) 0 dX12_readsCompared_69 70 rfl rfl rfl ?_
      refine iv_get (M := mX12_readsCompared) (l1 := 0) (l2 := 160) dX12_readsCompared_70 FX12 12 wd1185 (by decide) (tl123 hT) rfl I4 rfl 73 rfl (fun v198 ev198 pv198 qv198 => ?_)
      have wv198 : v198.toInt = (m2 123 12).toInt := congrArg Int32.toInt ev198
      refine pv_iconst (M := mX12_readsCompared) (v := 1) dX12_readsCompared_73 74 rfl (by decide) ?_
      refine iv_iadd (M := mX12_readsCompared) (X := v198.toInt) (Y := 1) dX12_readsCompared_74 75 rfl rfl (by decide) (by omega) (by omega) (fun v199 ev199 => ?_)
      refine iv_put (M := mX12_readsCompared) (l1 := 0) (l2 := 160) dX12_readsCompared_75 FX12 12 wd1185 (by decide) rfl (tl123 hT) rfl rfl rfl I4 rfl (by omega) (by omega) 78 rfl (fun m200 e203 I201 => ?_)
      have K202 := K5.set e203 rfl
      have w204 : (m200 123 12).toInt = v199.toInt := by rw [e203, up2_eq]
      have w205 : (m200 123 13).toInt = (m2 123 13).toInt := by rw [e203, up2_ne (by omega)]
      have w206 : (m200 123 16).toInt = (m2 123 16).toInt := by rw [e203, up2_ne (by omega)]
      have w207 : (m200 123 17).toInt = (m2 123 17).toInt := by rw [e203, up2_ne (by omega)]
      have w208 : (m200 123 14).toInt = (m2 123 14).toInt := by rw [e203, up2_ne (by omega)]
      have w209 : (m200 123 15).toInt = (m2 123 15).toInt := by rw [e203, up2_ne (by omega)]
      have kA : HW cb 1 m200 ∧ SLK m2 + 1 ≤ SLK m200 ∧ 0 ≤ SLK m2 ∧ NS m200 := ⟨(HW_move ka.1 (by rw [e203, up2_ne (by omega)]) (by rw [e203, up2_ne (by omega)]) (fun j => by rw [e203, up2_ne (by omega)]) (fun j => by rw [e203, up2_ne (by omega)])).1, by have := (HW_move (m' := m200) ka.1 (by rw [e203, up2_ne (by omega)]) (by rw [e203, up2_ne (by omega)]) (fun j => by rw [e203, up2_ne (by omega)]) (fun j => by rw [e203, up2_ne (by omega)])).2; omega, by omega, NS_eq hp4 (by omega) (fun j hj => by rw [e203, up2_ne (by omega)]; exact ka.2.2.2.2.1 j (by omega))⟩
      have ke := e203
      have kA2 := kA.2.1
      have kt78 : tR m200 = tR m := tR_eq (K202 123 13 rfl) (fun j => K202 129 j rfl)
      have kC : isC (tR m (m2 123 12).toInt) = true := isC_y (by omega)
      have kp78 : (m200 123 12).toInt = (m2 123 12).toInt + 1 := by omega
      have ko78 : (m200 123 15).toInt = (m 123 15).toInt := by omega
      refine pv_aload_n (M := mX12_readsCompared) 0 dX12_readsCompared_78 79 rfl rfl rfl ?_
      refine pv_callv (M := mX12_readsCompared) (as := []) (st := []) (kc2 := 0) (ks2 := 0) dX12_readsCompared_79 wd1425 YX12_readsSum ⟨wd1427, wd62⟩ (mk_get (tl123 hT)) rfl rfl (s_X12_readsSum_vz g hT I201 cb 1 kA.1 (by omega) (by have := kA.2.1; have := kA.2.2.1; omega) (by omega) (by omega) kA.2.2.2 (by first | omega | assumption | exact (iv_rng _).2 | exact (iv_rng _).1 | decide) (by first | omega | assumption | exact (iv_rng _).2 | exact (iv_rng _).1 | decide)) rfl rfl (Nat.le_of_ble_eq_true rfl) (by decide) rfl rfl 82 rfl (fun rv h1 q217 => ?_)
      obtain ⟨m218, n219, v222, rfl, rfl, I220, K221, pv222, qv222, rv222⟩ := q217
      replace rv222 : ((v222.toInt = 0 ∧ FLT (SU (tR m200) (eo (m200 123 15).toInt) (m200 123 12).toInt) (m218 123 14).toInt) ∨ (v222.toInt = 1 ∧ RS cb (1 + 1) m200 m218 ∧ SU (tR m200) (eo (m200 123 15).toInt) (m200 123 12).toInt = (0, (m218 123 12).toInt) ∧ (m218 123 15).toInt = (m200 123 15).toInt)) ∧ IFZ v222.toInt (SRZ m200 m218 (SUD (tR m200) (eo (m200 123 15).toInt) (m200 123 12).toInt)) := rv222
      have K221c := K221
      have w223 : (m218 123 13).toInt = (m200 123 13).toInt := congrArg Int32.toInt (K221 123 13 rfl)
      have K221 := K202.trans (K221.sub (fun _ _ q => q))
      show PV _ _ _ _ _ _ _ 82 [.ref 123, .int 7] [.int v222] _
      have kR2 := rv222.1
      rw [kt78, ko78, kp78] at kR2
      have kR2z := rv222.2
      rw [kt78] at kR2z
      refine pv_if_ne (M := mX12_readsCompared) (tgt := 87) dX12_readsCompared_82 85 rfl (by decide) (fun c228 => ?_) (fun c228 => ?_)
      · have c228 := iv_ne (X := v222.toInt) (Y := 0) c228 rfl (by decide)
        have kbb := (kR2.resolve_left (fun q => by have q1 := q.1; omega)).2
        have kb : RS cb 2 _ m218 := kbb.1
        have kbS := kbb.2.1
        have kbO := kbb.2.2
        have kbw := kbb.1.2.2.2.1
        have kb2 := kb.2.1
        have kb3 : (m218 123 16).toInt ≤ (m218 123 12).toInt := SLK_cm (m := m218) (by omega)
        have kb4 : (m218 123 12).toInt ≤ 160 := (I220 123 12).2
        have kbZ := IFZ.get kR2z (by omega)
        have kI87 : 0 ≤ (m218 123 16).toInt := (I220 123 16).1
        have kbSx : SU (tR m) (eo (m200 123 15).toInt) (m200 123 12).toInt = (0, (m218 123 12).toInt) := by rw [show (m200 123 15).toInt = (m 123 15).toInt by omega, show (m200 123 12).toInt = (m2 123 12).toInt + 1 by omega]; exact kbS
        refine pv_aload_n (M := mX12_readsCompared) 0 dX12_readsCompared_87 88 rfl rfl rfl ?_
        refine pv_iload_n (M := mX12_readsCompared) 1 dX12_readsCompared_88 89 rfl rfl rfl ?_
        refine pv_iconst (M := mX12_readsCompared) (v := 0) dX12_readsCompared_89 90 rfl (by decide) ?_
        have z240 : (7 : Int32).toInt = 7 := by decide
        have z241 : (0 : Int32).toInt = 0 := by decide
        refine pv_callv (M := mX12_readsCompared) (as := [.int 7, .int 0]) (st := []) (kc2 := 0) (ks2 := 0) dX12_readsCompared_90 wd1446 YX12_notes ⟨wd1448, wd67⟩ (mk_get (tl123 hT)) rfl rfl (s_X12_notes g hT I220 7 (by decide) (by decide) 0 (by decide) (by decide) (by first | omega | assumption | exact (iv_rng _).2 | exact (iv_rng _).1 | decide)) rfl rfl (Nat.le_of_ble_eq_true rfl) (by decide) rfl rfl 93 rfl (fun rv h1 q242 => ?_)
        obtain ⟨m243, n244, rfl, rfl, I245, K246, rm243⟩ := q242
        replace rm243 : NOTE (7 : Int) (0 : Int) m218 m243 := by have q_ := rm243; (try rw [z240] at q_); (try rw [z241] at q_); exact q_
        have K246c := K246
        have w247 : (m243 123 12).toInt = (m218 123 12).toInt := congrArg Int32.toInt (K246 123 12 rfl)
        have w248 : (m243 123 13).toInt = (m218 123 13).toInt := congrArg Int32.toInt (K246 123 13 rfl)
        have w249 : (m243 123 17).toInt = (m218 123 17).toInt := congrArg Int32.toInt (K246 123 17 rfl)
        have w250 : (m243 123 14).toInt = (m218 123 14).toInt := congrArg Int32.toInt (K246 123 14 rfl)
        have w251 : (m243 123 15).toInt = (m218 123 15).toInt := congrArg Int32.toInt (K246 123 15 rfl)
        have K246 := K221.trans (K246.sub (wl_sub (by decide)))
        show PV _ _ _ _ _ _ _ 93 [.ref 123, .int 7] [] _
        have kN := rm243
        have kB := NOTE_HW (d := -1) kN kb.1 (by omega) (by omega) (Or.inr (Or.inr (Or.inr ⟨by omega, by omega, rfl, by have := OPS_ge m218; omega⟩)))
        have kB : HW cb 1 m243 ∧ SLK m243 = SLK m218 - 1 := ⟨kB.1, kB.2.1⟩
        have kI93 : 0 ≤ (m243 123 16).toInt := (I245 123 16).1
        refine pv_aload_n (M := mX12_readsCompared) 0 dX12_readsCompared_93 94 rfl rfl rfl ?_
        refine pv_callv (M := mX12_readsCompared) (as := []) (st := []) (kc2 := 0) (ks2 := 0) dX12_readsCompared_94 wd1476 YX12_endsPiece ⟨wd1478, wd73⟩ (mk_get (tl123 hT)) rfl rfl (s_X12_endsPiece_vz g hT I245 cb 1 kB.1 (by omega) (by omega) (by first | omega | assumption | exact (iv_rng _).2 | exact (iv_rng _).1 | decide) (by first | omega | assumption | exact (iv_rng _).2 | exact (iv_rng _).1 | decide)) rfl rfl (Nat.le_of_ble_eq_true rfl) (by decide) rfl rfl 97 rfl (fun rv h1 q256 => ?_)
        obtain ⟨m257, n258, rfl, rfl, I259, K260, rm257⟩ := q256
        replace rm257 : ((EPI cb 1 m243 m257 ∧ ((m257 123 17).toInt = 0 ∨ opv (m257 131 ((m257 123 17).toInt - 1).toNat) ≠ 10)) ∧ (m257 123 15).toInt - (m257 123 17).toInt = (m243 123 15).toInt - (m243 123 17).toInt) ∧ CSX m243 m257 := rm257
        have K260c := K260
        have w261 : (m257 123 12).toInt = (m243 123 12).toInt := congrArg Int32.toInt (K260 123 12 rfl)
        have w262 : (m257 123 13).toInt = (m243 123 13).toInt := congrArg Int32.toInt (K260 123 13 rfl)
        have w263 : (m257 123 14).toInt = (m243 123 14).toInt := congrArg Int32.toInt (K260 123 14 rfl)
        have K260 := K246.trans (K260.sub (wl_sub (by decide)))
        show PV _ _ _ _ _ _ _ 97 [.ref 123, .int 7] [] _
        have kE := rm257.1.1
        have kEo := rm257.1.2
        have kEx := rm257.2
        have kCPo := CPZ_of (t := tR m) (how := 7) (m := m) (m1 := m2) (m2 := m200) (m3 := m218) (m4 := m243) kaZ kaS kC (by have q7 : opc 7 = 60 := (by decide); have q8 : opc 8 = 62 := (by decide); have q9 : opc 9 = 61 := (by decide); omega) (by omega) (by omega) (fun j => by rw [ke, up2_ne (by omega)]) (by rw [ke, up2_ne (by omega)]) ko78 (by omega) kbZ kbSx (by omega) kN (fun j hj => (kb.2.2.2.2.1 j (by have := ka.2.2.2.1; omega)).trans ((show m200 131 j = m2 131 j by rw [ke, up2_ne (by omega)]).trans (ka.2.2.2.2.1 j hj))) (by have := ka.2.2.2.1; have := kb.2.2.2.1; omega) (by omega)
        have kEx0 := kEx.2.1
        have kCPz := CPZ_ns kCPo.1 kEx (by omega) (fun i hi => kE.1.2.2.2.2.2.2.1 (wtN m243 - 1 - i) (by unfold wtN; omega) (by unfold wtN; omega)) (fun j => kE.1.2.2.2.2.2.1 j) (by omega) (by omega) (congrArg Int32.toInt (K260c 123 12 rfl))
        refine pv_iconst (M := mX12_readsCompared) (v := 1) dX12_readsCompared_97 98 rfl (by decide) ?_
        have z270 : (1 : Int32).toInt = 1 := by decide
        exact pv_iret (M := mX12_readsCompared) dX12_readsCompared_98 rfl rfl ⟨_, _, _, rfl, rfl, I259, K260, by decide, by decide, ⟨(Or.inr ⟨by decide, RC.of (by omega) ka ke (by omega) kb kN (by omega) (by omega) kE.1 (K260c 123 12 rfl) (K260c 123 13 rfl), by rw [CM_ok kaS kC, kbS, show (m218 123 12).toInt = (m257 123 12).toInt by omega], by omega, kE.2⟩), IFZ.is kCPz⟩⟩
      · have c228 := iv_eq (X := v222.toInt) (Y := 0) c228 rfl (by decide)
        refine pv_iconst (M := mX12_readsCompared) (v := 0) dX12_readsCompared_85 86 rfl (by decide) ?_
        have z271 : (0 : Int32).toInt = 0 := by decide
        exact pv_iret (M := mX12_readsCompared) dX12_readsCompared_86 rfl rfl ⟨_, _, _, rfl, rfl, I220, K221, by decide, by decide, ⟨(Or.inl ⟨by decide, by rw [CM_ok kaS kC]; exact (kR2.resolve_right (fun q => by have q1 := q.1; omega)).2⟩), IFZ.no (by decide)⟩⟩
  · have c10 := iv_eq (X := v6.toInt) (Y := 0) c10 rfl (by decide)
    refine pv_iconst (M := mX12_readsCompared) (v := 0) dX12_readsCompared_7 8 rfl (by decide) ?_
    have z272 : (0 : Int32).toInt = 0 := by decide
    exact pv_iret (M := mX12_readsCompared) dX12_readsCompared_8 rfl rfl ⟨_, _, _, rfl, rfl, I4, K5, by decide, by decide, ⟨(Or.inl ⟨by decide, CM_fl (kR.resolve_right (fun q => by have q1 := q.1; omega)).2⟩), IFZ.no (by decide)⟩⟩

set_option maxHeartbeats 2000000 in
set_option maxRecDepth 20000 in
theorem s_X12_readsCondition_vbz (g : pv_G) {T : List mv_T} {m : Nat → Nat → Int32} {n : Nat → Nat → Int64} {r : Nat → Value} {m0 : Nat → Nat → Int32} (hT : TX T) (I : IV BB m) (Kp : fr (wl [(123, 123, some 12), (123, 123, some 14), (123, 123, some 15), (123, 123, some 16), (123, 123, some 17), (123, 123, some 19), (130, 130, none), (131, 131, none)]) m0 m) (cb : Int) (p40 : Int) (kk : ∀ (m2 : Nat → Nat → Int32) (n2 : Nat → Nat → Int64), QC cb 0 m0 m2 → QS (tR m0) (CND (tR m0) (m0 123 12).toInt) m2 → QZ (tR m0) m0 m2 → IV BB m2 → fr (wl [(123, 123, some 12), (123, 123, some 14), (123, 123, some 15), (123, 123, some 16), (123, 123, some 17), (123, 123, some 19), (130, 130, none), (131, 131, none)]) m0 m2 → p40 + 1 ≤ (m2 123 12).toInt → PV none g mX12_readsCondition (sqI T BB (wl [(123, 123, some 12), (123, 123, some 14), (123, 123, some 15), (123, 123, some 16), (123, 123, some 17), (123, 123, some 19), (130, 130, none), (131, 131, none)]) r m0 0 1 (fun m' v => ((v.toInt = 0 ∧ FLT (CND (tR m0) (m0 123 12).toInt) (m' 123 14).toInt) ∨ (v.toInt = 1 ∧ (WFc (m' 130) cb.toNat (m' 123 16).toInt.toNat ∧ KB cb m0 m' ∧ 0 ≤ SLK m' ∧ cb ≤ (m' 123 16).toInt ∧ (m0 123 12).toInt ≤ (m' 123 12).toInt ∧ (m' 123 12).toInt ≤ (m' 123 13).toInt ∧ (m' 123 13).toInt = (m0 123 13).toInt ∧ (m' 123 17).toInt = 0) ∧ CND (tR m0) (m0 123 12).toInt = (0, (m' 123 12).toInt))) ∧ IFZ v.toInt (SRZ m0 m' (CND_ (tR m0) 5 ((m0 123 12).toInt + 1)) ∧ B1 (CND_ (tR m0) 5 ((m0 123 12).toInt + 1))))) 7 0 0 40 [.ref 123] [] (mk T m2 n2 r)) (hp0 : QC cb 1 m0 m) (hp1 : PSs (tR m0) (CND (tR m0) (m0 123 12).toInt) m) (hp2 : opv (m 131 ((m 123 17).toInt - 1).toNat) ≠ 10) (hp3 : p40 ≤ (m 123 12).toInt) (hp4 : AZ (tR m0) m0 m) (hp5 : cb = (m0 123 16).toInt) (hp6 : 0 ≤ (m0 123 16).toInt) : PV none g mX12_readsCondition (sqI T BB (wl [(123, 123, some 12), (123, 123, some 14), (123, 123, some 15), (123, 123, some 16), (123, 123, some 17), (123, 123, some 19), (130, 130, none), (131, 131, none)]) r m0 0 1 (fun m' v => ((v.toInt = 0 ∧ FLT (CND (tR m0) (m0 123 12).toInt) (m' 123 14).toInt) ∨ (v.toInt = 1 ∧ (WFc (m' 130) cb.toNat (m' 123 16).toInt.toNat ∧ KB cb m0 m' ∧ 0 ≤ SLK m' ∧ cb ≤ (m' 123 16).toInt ∧ (m0 123 12).toInt ≤ (m' 123 12).toInt ∧ (m' 123 12).toInt ≤ (m' 123 13).toInt ∧ (m' 123 13).toInt = (m0 123 13).toInt ∧ (m' 123 17).toInt = 0) ∧ CND (tR m0) (m0 123 12).toInt = (0, (m' 123 12).toInt))) ∧ IFZ v.toInt (SRZ m0 m' (CND_ (tR m0) 5 ((m0 123 12).toInt + 1)) ∧ B1 (CND_ (tR m0) 5 ((m0 123 12).toInt + 1))))) 7 0 0 92 [.ref 123] [] (mk T m n r) := by
  have z251 : 0 ≤ (m 123 12).toInt ∧ (m 123 12).toInt ≤ 160 := I 123 12
  have z252 : 0 ≤ (m 123 13).toInt ∧ (m 123 13).toInt ≤ 160 := I 123 13
  have z253 : 0 ≤ (m 123 16).toInt ∧ (m 123 16).toInt ≤ 180 := I 123 16
  have z254 : 0 ≤ (m 123 17).toInt ∧ (m 123 17).toInt ≤ 180 := I 123 17
  have lp6 : ∀ (fuel5 : Nat)  (m1 : Nat → Nat → Int32) (n2 : Nat → Nat → Int64), (QC cb 1 m0 m1) → (p40 ≤ (m1 123 12).toInt) → (PSs (tR m0) (CND (tR m0) (m0 123 12).toInt) m1) → (opv (m1 131 ((m1 123 17).toInt - 1).toNat) ≠ 10) → (AZ (tR m0) m0 m1) → IV BB m1 → fr (wl [(123, 123, some 12), (123, 123, some 14), (123, 123, some 15), (123, 123, some 16), (123, 123, some 17), (123, 123, some 19), (130, 130, none), (131, 131, none)]) m0 m1 → ((160 - (m1 123 12).toInt) : Int).toNat < fuel5 → PV none g mX12_readsCondition (sqI T BB (wl [(123, 123, some 12), (123, 123, some 14), (123, 123, some 15), (123, 123, some 16), (123, 123, some 17), (123, 123, some 19), (130, 130, none), (131, 131, none)]) r m0 0 1 (fun m' v => ((v.toInt = 0 ∧ FLT (CND (tR m0) (m0 123 12).toInt) (m' 123 14).toInt) ∨ (v.toInt = 1 ∧ (WFc (m' 130) cb.toNat (m' 123 16).toInt.toNat ∧ KB cb m0 m' ∧ 0 ≤ SLK m' ∧ cb ≤ (m' 123 16).toInt ∧ (m0 123 12).toInt ≤ (m' 123 12).toInt ∧ (m' 123 12).toInt ≤ (m' 123 13).toInt ∧ (m' 123 13).toInt = (m0 123 13).toInt ∧ (m' 123 17).toInt = 0) ∧ CND (tR m0) (m0 123 12).toInt = (0, (m' 123 12).toInt))) ∧ IFZ v.toInt (SRZ m0 m' (CND_ (tR m0) 5 ((m0 123 12).toInt + 1)) ∧ B1 (CND_ (tR m0) 5 ((m0 123 12).toInt + 1))))) 7 0 0 92 [.ref 123] [] (mk T m1 n2 r) := by
    intro fuel5
    induction fuel5 with
    | zero => intro  m1 n2 b8 b9 b10 b11 b12 I3 K4 z13; omega
    | succ fuel5 ih7 =>
      intro  m1 n2 b8 b9 b10 b11 b12 I3 K4 z13
      have z14 : 0 ≤ (m1 123 12).toInt ∧ (m1 123 12).toInt ≤ 160 := I3 123 12
      have z15 : 0 ≤ (m1 123 13).toInt ∧ (m1 123 13).toInt ≤ 160 := I3 123 13
      have z16 : 0 ≤ (m1 123 16).toInt ∧ (m1 123 16).toInt ≤ 180 := I3 123 16
      have z17 : 0 ≤ (m1 123 17).toInt ∧ (m1 123 17).toInt ≤ 180 := I3 123 17
      have kg := (show QC cb 1 m0 m1 by assumption)
      have kg1 := kg.2.1
      have kg2 : (m1 123 16).toInt ≤ (m1 123 12).toInt := SLK_cm kg.2.1
      have kg3 := kg.2.2.2.1
      have kg4 := kg.2.2.2.2.1
      have kg5 := kg.2.2.2.2.2.2.2.1
      have kg6 := kg.2.2.2.2.2.2.2.2.1
      have kg7 := kg.2.2.2.2.2.2.2.2.2
      have kgp := (show PSs (tR m0) (CND (tR m0) (m0 123 12).toInt) m1 by assumption)
      have kgt := (show opv (m1 131 ((m1 123 17).toInt - 1).toNat) ≠ 10 by assumption)
      have kt92 : tR m1 = tR m0 := tR_eq (K4 123 13 rfl) (fun j => K4 129 j rfl)
      have kTX : TXT (tR m0) (m1 123 13).toInt := by rw [← kt92]; exact TXT_R I3
      have kpo := kgp.1.1
      have kpc := CON_ge m1
      have kpc2 := kgp.2.2
      have kgz := (show AZ (tR m0) m0 m1 by assumption)
      refine pv_aload_n (M := mX12_readsCondition) 0 dX12_readsCondition_92 93 rfl rfl rfl ?_
      refine pv_callv (M := mX12_readsCondition) (as := []) (st := []) (kc2 := 0) (ks2 := 0) dX12_readsCondition_93 wd1417 YX12_here ⟨wd1419, wd60⟩ (mk_get (tl123 hT)) rfl rfl (s_X12_here g hT I3) rfl rfl (Nat.le_of_ble_eq_true rfl) (by decide) rfl rfl 96 rfl (fun rv h1 q34 => ?_)
      obtain ⟨v35, rfl, rfl, pv35, qv35, rv35⟩ := q34
      replace rv35 : v35.toInt = hereV m1 ∧ (v35.toInt = -1 ∨ (m1 123 12).toInt < (m1 123 13).toInt) := rv35
      show PV _ _ _ _ _ _ _ 96 [.ref 123] [.int v35] _
      have k96 : v35.toInt = tR m0 (m1 123 12).toInt := rv35.1.trans (congrFun kt92 _)
      refine pv_bipush (M := mX12_readsCondition) (v := 41) dX12_readsCondition_96 98 rfl (by decide) ?_
      refine pv_icmp_ne (M := mX12_readsCondition) (tgt := 152) dX12_readsCondition_98 101 rfl (by decide) (fun c37 => ?_) (fun c37 => ?_)
      · have c37 := iv_ne (X := v35.toInt) (Y := 41) c37 rfl (by decide)
        refine pv_aload_n (M := mX12_readsCondition) 0 dX12_readsCondition_152 153 rfl rfl rfl ?_
        refine pv_callv (M := mX12_readsCondition) (as := []) (st := []) (kc2 := 0) (ks2 := 0) dX12_readsCondition_153 wd1417 YX12_here ⟨wd1419, wd60⟩ (mk_get (tl123 hT)) rfl rfl (s_X12_here g hT I3) rfl rfl (Nat.le_of_ble_eq_true rfl) (by decide) rfl rfl 156 rfl (fun rv h1 q38 => ?_)
        obtain ⟨v39, rfl, rfl, pv39, qv39, rv39⟩ := q38
        replace rv39 : v39.toInt = hereV m1 ∧ (v39.toInt = -1 ∨ (m1 123 12).toInt < (m1 123 13).toInt) := rv39
        have sv39 : v35 = v39 := Int32.toInt_inj.mp (rv35.1.trans rv39.1.symm)
        subst sv39
        clear pv39 qv39 rv39
        show PV _ _ _ _ _ _ _ 156 [.ref 123] [.int v35] _
        have k156 : v35.toInt = tR m0 (m1 123 12).toInt := rv35.1.trans (congrFun kt92 _)
        refine pv_bipush (M := mX12_readsCondition) (v := 38) dX12_readsCondition_156 158 rfl (by decide) ?_
        refine pv_icmp_eq (M := mX12_readsCondition) (tgt := 180) dX12_readsCondition_158 161 rfl (by decide) (fun c41 => ?_) (fun c41 => ?_)
        · have c41 := iv_eq (X := v35.toInt) (Y := 38) c41 rfl (by decide)
          have kB : isB (tR m0 (m1 123 12).toInt) = true := isB_y (by omega)
          refine pv_aload_n (M := mX12_readsCondition) 0 dX12_readsCondition_180 181 rfl rfl rfl ?_
          refine pv_aload_n (M := mX12_readsCondition) 0 dX12_readsCondition_181 182 rfl rfl rfl ?_
          refine pv_callv (M := mX12_readsCondition) (as := []) (st := [.ref 123]) (kc2 := 0) (ks2 := 0) dX12_readsCondition_182 wd1417 YX12_here ⟨wd1419, wd60⟩ (mk_get (tl123 hT)) rfl rfl (s_X12_here g hT I3) rfl rfl (Nat.le_of_ble_eq_true rfl) (by decide) rfl rfl 185 rfl (fun rv h1 q43 => ?_)
          obtain ⟨v44, rfl, rfl, pv44, qv44, rv44⟩ := q43
          replace rv44 : v44.toInt = hereV m1 ∧ (v44.toInt = -1 ∨ (m1 123 12).toInt < (m1 123 13).toInt) := rv44
          have sv44 : v35 = v44 := Int32.toInt_inj.mp (rv35.1.trans rv44.1.symm)
          subst sv44
          clear pv44 qv44 rv44
          show PV _ _ _ _ _ _ _ 185 [.ref 123] [.int v35, .ref 123] _
          have k185 : v35.toInt = tR m0 (m1 123 12).toInt := rv35.1.trans (congrFun kt92 _)
          refine pv_bipush (M := mX12_readsCondition) (v := 124) dX12_readsCondition_185 187 rfl (by decide) ?_
          refine pv_icmp_ne (M := mX12_readsCondition) (tgt := 194) dX12_readsCondition_187 190 rfl (by decide) (fun c46 => ?_) (fun c46 => ?_)
          · have c46 := iv_ne (X := v35.toInt) (Y := 124) c46 rfl (by decide)
            refine pv_iconst (M := mX12_readsCondition) (v := 0) dX12_readsCondition_194 195 rfl (by decide) ?_
            have z47 : (0 : Int32).toInt = 0 := by decide
            refine pv_callv (M := mX12_readsCondition) (as := [.int 0]) (st := []) (kc2 := 0) (ks2 := 0) dX12_readsCondition_195 wd1480 YX12_lands ⟨wd1482, wd74⟩ (mk_get (tl123 hT)) rfl rfl (s_X12_lands_vz g hT I3 0 (by decide) (by decide) cb 1 kg.1 (by rw [NS_ops kg.2.2.2.2.2.1]; decide) kg.2.1) rfl rfl (Nat.le_of_ble_eq_true rfl) (by decide) rfl rfl 198 rfl (fun rv h1 q48 => ?_)
            obtain ⟨m49, n50, rfl, rfl, I51, K52, rm49⟩ := q48
            replace rm49 : (LDI cb 1 m1 m49 ∧ ((0 : Int) ≠ 0 → (m49 123 17).toInt = 0 ∨ (opv (m49 131 ((m49 123 17).toInt - 1).toNat) ≠ 11 ∧ opv (m49 131 ((m49 123 17).toInt - 1).toNat) ≠ 12))) ∧ LDX m1 m49 ∧ ((m49 123 17).toInt = 0 ∨ opv (m49 131 ((m49 123 17).toInt - 1).toNat) ≠ 11) ∧ LTZ (0 : Int) m1 m49 := by have q_ := rm49; (try rw [z47] at q_); exact q_
            have K52c := K52
            have w53 : (m49 123 12).toInt = (m1 123 12).toInt := congrArg Int32.toInt (K52 123 12 rfl)
            have w54 : (m49 123 13).toInt = (m1 123 13).toInt := congrArg Int32.toInt (K52 123 13 rfl)
            have w55 : (m49 123 16).toInt = (m1 123 16).toInt := congrArg Int32.toInt (K52 123 16 rfl)
            have w56 : (m49 123 14).toInt = (m1 123 14).toInt := congrArg Int32.toInt (K52 123 14 rfl)
            have w57 : (m49 123 15).toInt = (m1 123 15).toInt := congrArg Int32.toInt (K52 123 15 rfl)
            have K52 := K4.trans (K52.sub (wl_sub (by decide)))
            show PV _ _ _ _ _ _ _ 198 [.ref 123] [] _
            have kl := rm49.1
            have kJ := QC.lnd kg kl.1 (K52c 123 12 rfl) (K52c 123 13 rfl)
            have kJ1 := kJ.2.1
            have kJ2 : (m49 123 16).toInt ≤ (m49 123 12).toInt := SLK_cm kJ.2.1
            have kJ3 := kJ.2.2.2.1
            have kJ4 := kJ.2.2.2.2.1
            have kJ6 := kJ.2.2.2.2.2.2.2.2.1
            have kJ7 := kJ.2.2.2.2.2.2.2.2.2
            have kJP := PSs_lands kgp kl.1 (congrArg Int32.toInt (K52c 123 15 rfl)) (congrArg Int32.toInt (K52c 123 12 rfl))
            have kJT := (LDI_top kgp.2.1 kgt kl.1).resolve_right (by omega)
            have kt198 : tR m49 = tR m0 := tR_eq (K52 123 13 rfl) (fun j => K52 129 j rfl)
            have kld := rm49.2.1
            have klq := rm49.2.2.1
            have klz := rm49.2.2.2
            refine pv_aload_n (M := mX12_readsCondition) 0 dX12_readsCondition_198 199 rfl rfl rfl ?_
            refine pv_aload_n (M := mX12_readsCondition) 0 dX12_readsCondition_199 200 rfl rfl rfl ?_
            refine pv_callv (M := mX12_readsCondition) (as := []) (st := [.ref 123]) (kc2 := 0) (ks2 := 0) dX12_readsCondition_200 wd1417 YX12_here ⟨wd1419, wd60⟩ (mk_get (tl123 hT)) rfl rfl (s_X12_here g hT I51) rfl rfl (Nat.le_of_ble_eq_true rfl) (by decide) rfl rfl 203 rfl (fun rv h1 q72 => ?_)
            obtain ⟨v73, rfl, rfl, pv73, qv73, rv73⟩ := q72
            replace rv73 : v73.toInt = hereV m49 ∧ (v73.toInt = -1 ∨ (m49 123 12).toInt < (m49 123 13).toInt) := rv73
            have sv73 : v35 = v73 := Int32.toInt_inj.mp (rv35.1.trans ((show hereV m49 = hereV m1 by unfold hereV; rw [K52c 123 12 rfl, K52c 123 13 rfl, K52c 129 (m1 123 12).toInt.toNat rfl]).symm.trans rv73.1.symm))
            subst sv73
            clear pv73 qv73 rv73
            show PV _ _ _ _ _ _ _ 203 [.ref 123] [.int v35, .ref 123] _
            refine pv_bipush (M := mX12_readsCondition) (v := 38) dX12_readsCondition_203 205 rfl (by decide) ?_
            refine pv_icmp_ne (M := mX12_readsCondition) (tgt := 213) dX12_readsCondition_205 208 rfl (by decide) (fun c74 => ?_) (fun c74 => ?_)
            · have c74 := iv_ne (X := v35.toInt) (Y := 38) c74 rfl (by decide)
              omega
            · have c74 := iv_eq (X := v35.toInt) (Y := 38) c74 rfl (by decide)
              refine pv_bipush (M := mX12_readsCondition) (v := 11) dX12_readsCondition_208 210 rfl (by decide) ?_
              refine pv_goto (M := mX12_readsCondition) (tgt := 215) dX12_readsCondition_210 (by decide) ?_
              have z75 : (11 : Int32).toInt = 11 := by decide
              refine pv_callv (M := mX12_readsCondition) (as := [.int 11]) (st := []) (kc2 := 0) (ks2 := 0) dX12_readsCondition_215 wd1484 YX12_jumps ⟨wd1486, wd75⟩ (mk_get (tl123 hT)) rfl rfl (s_X12_jumps_vz g hT I51 11 (by decide) (by decide) cb 1 kJ.1 (by omega) kJ.2.1 (by omega) (by omega)) rfl rfl (Nat.le_of_ble_eq_true rfl) (by decide) rfl rfl 218 rfl (fun rv h1 q76 => ?_)
              obtain ⟨m77, n78, rfl, rfl, I79, K80, rm77⟩ := q76
              replace rm77 : (JPI cb (1 - 1) m49 m77) ∧ JPX (11 : Int) m49 m77 := by have q_ := rm77; (try rw [z75] at q_); exact q_
              have K80c := K80
              have w81 : (m77 123 13).toInt = (m49 123 13).toInt := congrArg Int32.toInt (K80 123 13 rfl)
              have w82 : (m77 123 14).toInt = (m49 123 14).toInt := congrArg Int32.toInt (K80 123 14 rfl)
              have w83 : (m77 123 15).toInt = (m49 123 15).toInt := congrArg Int32.toInt (K80 123 15 rfl)
              have K80 := K52.trans (K80.sub (wl_sub (by decide)))
              show PV _ _ _ _ _ _ _ 218 [.ref 123] [] _
              have kj : JPI cb 0 _ m77 := rm77.1
              have kqJ := PSs_jump (m := m49) (m2 := m77) kJP (by omega) kTX (by omega) (by rw [show (m49 123 12).toInt = (m1 123 12).toInt by omega]; exact kB) kJT kj (congrArg Int32.toInt (K80c 123 15 rfl))
              have kjx := rm77.2
              have kqz : QZ (tR m0) m0 m77 := by first | exact LZ_bar (AZ_land kgz kld (LDX.kcc kld (fun j j1 j2 => by have w0 := hp6; have q := kg.1.2 j (by show _ < ((m1 123 17).toInt).toNat; omega) (kld.2.2.2.2.1 j j1 j2); have q1 := q.1; unfold cmN; omega) kgz.1) (by omega) (by omega) kgt (kl.2 (by decide)) (by omega) (by omega) (by omega) (by have b := kJP.2.1.1 ((m49 123 17).toInt - 1).toNat (by omega); have c := (kl.2 (by decide)).resolve_left (by omega); have d := kJT; omega)) kqJ.1 kTX (by omega) (by rw [show (m49 123 12).toInt = (m1 123 12).toInt by omega]; omega) (by omega) (by omega) kjx | exact AZ_amp kgz kld (LDX.kcc kld (fun j j1 j2 => by have w0 := hp6; have q := kg.1.2 j (by show _ < ((m1 123 17).toInt).toNat; omega) (kld.2.2.2.2.1 j j1 j2); have q1 := q.1; unfold cmN; omega) kgz.1) (by omega) (by omega) (by omega) kgt (klz (by decide)) klq (by omega) (by omega) kqJ.1 kTX (by omega) (by omega) kjx
              refine pv_goto (M := mX12_readsCondition) (tgt := 40) dX12_readsCondition_218 (by decide) ?_
              have kbk : QC cb 0 m0 m77 := QC.jmp kJ kj (by omega)
              have kbm : p40 + 1 ≤ (m77 123 12).toInt := by have := kj.2.2.2.2.2.2.1; omega
              exact kk m77 n78 kbk kqJ kqz I79 K80 kbm
          · have c46 := iv_eq (X := v35.toInt) (Y := 124) c46 rfl (by decide)
            omega
        · have c41 := iv_ne (X := v35.toInt) (Y := 38) c41 rfl (by decide)
          refine pv_aload_n (M := mX12_readsCondition) 0 dX12_readsCondition_161 162 rfl rfl rfl ?_
          refine pv_callv (M := mX12_readsCondition) (as := []) (st := []) (kc2 := 0) (ks2 := 0) dX12_readsCondition_162 wd1417 YX12_here ⟨wd1419, wd60⟩ (mk_get (tl123 hT)) rfl rfl (s_X12_here g hT I3) rfl rfl (Nat.le_of_ble_eq_true rfl) (by decide) rfl rfl 165 rfl (fun rv h1 q91 => ?_)
          obtain ⟨v92, rfl, rfl, pv92, qv92, rv92⟩ := q91
          replace rv92 : v92.toInt = hereV m1 ∧ (v92.toInt = -1 ∨ (m1 123 12).toInt < (m1 123 13).toInt) := rv92
          have sv92 : v35 = v92 := Int32.toInt_inj.mp (rv35.1.trans rv92.1.symm)
          subst sv92
          clear pv92 qv92 rv92
          show PV _ _ _ _ _ _ _ 165 [.ref 123] [.int v35] _
          have k165 : v35.toInt = tR m0 (m1 123 12).toInt := rv35.1.trans (congrFun kt92 _)
          refine pv_bipush (M := mX12_readsCondition) (v := 124) dX12_readsCondition_165 167 rfl (by decide) ?_
          refine pv_icmp_eq (M := mX12_readsCondition) (tgt := 180) dX12_readsCondition_167 170 rfl (by decide) (fun c94 => ?_) (fun c94 => ?_)
          · have c94 := iv_eq (X := v35.toInt) (Y := 124) c94 rfl (by decide)
            have kB : isB (tR m0 (m1 123 12).toInt) = true := isB_y (by omega)
            refine pv_aload_n (M := mX12_readsCondition) 0 dX12_readsCondition_180 181 rfl rfl rfl ?_
            refine pv_aload_n (M := mX12_readsCondition) 0 dX12_readsCondition_181 182 rfl rfl rfl ?_
            refine pv_callv (M := mX12_readsCondition) (as := []) (st := [.ref 123]) (kc2 := 0) (ks2 := 0) dX12_readsCondition_182 wd1417 YX12_here ⟨wd1419, wd60⟩ (mk_get (tl123 hT)) rfl rfl (s_X12_here g hT I3) rfl rfl (Nat.le_of_ble_eq_true rfl) (by decide) rfl rfl 185 rfl (fun rv h1 q96 => ?_)
            obtain ⟨v97, rfl, rfl, pv97, qv97, rv97⟩ := q96
            replace rv97 : v97.toInt = hereV m1 ∧ (v97.toInt = -1 ∨ (m1 123 12).toInt < (m1 123 13).toInt) := rv97
            have sv97 : v35 = v97 := Int32.toInt_inj.mp (rv35.1.trans rv97.1.symm)
            subst sv97
            clear pv97 qv97 rv97
            show PV _ _ _ _ _ _ _ 185 [.ref 123] [.int v35, .ref 123] _
            have k185 : v35.toInt = tR m0 (m1 123 12).toInt := rv35.1.trans (congrFun kt92 _)
            refine pv_bipush (M := mX12_readsCondition) (v := 124) dX12_readsCondition_185 187 rfl (by decide) ?_
            refine pv_icmp_ne (M := mX12_readsCondition) (tgt := 194) dX12_readsCondition_187 190 rfl (by decide) (fun c99 => ?_) (fun c99 => ?_)
            · have c99 := iv_ne (X := v35.toInt) (Y := 124) c99 rfl (by decide)
              omega
            · have c99 := iv_eq (X := v35.toInt) (Y := 124) c99 rfl (by decide)
              refine pv_iconst (M := mX12_readsCondition) (v := 1) dX12_readsCondition_190 191 rfl (by decide) ?_
              refine pv_goto (M := mX12_readsCondition) (tgt := 195) dX12_readsCondition_191 (by decide) ?_
              have z100 : (1 : Int32).toInt = 1 := by decide
              refine pv_callv (M := mX12_readsCondition) (as := [.int 1]) (st := []) (kc2 := 0) (ks2 := 0) dX12_readsCondition_195 wd1480 YX12_lands ⟨wd1482, wd74⟩ (mk_get (tl123 hT)) rfl rfl (s_X12_lands_vz g hT I3 1 (by decide) (by decide) cb 1 kg.1 (by rw [NS_ops kg.2.2.2.2.2.1]; decide) kg.2.1) rfl rfl (Nat.le_of_ble_eq_true rfl) (by decide) rfl rfl 198 rfl (fun rv h1 q101 => ?_)
              obtain ⟨m102, n103, rfl, rfl, I104, K105, rm102⟩ := q101
              replace rm102 : (LDI cb 1 m1 m102 ∧ ((1 : Int) ≠ 0 → (m102 123 17).toInt = 0 ∨ (opv (m102 131 ((m102 123 17).toInt - 1).toNat) ≠ 11 ∧ opv (m102 131 ((m102 123 17).toInt - 1).toNat) ≠ 12))) ∧ LDX m1 m102 ∧ ((m102 123 17).toInt = 0 ∨ opv (m102 131 ((m102 123 17).toInt - 1).toNat) ≠ 11) ∧ LTZ (1 : Int) m1 m102 := by have q_ := rm102; (try rw [z100] at q_); exact q_
              have K105c := K105
              have w106 : (m102 123 12).toInt = (m1 123 12).toInt := congrArg Int32.toInt (K105 123 12 rfl)
              have w107 : (m102 123 13).toInt = (m1 123 13).toInt := congrArg Int32.toInt (K105 123 13 rfl)
              have w108 : (m102 123 16).toInt = (m1 123 16).toInt := congrArg Int32.toInt (K105 123 16 rfl)
              have w109 : (m102 123 14).toInt = (m1 123 14).toInt := congrArg Int32.toInt (K105 123 14 rfl)
              have w110 : (m102 123 15).toInt = (m1 123 15).toInt := congrArg Int32.toInt (K105 123 15 rfl)
              have K105 := K4.trans (K105.sub (wl_sub (by decide)))
              show PV _ _ _ _ _ _ _ 198 [.ref 123] [] _
              have kl := rm102.1
              have kJ := QC.lnd kg kl.1 (K105c 123 12 rfl) (K105c 123 13 rfl)
              have kJ1 := kJ.2.1
              have kJ2 : (m102 123 16).toInt ≤ (m102 123 12).toInt := SLK_cm kJ.2.1
              have kJ3 := kJ.2.2.2.1
              have kJ4 := kJ.2.2.2.2.1
              have kJ6 := kJ.2.2.2.2.2.2.2.2.1
              have kJ7 := kJ.2.2.2.2.2.2.2.2.2
              have kJP := PSs_lands kgp kl.1 (congrArg Int32.toInt (K105c 123 15 rfl)) (congrArg Int32.toInt (K105c 123 12 rfl))
              have kJT := (LDI_top kgp.2.1 kgt kl.1).resolve_right (by omega)
              have kt198 : tR m102 = tR m0 := tR_eq (K105 123 13 rfl) (fun j => K105 129 j rfl)
              have kld := rm102.2.1
              have klq := rm102.2.2.1
              have klz := rm102.2.2.2
              refine pv_aload_n (M := mX12_readsCondition) 0 dX12_readsCondition_198 199 rfl rfl rfl ?_
              refine pv_aload_n (M := mX12_readsCondition) 0 dX12_readsCondition_199 200 rfl rfl rfl ?_
              refine pv_callv (M := mX12_readsCondition) (as := []) (st := [.ref 123]) (kc2 := 0) (ks2 := 0) dX12_readsCondition_200 wd1417 YX12_here ⟨wd1419, wd60⟩ (mk_get (tl123 hT)) rfl rfl (s_X12_here g hT I104) rfl rfl (Nat.le_of_ble_eq_true rfl) (by decide) rfl rfl 203 rfl (fun rv h1 q125 => ?_)
              obtain ⟨v126, rfl, rfl, pv126, qv126, rv126⟩ := q125
              replace rv126 : v126.toInt = hereV m102 ∧ (v126.toInt = -1 ∨ (m102 123 12).toInt < (m102 123 13).toInt) := rv126
              have sv126 : v35 = v126 := Int32.toInt_inj.mp (rv35.1.trans ((show hereV m102 = hereV m1 by unfold hereV; rw [K105c 123 12 rfl, K105c 123 13 rfl, K105c 129 (m1 123 12).toInt.toNat rfl]).symm.trans rv126.1.symm))
              subst sv126
              clear pv126 qv126 rv126
              show PV _ _ _ _ _ _ _ 203 [.ref 123] [.int v35, .ref 123] _
              refine pv_bipush (M := mX12_readsCondition) (v := 38) dX12_readsCondition_203 205 rfl (by decide) ?_
              refine pv_icmp_ne (M := mX12_readsCondition) (tgt := 213) dX12_readsCondition_205 208 rfl (by decide) (fun c127 => ?_) (fun c127 => ?_)
              · have c127 := iv_ne (X := v35.toInt) (Y := 38) c127 rfl (by decide)
                refine pv_bipush (M := mX12_readsCondition) (v := 12) dX12_readsCondition_213 215 rfl (by decide) ?_
                have z128 : (12 : Int32).toInt = 12 := by decide
                refine pv_callv (M := mX12_readsCondition) (as := [.int 12]) (st := []) (kc2 := 0) (ks2 := 0) dX12_readsCondition_215 wd1484 YX12_jumps ⟨wd1486, wd75⟩ (mk_get (tl123 hT)) rfl rfl (s_X12_jumps_vz g hT I104 12 (by decide) (by decide) cb 1 kJ.1 (by omega) kJ.2.1 (by omega) (by omega)) rfl rfl (Nat.le_of_ble_eq_true rfl) (by decide) rfl rfl 218 rfl (fun rv h1 q129 => ?_)
                obtain ⟨m130, n131, rfl, rfl, I132, K133, rm130⟩ := q129
                replace rm130 : (JPI cb (1 - 1) m102 m130) ∧ JPX (12 : Int) m102 m130 := by have q_ := rm130; (try rw [z128] at q_); exact q_
                have K133c := K133
                have w134 : (m130 123 13).toInt = (m102 123 13).toInt := congrArg Int32.toInt (K133 123 13 rfl)
                have w135 : (m130 123 14).toInt = (m102 123 14).toInt := congrArg Int32.toInt (K133 123 14 rfl)
                have w136 : (m130 123 15).toInt = (m102 123 15).toInt := congrArg Int32.toInt (K133 123 15 rfl)
                have K133 := K105.trans (K133.sub (wl_sub (by decide)))
                show PV _ _ _ _ _ _ _ 218 [.ref 123] [] _
                have kj : JPI cb 0 _ m130 := rm130.1
                have kqJ := PSs_jump (m := m102) (m2 := m130) kJP (by omega) kTX (by omega) (by rw [show (m102 123 12).toInt = (m1 123 12).toInt by omega]; exact kB) kJT kj (congrArg Int32.toInt (K133c 123 15 rfl))
                have kjx := rm130.2
                have kqz : QZ (tR m0) m0 m130 := by first | exact LZ_bar (AZ_land kgz kld (LDX.kcc kld (fun j j1 j2 => by have w0 := hp6; have q := kg.1.2 j (by show _ < ((m1 123 17).toInt).toNat; omega) (kld.2.2.2.2.1 j j1 j2); have q1 := q.1; unfold cmN; omega) kgz.1) (by omega) (by omega) kgt (kl.2 (by decide)) (by omega) (by omega) (by omega) (by have b := kJP.2.1.1 ((m102 123 17).toInt - 1).toNat (by omega); have c := (kl.2 (by decide)).resolve_left (by omega); have d := kJT; omega)) kqJ.1 kTX (by omega) (by rw [show (m102 123 12).toInt = (m1 123 12).toInt by omega]; omega) (by omega) (by omega) kjx | exact AZ_amp kgz kld (LDX.kcc kld (fun j j1 j2 => by have w0 := hp6; have q := kg.1.2 j (by show _ < ((m1 123 17).toInt).toNat; omega) (kld.2.2.2.2.1 j j1 j2); have q1 := q.1; unfold cmN; omega) kgz.1) (by omega) (by omega) (by omega) kgt (klz (by decide)) klq (by omega) (by omega) kqJ.1 kTX (by omega) (by omega) kjx
                refine pv_goto (M := mX12_readsCondition) (tgt := 40) dX12_readsCondition_218 (by decide) ?_
                have kbk : QC cb 0 m0 m130 := QC.jmp kJ kj (by omega)
                have kbm : p40 + 1 ≤ (m130 123 12).toInt := by have := kj.2.2.2.2.2.2.1; omega
                exact kk m130 n131 kbk kqJ kqz I132 K133 kbm
              · have c127 := iv_eq (X := v35.toInt) (Y := 38) c127 rfl (by decide)
                omega
          · have c94 := iv_ne (X := v35.toInt) (Y := 124) c94 rfl (by decide)
            refine pv_aload_n (M := mX12_readsCondition) 0 dX12_readsCondition_170 171 rfl rfl rfl ?_
            refine pv_iconst (M := mX12_readsCondition) (v := 1) dX12_readsCondition_171 172 rfl (by decide) ?_
            refine pv_aload_n (M := mX12_readsCondition) 0 dX12_readsCondition_172 173 rfl rfl rfl ?_
            refine iv_get (M := mX12_readsCondition) (l1 := 0) (l2 := 160) dX12_readsCondition_173 FX12 12 wd1185 (by decide) (tl123 hT) rfl I3 rfl 176 rfl (fun v144 ev144 pv144 qv144 => ?_)
            have wv144 : v144.toInt = (m1 123 12).toInt := congrArg Int32.toInt ev144
            have z145 : (1 : Int32).toInt = 1 := by decide
            refine pv_callv (M := mX12_readsCondition) (as := [.int 1, .int v144]) (st := []) (kc2 := 0) (ks2 := 0) dX12_readsCondition_176 wd1421 YX12_wrongAt ⟨wd1423, wd61⟩ (mk_get (tl123 hT)) rfl rfl (s_X12_wrongAt_vx g hT I3 1 (by decide) (by decide) v144 (by omega) (by omega)) rfl rfl (Nat.le_of_ble_eq_true rfl) (by decide) rfl rfl 179 rfl (fun rv h1 q146 => ?_)
            obtain ⟨m147, n148, v151, rfl, rfl, I149, K150, pv151, qv151, rv151⟩ := q146
            replace rv151 : (m147 123 14).toInt = -1000 * (1 : Int) - v144.toInt := by have q_ := rv151; (try rw [z145] at q_); exact q_
            have K150c := K150
            have w152 : (m147 123 12).toInt = (m1 123 12).toInt := congrArg Int32.toInt (K150 123 12 rfl)
            have w153 : (m147 123 13).toInt = (m1 123 13).toInt := congrArg Int32.toInt (K150 123 13 rfl)
            have w154 : (m147 123 16).toInt = (m1 123 16).toInt := congrArg Int32.toInt (K150 123 16 rfl)
            have w155 : (m147 123 17).toInt = (m1 123 17).toInt := congrArg Int32.toInt (K150 123 17 rfl)
            have w156 : (m147 123 15).toInt = (m1 123 15).toInt := congrArg Int32.toInt (K150 123 15 rfl)
            have K150 := K4.trans (K150.sub (wl_sub (by decide)))
            show PV _ _ _ _ _ _ _ 179 [.ref 123] [.int v151] _
            exact pv_iret (M := mX12_readsCondition) dX12_readsCondition_179 rfl (iv_nz (by omega) (by omega)) ⟨_, _, _, rfl, rfl, I149, K150, by omega, by omega, ⟨(Or.inl ⟨by omega, PSs_wrong kgp (by omega) (isB_no (by omega) (by omega)) (by omega) kgt (by omega)⟩), IFZ.no (by first | decide | omega)⟩⟩
      · have c37 := iv_eq (X := v35.toInt) (Y := 41) c37 rfl (by decide)
        have k41 : tR m0 (m1 123 12).toInt = 41 := by omega
        refine pv_aload_n (M := mX12_readsCondition) 0 dX12_readsCondition_101 102 rfl rfl rfl ?_
        refine pv_iconst (M := mX12_readsCondition) (v := 1) dX12_readsCondition_102 103 rfl (by decide) ?_
        have z158 : (1 : Int32).toInt = 1 := by decide
        refine pv_callv (M := mX12_readsCondition) (as := [.int 1]) (st := []) (kc2 := 0) (ks2 := 0) dX12_readsCondition_103 wd1480 YX12_lands ⟨wd1482, wd74⟩ (mk_get (tl123 hT)) rfl rfl (s_X12_lands_vz g hT I3 1 (by decide) (by decide) cb 1 kg.1 (by rw [NS_ops kg.2.2.2.2.2.1]; decide) kg.2.1) rfl rfl (Nat.le_of_ble_eq_true rfl) (by decide) rfl rfl 106 rfl (fun rv h1 q159 => ?_)
        obtain ⟨m160, n161, rfl, rfl, I162, K163, rm160⟩ := q159
        replace rm160 : (LDI cb 1 m1 m160 ∧ ((1 : Int) ≠ 0 → (m160 123 17).toInt = 0 ∨ (opv (m160 131 ((m160 123 17).toInt - 1).toNat) ≠ 11 ∧ opv (m160 131 ((m160 123 17).toInt - 1).toNat) ≠ 12))) ∧ LDX m1 m160 ∧ ((m160 123 17).toInt = 0 ∨ opv (m160 131 ((m160 123 17).toInt - 1).toNat) ≠ 11) ∧ LTZ (1 : Int) m1 m160 := by have q_ := rm160; (try rw [z158] at q_); exact q_
        have K163c := K163
        have w164 : (m160 123 12).toInt = (m1 123 12).toInt := congrArg Int32.toInt (K163 123 12 rfl)
        have w165 : (m160 123 13).toInt = (m1 123 13).toInt := congrArg Int32.toInt (K163 123 13 rfl)
        have w166 : (m160 123 16).toInt = (m1 123 16).toInt := congrArg Int32.toInt (K163 123 16 rfl)
        have w167 : (m160 123 14).toInt = (m1 123 14).toInt := congrArg Int32.toInt (K163 123 14 rfl)
        have w168 : (m160 123 15).toInt = (m1 123 15).toInt := congrArg Int32.toInt (K163 123 15 rfl)
        have K163 := K4.trans (K163.sub (wl_sub (by decide)))
        show PV _ _ _ _ _ _ _ 106 [.ref 123] [] _
        have kl := rm160.1
        have kL := QC.lnd kg kl.1 (K163c 123 12 rfl) (K163c 123 13 rfl)
        have kL1 := kL.2.1
        have kL2 : (m160 123 16).toInt ≤ (m160 123 12).toInt := SLK_cm kL.2.1
        have kL3 := kL.2.2.2.1
        have kL4 := kL.2.2.2.2.1
        have kL6 := kL.2.2.2.2.2.2.2.2.1
        have kL7 := kL.2.2.2.2.2.2.2.2.2
        have kLP := PSs_lands kgp kl.1 (congrArg Int32.toInt (K163c 123 15 rfl)) (congrArg Int32.toInt (K163c 123 12 rfl))
        have kLT := LDI_top kgp.2.1 kgt kl.1
        have kld := rm160.2.1
        have kLz : LZ (tR m0) m0 m160 := (AZ_land kgz kld (LDX.kcc kld (fun j j1 j2 => by have w0 := hp6; have q := kg.1.2 j (by show _ < ((m1 123 17).toInt).toNat; omega) (kld.2.2.2.2.1 j j1 j2); have q1 := q.1; unfold cmN; omega) kgz.1) (by omega) (by omega) kgt (kl.2 (by decide)) (by omega) (by omega) (by omega) (by have b := kLP.2.1.1 ((m160 123 17).toInt - 1).toNat (by omega); have c := (kl.2 (by decide)).resolve_left (by omega); have d := (kLT.resolve_right (by omega)); omega))
        refine pv_aload_n (M := mX12_readsCondition) 0 dX12_readsCondition_106 107 rfl rfl rfl ?_
        refine pv_aload_n (M := mX12_readsCondition) 0 dX12_readsCondition_107 108 rfl rfl rfl ?_
        refine iv_get (M := mX12_readsCondition) (l1 := 0) (l2 := 180) dX12_readsCondition_108 FX12 17 wd1190 (by decide) (tl123 hT) rfl I162 rfl 111 rfl (fun v181 ev181 pv181 qv181 => ?_)
        have wv181 : v181.toInt = (m160 123 17).toInt := congrArg Int32.toInt ev181
        refine pv_iconst (M := mX12_readsCondition) (v := 1) dX12_readsCondition_111 112 rfl (by decide) ?_
        refine iv_isub (M := mX12_readsCondition) (X := v181.toInt) (Y := 1) dX12_readsCondition_112 113 rfl rfl (by decide) (by omega) (by omega) (fun v182 ev182 => ?_)
        refine iv_put (M := mX12_readsCondition) (l1 := 0) (l2 := 180) dX12_readsCondition_113 FX12 17 wd1190 (by decide) rfl (tl123 hT) rfl rfl rfl I162 rfl (by omega) (by omega) 116 rfl (fun m183 e186 I184 => ?_)
        have K185 := K163.set e186 rfl
        have w187 : (m183 123 12).toInt = (m160 123 12).toInt := by rw [e186, up2_ne (by omega)]
        have w188 : (m183 123 13).toInt = (m160 123 13).toInt := by rw [e186, up2_ne (by omega)]
        have w189 : (m183 123 16).toInt = (m160 123 16).toInt := by rw [e186, up2_ne (by omega)]
        have w190 : (m183 123 17).toInt = v182.toInt := by rw [e186, up2_eq]
        have w191 : (m183 123 14).toInt = (m160 123 14).toInt := by rw [e186, up2_ne (by omega)]
        have w192 : (m183 123 15).toInt = (m160 123 15).toInt := by rw [e186, up2_ne (by omega)]
        refine pv_aload_n (M := mX12_readsCondition) 0 dX12_readsCondition_116 117 rfl rfl rfl ?_
        refine pv_aload_n (M := mX12_readsCondition) 0 dX12_readsCondition_117 118 rfl rfl rfl ?_
        refine iv_get (M := mX12_readsCondition) (l1 := (-2147483648)) (l2 := 2147483647) dX12_readsCondition_118 FX12 15 wd1188 (by decide) (tl123 hT) rfl I184 rfl 121 rfl (fun v193 ev193 pv193 qv193 => ?_)
        have wv193 : v193.toInt = (m183 123 15).toInt := congrArg Int32.toInt ev193
        refine pv_iconst (M := mX12_readsCondition) (v := 1) dX12_readsCondition_121 122 rfl (by decide) ?_
        refine iv_isub (M := mX12_readsCondition) (X := v193.toInt) (Y := 1) dX12_readsCondition_122 123 rfl rfl (by decide) (by omega) (by omega) (fun v194 ev194 => ?_)
        refine iv_put (M := mX12_readsCondition) (l1 := (-2147483648)) (l2 := 2147483647) dX12_readsCondition_123 FX12 15 wd1188 (by decide) rfl (tl123 hT) rfl rfl rfl I184 rfl (iv_rng v194).1 (iv_rng v194).2 126 rfl (fun m195 e198 I196 => ?_)
        have K197 := K185.set e198 rfl
        have w199 : (m195 123 12).toInt = (m183 123 12).toInt := by rw [e198, up2_ne (by omega)]
        have w200 : (m195 123 13).toInt = (m183 123 13).toInt := by rw [e198, up2_ne (by omega)]
        have w201 : (m195 123 16).toInt = (m183 123 16).toInt := by rw [e198, up2_ne (by omega)]
        have w202 : (m195 123 17).toInt = (m183 123 17).toInt := by rw [e198, up2_ne (by omega)]
        have w203 : (m195 123 14).toInt = (m183 123 14).toInt := by rw [e198, up2_ne (by omega)]
        have w204 : (m195 123 15).toInt = v194.toInt := by rw [e198, up2_eq]
        refine pv_aload_n (M := mX12_readsCondition) 0 dX12_readsCondition_126 127 rfl rfl rfl ?_
        refine pv_aload_n (M := mX12_readsCondition) 0 dX12_readsCondition_127 128 rfl rfl rfl ?_
        refine iv_get (M := mX12_readsCondition) (l1 := 0) (l2 := 160) dX12_readsCondition_128 FX12 12 wd1185 (by decide) (tl123 hT) rfl I196 rfl 131 rfl (fun v205 ev205 pv205 qv205 => ?_)
        have wv205 : v205.toInt = (m195 123 12).toInt := congrArg Int32.toInt ev205
        refine pv_iconst (M := mX12_readsCondition) (v := 1) dX12_readsCondition_131 132 rfl (by decide) ?_
        refine iv_iadd (M := mX12_readsCondition) (X := v205.toInt) (Y := 1) dX12_readsCondition_132 133 rfl rfl (by decide) (by omega) (by omega) (fun v206 ev206 => ?_)
        refine iv_put (M := mX12_readsCondition) (l1 := 0) (l2 := 160) dX12_readsCondition_133 FX12 12 wd1185 (by decide) rfl (tl123 hT) rfl rfl rfl I196 rfl (by omega) (by omega) 136 rfl (fun m207 e210 I208 => ?_)
        have K209 := K197.set e210 rfl
        have w211 : (m207 123 12).toInt = v206.toInt := by rw [e210, up2_eq]
        have w212 : (m207 123 13).toInt = (m195 123 13).toInt := by rw [e210, up2_ne (by omega)]
        have w213 : (m207 123 16).toInt = (m195 123 16).toInt := by rw [e210, up2_ne (by omega)]
        have w214 : (m207 123 17).toInt = (m195 123 17).toInt := by rw [e210, up2_ne (by omega)]
        have w215 : (m207 123 14).toInt = (m195 123 14).toInt := by rw [e210, up2_ne (by omega)]
        have w216 : (m207 123 15).toInt = (m195 123 15).toInt := by rw [e210, up2_ne (by omega)]
        have kP := QC.pop kL (by have := kl.2 (by decide); unfold ifv; omega) e186 (by omega) e198 e210 (by omega) (by omega)
        have kP3 := kP.2.2.2.1
        have kPP := PSs_pop (m := m160) (m2 := m207) kLP (by omega) (by have := kl.2 (by decide); unfold ifv; omega) (kLT.resolve_right (by omega)) (by rw [show (m160 123 12).toInt = (m1 123 12).toInt by omega]; exact k41) (fun j => by rw [e210, up2_ne (by omega), e198, up2_ne (by omega), e186, up2_ne (by omega)]) (by omega) (by omega) (by omega)
        have kCN := kPP.2.2
        have kCN0 := CON_ge m207
        have kPz : AZ (tR m0) m0 m207 := LZ_pop kLz (by rw [show (m160 123 12).toInt = (m1 123 12).toInt by omega]; exact k41) (fun j => by rw [e210, up2_ne (by omega), e198, up2_ne (by omega), e186, up2_ne (by omega)]) (by omega) (fun j => by rw [e210, up2_ne (by omega), e198, up2_ne (by omega), e186, up2_ne (by omega)]) (by rw [e210, up2_ne (by omega), e198, up2_ne (by omega), e186, up2_ne (by omega)]) (by omega) (by omega) (by omega) (by omega)
        refine pv_aload_n (M := mX12_readsCondition) 0 dX12_readsCondition_136 137 rfl rfl rfl ?_
        refine iv_get (M := mX12_readsCondition) (l1 := 0) (l2 := 180) dX12_readsCondition_137 FX12 17 wd1190 (by decide) (tl123 hT) rfl I208 rfl 140 rfl (fun v223 ev223 pv223 qv223 => ?_)
        have wv223 : v223.toInt = (m207 123 17).toInt := congrArg Int32.toInt ev223
        refine pv_if_ne (M := mX12_readsCondition) (tgt := 145) dX12_readsCondition_140 143 rfl (by decide) (fun c224 => ?_) (fun c224 => ?_)
        · have c224 := iv_ne (X := v223.toInt) (Y := 0) c224 rfl (by decide)
          have kQ := kP.2.2.2.2 (by omega)
          have kQw : 0 ≤ SLK m207 := kQ.2.1
          have kPP2 := kPP.2.2
          have kPP1 := kPP.1.1
          have kPP3 := CON_ge m207
          refine pv_aload_n (M := mX12_readsCondition) 0 dX12_readsCondition_145 146 rfl rfl rfl ?_
          refine pv_callv (M := mX12_readsCondition) (as := []) (st := []) (kc2 := 0) (ks2 := 0) dX12_readsCondition_146 wd1476 YX12_endsPiece ⟨wd1478, wd73⟩ (mk_get (tl123 hT)) rfl rfl (s_X12_endsPiece_vz g hT I208 cb 1 kQ.1 (by omega) kQ.2.1 (by first | omega | assumption | exact (iv_rng _).2 | exact (iv_rng _).1 | decide) (by first | omega | assumption | exact (iv_rng _).2 | exact (iv_rng _).1 | decide)) rfl rfl (Nat.le_of_ble_eq_true rfl) (by decide) rfl rfl 149 rfl (fun rv h1 q230 => ?_)
          obtain ⟨m231, n232, rfl, rfl, I233, K234, rm231⟩ := q230
          replace rm231 : ((EPI cb 1 m207 m231 ∧ ((m231 123 17).toInt = 0 ∨ opv (m231 131 ((m231 123 17).toInt - 1).toNat) ≠ 10)) ∧ (m231 123 15).toInt - (m231 123 17).toInt = (m207 123 15).toInt - (m207 123 17).toInt) ∧ CSX m207 m231 := rm231
          have K234c := K234
          have w235 : (m231 123 12).toInt = (m207 123 12).toInt := congrArg Int32.toInt (K234 123 12 rfl)
          have w236 : (m231 123 13).toInt = (m207 123 13).toInt := congrArg Int32.toInt (K234 123 13 rfl)
          have w237 : (m231 123 14).toInt = (m207 123 14).toInt := congrArg Int32.toInt (K234 123 14 rfl)
          have K234 := K209.trans (K234.sub (wl_sub (by decide)))
          show PV _ _ _ _ _ _ _ 149 [.ref 123] [] _
          have kq := rm231.1.1
          have kqo := rm231.1.2
          have kE := QC.end kQ kq.1 (K234c 123 12 rfl) (K234c 123 13 rfl)
          have kE3 := kE.2.2.2.1
          have kEP := PSs_nots kPP kq.1.2.2.2.2.1 kq.1.2.2.2.1 (fun j _ => kq.1.2.2.2.2.2.1 j) (fun j a b => kq.1.2.2.2.2.2.2.1 j a b) kqo (congrArg Int32.toInt (K234c 123 12 rfl))
          have kqx := rm231.2
          have kEz : AZ (tR m0) m0 m231 := AZ_ns kPz kqx (by omega) (fun i hi => kq.1.2.2.2.2.2.2.1 (wtN m207 - 1 - i) (by unfold wtN; omega) (by unfold wtN; omega)) (fun j => kq.1.2.2.2.2.2.1 j) kqo (by omega) (congrArg Int32.toInt (K234c 123 12 rfl))
          refine pv_goto (M := mX12_readsCondition) (tgt := 92) dX12_readsCondition_149 (by decide) ?_
          have kbd := kE
          have kbe : (m1 123 12).toInt + 1 ≤ (m231 123 12).toInt := by omega
          have kpb := kEP
          have ktb : opv (m231 131 ((m231 123 17).toInt - 1).toNat) ≠ 10 := kq.2.resolve_left (by omega)
          have kzb := kEz
          exact ih7  m231 n232 kbd (by first | omega | assumption | (show p40 ≤ (m231 123 12).toInt; omega) | decide) kpb ktb kzb I233 K234 (by omega)
        · have c224 := iv_eq (X := v223.toInt) (Y := 0) c224 rfl (by decide)
          refine pv_iconst (M := mX12_readsCondition) (v := 1) dX12_readsCondition_143 144 rfl (by decide) ?_
          have z250 : (1 : Int32).toInt = 1 := by decide
          exact pv_iret (M := mX12_readsCondition) dX12_readsCondition_144 rfl rfl ⟨_, _, _, rfl, rfl, I208, K209, by decide, by decide, ⟨(Or.inr ⟨by decide, ⟨HW_done kP.1 (show (m207 123 17).toInt = 0 by omega), kP.2.2.1, kP.2.1, kP.1.1.2.1, by omega, by omega, by omega, by omega⟩, PSs_done kPP (by omega)⟩), IFZ.is (AZ_end kPz (by omega) (PSs_done kPP (by omega)))⟩⟩
  exact lp6 (((160 - (m 123 12).toInt) : Int).toNat + 1)  m n hp0 (by first | omega | assumption | (show p40 ≤ (m 123 12).toInt; omega) | decide) hp1 hp2 hp4 I Kp (by omega)

set_option maxHeartbeats 2000000 in
set_option maxRecDepth 20000 in
theorem s_X12_readsCondition_vdz (g : pv_G) {T : List mv_T} {m : Nat → Nat → Int32} {n : Nat → Nat → Int64} {r : Nat → Value} {m0 : Nat → Nat → Int32} (hT : TX T) (I : IV BB m) (Kp : fr (wl [(123, 123, some 12), (123, 123, some 14), (123, 123, some 15), (123, 123, some 16), (123, 123, some 17), (123, 123, some 19), (130, 130, none), (131, 131, none)]) m0 m) (cb : Int) (hp0 : QC cb 0 m0 m) (hp1 : QS (tR m0) (CND (tR m0) (m0 123 12).toInt) m) (hp2 : QZ (tR m0) m0 m) (hp3 : cb = (m0 123 16).toInt) (hp4 : 0 ≤ (m0 123 16).toInt) : PV none g mX12_readsCondition (sqI T BB (wl [(123, 123, some 12), (123, 123, some 14), (123, 123, some 15), (123, 123, some 16), (123, 123, some 17), (123, 123, some 19), (130, 130, none), (131, 131, none)]) r m0 0 1 (fun m' v => ((v.toInt = 0 ∧ FLT (CND (tR m0) (m0 123 12).toInt) (m' 123 14).toInt) ∨ (v.toInt = 1 ∧ (WFc (m' 130) cb.toNat (m' 123 16).toInt.toNat ∧ KB cb m0 m' ∧ 0 ≤ SLK m' ∧ cb ≤ (m' 123 16).toInt ∧ (m0 123 12).toInt ≤ (m' 123 12).toInt ∧ (m' 123 12).toInt ≤ (m' 123 13).toInt ∧ (m' 123 13).toInt = (m0 123 13).toInt ∧ (m' 123 17).toInt = 0) ∧ CND (tR m0) (m0 123 12).toInt = (0, (m' 123 12).toInt))) ∧ IFZ v.toInt (SRZ m0 m' (CND_ (tR m0) 5 ((m0 123 12).toInt + 1)) ∧ B1 (CND_ (tR m0) 5 ((m0 123 12).toInt + 1))))) 7 0 0 40 [.ref 123] [] (mk T m n r) := by
  have z109 : 0 ≤ (m 123 12).toInt ∧ (m 123 12).toInt ≤ 160 := I 123 12
  have z110 : 0 ≤ (m 123 13).toInt ∧ (m 123 13).toInt ≤ 160 := I 123 13
  have z111 : 0 ≤ (m 123 16).toInt ∧ (m 123 16).toInt ≤ 180 := I 123 16
  have z112 : 0 ≤ (m 123 17).toInt ∧ (m 123 17).toInt ≤ 180 := I 123 17
  have lp6 : ∀ (fuel5 : Nat)  (m1 : Nat → Nat → Int32) (n2 : Nat → Nat → Int64), (QC cb 0 m0 m1) → (QS (tR m0) (CND (tR m0) (m0 123 12).toInt) m1) → (QZ (tR m0) m0 m1) → IV BB m1 → fr (wl [(123, 123, some 12), (123, 123, some 14), (123, 123, some 15), (123, 123, some 16), (123, 123, some 17), (123, 123, some 19), (130, 130, none), (131, 131, none)]) m0 m1 → ((160 - (m1 123 12).toInt) : Int).toNat < fuel5 → PV none g mX12_readsCondition (sqI T BB (wl [(123, 123, some 12), (123, 123, some 14), (123, 123, some 15), (123, 123, some 16), (123, 123, some 17), (123, 123, some 19), (130, 130, none), (131, 131, none)]) r m0 0 1 (fun m' v => ((v.toInt = 0 ∧ FLT (CND (tR m0) (m0 123 12).toInt) (m' 123 14).toInt) ∨ (v.toInt = 1 ∧ (WFc (m' 130) cb.toNat (m' 123 16).toInt.toNat ∧ KB cb m0 m' ∧ 0 ≤ SLK m' ∧ cb ≤ (m' 123 16).toInt ∧ (m0 123 12).toInt ≤ (m' 123 12).toInt ∧ (m' 123 12).toInt ≤ (m' 123 13).toInt ∧ (m' 123 13).toInt = (m0 123 13).toInt ∧ (m' 123 17).toInt = 0) ∧ CND (tR m0) (m0 123 12).toInt = (0, (m' 123 12).toInt))) ∧ IFZ v.toInt (SRZ m0 m' (CND_ (tR m0) 5 ((m0 123 12).toInt + 1)) ∧ B1 (CND_ (tR m0) 5 ((m0 123 12).toInt + 1))))) 7 0 0 40 [.ref 123] [] (mk T m1 n2 r) := by
    intro fuel5
    induction fuel5 with
    | zero => intro  m1 n2 b8 b9 b10 I3 K4 z11; omega
    | succ fuel5 ih7 =>
      intro  m1 n2 b8 b9 b10 I3 K4 z11
      have z12 : 0 ≤ (m1 123 12).toInt ∧ (m1 123 12).toInt ≤ 160 := I3 123 12
      have z13 : 0 ≤ (m1 123 13).toInt ∧ (m1 123 13).toInt ≤ 160 := I3 123 13
      have z14 : 0 ≤ (m1 123 16).toInt ∧ (m1 123 16).toInt ≤ 180 := I3 123 16
      have z15 : 0 ≤ (m1 123 17).toInt ∧ (m1 123 17).toInt ≤ 180 := I3 123 17
      have kg := (show QC cb 0 m0 m1 by assumption)
      have kg1 := kg.2.1
      have kg2 : (m1 123 16).toInt ≤ (m1 123 12).toInt := SLK_cm kg.2.1
      have kg3 := kg.2.2.2.1
      have kg4 := kg.2.2.2.2.1
      have kg5 := kg.2.2.2.2.2.2.2.1
      have kg6 := kg.2.2.2.2.2.2.2.2.1
      have kg7 := kg.2.2.2.2.2.2.2.2.2
      have kgq := (show QS (tR m0) (CND (tR m0) (m0 123 12).toInt) m1 by assumption)
      have kt40 : tR m1 = tR m0 := tR_eq (K4 123 13 rfl) (fun j => K4 129 j rfl)
      have kgo := kgq.1.1
      have kgc := CON_ge m1
      have kgc2 := kgq.2.2
      have kgz := (show QZ (tR m0) m0 m1 by assumption)
      refine pv_aload_n (M := mX12_readsCondition) 0 dX12_readsCondition_40 41 rfl rfl rfl ?_
      refine pv_callv (M := mX12_readsCondition) (as := []) (st := []) (kc2 := 0) (ks2 := 0) dX12_readsCondition_41 wd1417 YX12_here ⟨wd1419, wd60⟩ (mk_get (tl123 hT)) rfl rfl (s_X12_here g hT I3) rfl rfl (Nat.le_of_ble_eq_true rfl) (by decide) rfl rfl 44 rfl (fun rv h1 q30 => ?_)
      obtain ⟨v31, rfl, rfl, pv31, qv31, rv31⟩ := q30
      replace rv31 : v31.toInt = hereV m1 ∧ (v31.toInt = -1 ∨ (m1 123 12).toInt < (m1 123 13).toInt) := rv31
      show PV _ _ _ _ _ _ _ 44 [.ref 123] [.int v31] _
      have k44 : v31.toInt = tR m0 (m1 123 12).toInt := rv31.1.trans (congrFun kt40 _)
      refine pv_bipush (M := mX12_readsCondition) (v := 33) dX12_readsCondition_44 46 rfl (by decide) ?_
      refine pv_icmp_eq (M := mX12_readsCondition) (tgt := 58) dX12_readsCondition_46 49 rfl (by decide) (fun c33 => ?_) (fun c33 => ?_)
      · have c33 := iv_eq (X := v31.toInt) (Y := 33) c33 rfl (by decide)
        refine pv_aload_n (M := mX12_readsCondition) 0 dX12_readsCondition_58 59 rfl rfl rfl ?_
        refine pv_aload_n (M := mX12_readsCondition) 0 dX12_readsCondition_59 60 rfl rfl rfl ?_
        refine pv_callv (M := mX12_readsCondition) (as := []) (st := [.ref 123]) (kc2 := 0) (ks2 := 0) dX12_readsCondition_60 wd1417 YX12_here ⟨wd1419, wd60⟩ (mk_get (tl123 hT)) rfl rfl (s_X12_here g hT I3) rfl rfl (Nat.le_of_ble_eq_true rfl) (by decide) rfl rfl 63 rfl (fun rv h1 q34 => ?_)
        obtain ⟨v35, rfl, rfl, pv35, qv35, rv35⟩ := q34
        replace rv35 : v35.toInt = hereV m1 ∧ (v35.toInt = -1 ∨ (m1 123 12).toInt < (m1 123 13).toInt) := rv35
        have sv35 : v31 = v35 := Int32.toInt_inj.mp (rv31.1.trans rv35.1.symm)
        subst sv35
        clear pv35 qv35 rv35
        show PV _ _ _ _ _ _ _ 63 [.ref 123] [.int v31, .ref 123] _
        have k63 : v31.toInt = tR m0 (m1 123 12).toInt := rv31.1.trans (congrFun kt40 _)
        refine pv_bipush (M := mX12_readsCondition) (v := 33) dX12_readsCondition_63 65 rfl (by decide) ?_
        refine pv_icmp_ne (M := mX12_readsCondition) (tgt := 73) dX12_readsCondition_65 68 rfl (by decide) (fun c37 => ?_) (fun c37 => ?_)
        · have c37 := iv_ne (X := v31.toInt) (Y := 33) c37 rfl (by decide)
          omega
        · have c37 := iv_eq (X := v31.toInt) (Y := 33) c37 rfl (by decide)
          refine pv_bipush (M := mX12_readsCondition) (v := 10) dX12_readsCondition_68 70 rfl (by decide) ?_
          refine pv_goto (M := mX12_readsCondition) (tgt := 75) dX12_readsCondition_70 (by decide) ?_
          have z38 : (10 : Int32).toInt = 10 := by decide
          refine pv_callv (M := mX12_readsCondition) (as := [.int 10]) (st := []) (kc2 := 0) (ks2 := 0) dX12_readsCondition_75 wd1433 YX12_opens ⟨wd1435, wd64⟩ (mk_get (tl123 hT)) rfl rfl (s_X12_opens_vx g hT I3 10 (by decide) (by decide) (by first | omega | assumption | exact (iv_rng _).2 | exact (iv_rng _).1 | decide) (by first | omega | assumption | exact (iv_rng _).2 | exact (iv_rng _).1 | decide) (by first | omega | assumption | exact (iv_rng _).2 | exact (iv_rng _).1 | decide) (by first | omega | assumption | exact (iv_rng _).2 | exact (iv_rng _).1 | decide)) rfl rfl (Nat.le_of_ble_eq_true rfl) (by decide) rfl rfl 78 rfl (fun rv h1 q39 => ?_)
          obtain ⟨m40, n41, v44, rfl, rfl, I42, K43, pv44, qv44, rv44⟩ := q39
          replace rv44 : (v44.toInt = 0 ∧ (m40 123 12).toInt = (m1 123 12).toInt ∧ (m1 123 15).toInt = 6 ∧ (m40 123 14).toInt = -5000 - (m1 123 12).toInt) ∨ (v44.toInt = 1 ∧ (∃ o u w z : Int32, m40 = up2 (up2 (up2 (up2 m1 123 15 o) 131 (m1 123 17).toInt.toNat u) 123 17 w) 123 12 z ∧ u.toInt = 1048576 * (10 : Int) ∧ w.toInt = (m1 123 17).toInt + 1 ∧ z.toInt = (m1 123 12).toInt + 1) ∧ (m40 123 15).toInt = (m1 123 15).toInt + 1 ∧ (m1 123 15).toInt ≠ 6) := by have q_ := rv44; (try rw [z38] at q_); exact q_
          have K43c := K43
          have w45 : (m40 123 13).toInt = (m1 123 13).toInt := congrArg Int32.toInt (K43 123 13 rfl)
          have w46 : (m40 123 16).toInt = (m1 123 16).toInt := congrArg Int32.toInt (K43 123 16 rfl)
          have K43 := K4.trans (K43.sub (wl_sub (by decide)))
          show PV _ _ _ _ _ _ _ 78 [.ref 123] [.int v44] _
          have kO := rv44
          clear rv44
          refine pv_if_ne (M := mX12_readsCondition) (tgt := 40) dX12_readsCondition_78 81 rfl (by decide) (fun c49 => ?_) (fun c49 => ?_)
          · have c49 := iv_ne (X := v44.toInt) (Y := 0) c49 rfl (by decide)
            have kO2 := (kO.resolve_left (fun q => by have q1 := q.1; omega)).2
            have kbk : QC cb 0 m0 m40 := QC.opn kg (by omega) (by omega) kO2.1
            have kqb : QS (tR m0) (CND (tR m0) (m0 123 12).toInt) m40 := QS_open kgq (by omega) kO2.1 kO2.2.1 kO2.2.2 (by clear kO2 kO; omega)
            have kbm : (m1 123 12).toInt + 1 ≤ (m40 123 12).toInt := by obtain ⟨o1, o2, o3, o4, o5, o6, o7, o8⟩ := kO2.1; rw [o5, up2_f]; omega
            have kzb : QZ (tR m0) m0 m40 := QZ_open kgz kgq (by omega) (by omega) (by clear kO; omega) kO2.1 kO2.2.1 (by clear kO; omega)
            clear kO kO2
            exact ih7  m40 n41 kbk kqb kzb I42 K43 (by omega)
          · have c49 := iv_eq (X := v44.toInt) (Y := 0) c49 rfl (by decide)
            refine pv_iconst (M := mX12_readsCondition) (v := 0) dX12_readsCondition_81 82 rfl (by decide) ?_
            have z56 : (0 : Int32).toInt = 0 := by decide
            exact pv_iret (M := mX12_readsCondition) dX12_readsCondition_82 rfl rfl ⟨_, _, _, rfl, rfl, I42, K43, by decide, by decide, ⟨(Or.inl ⟨by decide, QS_deep kgq (by omega) ((kO.resolve_right (fun q => by have q1 := q.1; omega)).2.2.1) ((kO.resolve_right (fun q => by have q1 := q.1; omega)).2.2.2)⟩), IFZ.no (by first | decide | omega)⟩⟩
      · have c33 := iv_ne (X := v31.toInt) (Y := 33) c33 rfl (by decide)
        refine pv_aload_n (M := mX12_readsCondition) 0 dX12_readsCondition_49 50 rfl rfl rfl ?_
        refine pv_callv (M := mX12_readsCondition) (as := []) (st := []) (kc2 := 0) (ks2 := 0) dX12_readsCondition_50 wd1417 YX12_here ⟨wd1419, wd60⟩ (mk_get (tl123 hT)) rfl rfl (s_X12_here g hT I3) rfl rfl (Nat.le_of_ble_eq_true rfl) (by decide) rfl rfl 53 rfl (fun rv h1 q57 => ?_)
        obtain ⟨v58, rfl, rfl, pv58, qv58, rv58⟩ := q57
        replace rv58 : v58.toInt = hereV m1 ∧ (v58.toInt = -1 ∨ (m1 123 12).toInt < (m1 123 13).toInt) := rv58
        have sv58 : v31 = v58 := Int32.toInt_inj.mp (rv31.1.trans rv58.1.symm)
        subst sv58
        clear pv58 qv58 rv58
        show PV _ _ _ _ _ _ _ 53 [.ref 123] [.int v31] _
        have k53 : v31.toInt = tR m0 (m1 123 12).toInt := rv31.1.trans (congrFun kt40 _)
        refine pv_bipush (M := mX12_readsCondition) (v := 40) dX12_readsCondition_53 55 rfl (by decide) ?_
        refine pv_icmp_ne (M := mX12_readsCondition) (tgt := 83) dX12_readsCondition_55 58 rfl (by decide) (fun c60 => ?_) (fun c60 => ?_)
        · have c60 := iv_ne (X := v31.toInt) (Y := 40) c60 rfl (by decide)
          have kn33 : tR m0 (m1 123 12).toInt ≠ 33 := by omega
          have kn40 : tR m0 (m1 123 12).toInt ≠ 40 := by omega
          refine pv_aload_n (M := mX12_readsCondition) 0 dX12_readsCondition_83 84 rfl rfl rfl ?_
          refine pv_callv (M := mX12_readsCondition) (as := []) (st := []) (kc2 := 0) (ks2 := 0) dX12_readsCondition_84 wd1472 YX12_readsCompared ⟨wd1474, wd72⟩ (mk_get (tl123 hT)) rfl rfl (s_X12_readsCompared_vz g hT I3 cb kg.1 kg.2.1 (by omega) (by omega) kg.2.2.2.2.2.1 (by first | omega | assumption | exact (iv_rng _).2 | exact (iv_rng _).1 | decide) (by first | omega | assumption | exact (iv_rng _).2 | exact (iv_rng _).1 | decide)) rfl rfl (Nat.le_of_ble_eq_true rfl) (by decide) rfl rfl 87 rfl (fun rv h1 q63 => ?_)
          obtain ⟨m64, n65, v68, rfl, rfl, I66, K67, pv68, qv68, rv68⟩ := q63
          replace rv68 : ((v68.toInt = 0 ∧ FLT (CM (tR m1) (eo (m1 123 15).toInt) (m1 123 12).toInt) (m64 123 14).toInt) ∨ (v68.toInt = 1 ∧ RC cb m1 m64 ∧ CM (tR m1) (eo (m1 123 15).toInt) (m1 123 12).toInt = (0, (m64 123 12).toInt) ∧ (m64 123 15).toInt - (m64 123 17).toInt = (m1 123 15).toInt - (m1 123 17).toInt ∧ ((m64 123 17).toInt = 0 ∨ opv (m64 131 ((m64 123 17).toInt - 1).toNat) ≠ 10))) ∧ IFZ v68.toInt (CPZ (tR m1) m1 m64) := rv68
          have K67c := K67
          have w69 : (m64 123 13).toInt = (m1 123 13).toInt := congrArg Int32.toInt (K67 123 13 rfl)
          have K67 := K4.trans (K67.sub (fun _ _ q => q))
          show PV _ _ _ _ _ _ _ 87 [.ref 123] [.int v68] _
          have kR := rv68.1
          rw [kt40] at kR
          have kRz := rv68.2
          rw [kt40] at kRz
          refine pv_if_ne (M := mX12_readsCondition) (tgt := 92) dX12_readsCondition_87 90 rfl (by decide) (fun c74 => ?_) (fun c74 => ?_)
          · have c74 := iv_ne (X := v68.toInt) (Y := 0) c74 rfl (by decide)
            have kRr := (kR.resolve_left (fun q => by have q1 := q.1; omega)).2
            have kc0 : RC cb _ m64 := kRr.1
            have kc1 := QC.cmp kg kc0
            have kc2 := kc0.2.2.2.2.2.2.2.1
            have kc3 := kc1.2.2.2.1
            have kp0 : PSs (tR m0) (CND (tR m0) (m0 123 12).toInt) m64 := QS_cmp kgq kn33 kn40 kRr.2.1 kc0 kRr.2.2.1
            have kt0x : opv (m64 131 ((m64 123 17).toInt - 1).toNat) ≠ 10 := kRr.2.2.2.resolve_left (by omega)
            clear kR
            have kaz : AZ (tR m0) m0 m64 := QZ_cmp kgz (IFZ.get kRz (by omega)) kn33 kn40
            exact s_X12_readsCondition_vbz g hT I66 K67 cb (m1 123 12).toInt (fun m2 n2 a1 a2 a6 a3 a4 a5 => ih7 m2 n2 a1 a2 a6 a3 a4 (by have q : 0 ≤ (m2 123 12).toInt ∧ (m2 123 12).toInt ≤ 160 := a3 123 12; omega)) kc1 kp0 kt0x (by omega) kaz hp3 hp4
          · have c74 := iv_eq (X := v68.toInt) (Y := 0) c74 rfl (by decide)
            refine pv_iconst (M := mX12_readsCondition) (v := 0) dX12_readsCondition_90 91 rfl (by decide) ?_
            have z85 : (0 : Int32).toInt = 0 := by decide
            exact pv_iret (M := mX12_readsCondition) dX12_readsCondition_91 rfl rfl ⟨_, _, _, rfl, rfl, I66, K67, by decide, by decide, ⟨(Or.inl ⟨by decide, QS_fl kgq kn33 kn40 (kR.resolve_right (fun q => by have q1 := q.1; omega)).2⟩), IFZ.no (by first | decide | omega)⟩⟩
        · have c60 := iv_eq (X := v31.toInt) (Y := 40) c60 rfl (by decide)
          refine pv_aload_n (M := mX12_readsCondition) 0 dX12_readsCondition_58 59 rfl rfl rfl ?_
          refine pv_aload_n (M := mX12_readsCondition) 0 dX12_readsCondition_59 60 rfl rfl rfl ?_
          refine pv_callv (M := mX12_readsCondition) (as := []) (st := [.ref 123]) (kc2 := 0) (ks2 := 0) dX12_readsCondition_60 wd1417 YX12_here ⟨wd1419, wd60⟩ (mk_get (tl123 hT)) rfl rfl (s_X12_here g hT I3) rfl rfl (Nat.le_of_ble_eq_true rfl) (by decide) rfl rfl 63 rfl (fun rv h1 q86 => ?_)
          obtain ⟨v87, rfl, rfl, pv87, qv87, rv87⟩ := q86
          replace rv87 : v87.toInt = hereV m1 ∧ (v87.toInt = -1 ∨ (m1 123 12).toInt < (m1 123 13).toInt) := rv87
          have sv87 : v31 = v87 := Int32.toInt_inj.mp (rv31.1.trans rv87.1.symm)
          subst sv87
          clear pv87 qv87 rv87
          show PV _ _ _ _ _ _ _ 63 [.ref 123] [.int v31, .ref 123] _
          have k63 : v31.toInt = tR m0 (m1 123 12).toInt := rv31.1.trans (congrFun kt40 _)
          refine pv_bipush (M := mX12_readsCondition) (v := 33) dX12_readsCondition_63 65 rfl (by decide) ?_
          refine pv_icmp_ne (M := mX12_readsCondition) (tgt := 73) dX12_readsCondition_65 68 rfl (by decide) (fun c89 => ?_) (fun c89 => ?_)
          · have c89 := iv_ne (X := v31.toInt) (Y := 33) c89 rfl (by decide)
            refine pv_bipush (M := mX12_readsCondition) (v := 13) dX12_readsCondition_73 75 rfl (by decide) ?_
            have z90 : (13 : Int32).toInt = 13 := by decide
            refine pv_callv (M := mX12_readsCondition) (as := [.int 13]) (st := []) (kc2 := 0) (ks2 := 0) dX12_readsCondition_75 wd1433 YX12_opens ⟨wd1435, wd64⟩ (mk_get (tl123 hT)) rfl rfl (s_X12_opens_vx g hT I3 13 (by decide) (by decide) (by first | omega | assumption | exact (iv_rng _).2 | exact (iv_rng _).1 | decide) (by first | omega | assumption | exact (iv_rng _).2 | exact (iv_rng _).1 | decide) (by first | omega | assumption | exact (iv_rng _).2 | exact (iv_rng _).1 | decide) (by first | omega | assumption | exact (iv_rng _).2 | exact (iv_rng _).1 | decide)) rfl rfl (Nat.le_of_ble_eq_true rfl) (by decide) rfl rfl 78 rfl (fun rv h1 q91 => ?_)
            obtain ⟨m92, n93, v96, rfl, rfl, I94, K95, pv96, qv96, rv96⟩ := q91
            replace rv96 : (v96.toInt = 0 ∧ (m92 123 12).toInt = (m1 123 12).toInt ∧ (m1 123 15).toInt = 6 ∧ (m92 123 14).toInt = -5000 - (m1 123 12).toInt) ∨ (v96.toInt = 1 ∧ (∃ o u w z : Int32, m92 = up2 (up2 (up2 (up2 m1 123 15 o) 131 (m1 123 17).toInt.toNat u) 123 17 w) 123 12 z ∧ u.toInt = 1048576 * (13 : Int) ∧ w.toInt = (m1 123 17).toInt + 1 ∧ z.toInt = (m1 123 12).toInt + 1) ∧ (m92 123 15).toInt = (m1 123 15).toInt + 1 ∧ (m1 123 15).toInt ≠ 6) := by have q_ := rv96; (try rw [z90] at q_); exact q_
            have K95c := K95
            have w97 : (m92 123 13).toInt = (m1 123 13).toInt := congrArg Int32.toInt (K95 123 13 rfl)
            have w98 : (m92 123 16).toInt = (m1 123 16).toInt := congrArg Int32.toInt (K95 123 16 rfl)
            have K95 := K4.trans (K95.sub (wl_sub (by decide)))
            show PV _ _ _ _ _ _ _ 78 [.ref 123] [.int v96] _
            have kO := rv96
            clear rv96
            refine pv_if_ne (M := mX12_readsCondition) (tgt := 40) dX12_readsCondition_78 81 rfl (by decide) (fun c101 => ?_) (fun c101 => ?_)
            · have c101 := iv_ne (X := v96.toInt) (Y := 0) c101 rfl (by decide)
              have kO2 := (kO.resolve_left (fun q => by have q1 := q.1; omega)).2
              have kbk : QC cb 0 m0 m92 := QC.opn kg (by omega) (by omega) kO2.1
              have kqb : QS (tR m0) (CND (tR m0) (m0 123 12).toInt) m92 := QS_open kgq (by omega) kO2.1 kO2.2.1 kO2.2.2 (by clear kO2 kO; omega)
              have kbm : (m1 123 12).toInt + 1 ≤ (m92 123 12).toInt := by obtain ⟨o1, o2, o3, o4, o5, o6, o7, o8⟩ := kO2.1; rw [o5, up2_f]; omega
              have kzb : QZ (tR m0) m0 m92 := QZ_open kgz kgq (by omega) (by omega) (by clear kO; omega) kO2.1 kO2.2.1 (by clear kO; omega)
              clear kO kO2
              exact ih7  m92 n93 kbk kqb kzb I94 K95 (by omega)
            · have c101 := iv_eq (X := v96.toInt) (Y := 0) c101 rfl (by decide)
              refine pv_iconst (M := mX12_readsCondition) (v := 0) dX12_readsCondition_81 82 rfl (by decide) ?_
              have z108 : (0 : Int32).toInt = 0 := by decide
              exact pv_iret (M := mX12_readsCondition) dX12_readsCondition_82 rfl rfl ⟨_, _, _, rfl, rfl, I94, K95, by decide, by decide, ⟨(Or.inl ⟨by decide, QS_deep kgq (by omega) ((kO.resolve_right (fun q => by have q1 := q.1; omega)).2.2.1) ((kO.resolve_right (fun q => by have q1 := q.1; omega)).2.2.2)⟩), IFZ.no (by first | decide | omega)⟩⟩
          · have c89 := iv_eq (X := v31.toInt) (Y := 33) c89 rfl (by decide)
            omega
  exact lp6 (((160 - (m 123 12).toInt) : Int).toNat + 1)  m n hp0 hp1 hp2 I Kp (by omega)

set_option maxHeartbeats 2000000 in
set_option maxRecDepth 20000 in
theorem s_X12_readsCondition_vz (g : pv_G) {T : List mv_T} {m : Nat → Nat → Int32} {n : Nat → Nat → Int64} {r : Nat → Value} (hT : TX T) (I : IV BB m) (cb : Int) (hp0 : 0 ≤ SLK m) (hp1 : (m 123 12).toInt ≤ (m 123 13).toInt) (hp2 : cb = (m 123 16).toInt) : PM g mX12_readsCondition yX12_readsCondition (sqI T BB (wl [(123, 123, some 12), (123, 123, some 14), (123, 123, some 15), (123, 123, some 16), (123, 123, some 17), (123, 123, some 19), (130, 130, none), (131, 131, none)]) r m 0 1 (fun m' v => ((v.toInt = 0 ∧ FLT (CND (tR m) (m 123 12).toInt) (m' 123 14).toInt) ∨ (v.toInt = 1 ∧ (WFc (m' 130) cb.toNat (m' 123 16).toInt.toNat ∧ KB cb m m' ∧ 0 ≤ SLK m' ∧ cb ≤ (m' 123 16).toInt ∧ (m 123 12).toInt ≤ (m' 123 12).toInt ∧ (m' 123 12).toInt ≤ (m' 123 13).toInt ∧ (m' 123 13).toInt = (m 123 13).toInt ∧ (m' 123 17).toInt = 0) ∧ CND (tR m) (m 123 12).toInt = (0, (m' 123 12).toInt))) ∧ IFZ v.toInt (SRZ m m' (CND_ (tR m) 5 ((m 123 12).toInt + 1)) ∧ B1 (CND_ (tR m) 5 ((m 123 12).toInt + 1))))) 7 0 0 [.ref 123] (mk T m n r) := by
  have Kp : fr (wl [(123, 123, some 12), (123, 123, some 14), (123, 123, some 15), (123, 123, some 16), (123, 123, some 17), (123, 123, some 19), (130, 130, none), (131, 131, none)]) m m := fr.rf
  have z60 : 0 ≤ (m 123 12).toInt ∧ (m 123 12).toInt ≤ 160 := I 123 12
  have z61 : 0 ≤ (m 123 13).toInt ∧ (m 123 13).toInt ≤ 160 := I 123 13
  have z62 : 0 ≤ (m 123 16).toInt ∧ (m 123 16).toInt ≤ 180 := I 123 16
  have z63 : 0 ≤ (m 123 17).toInt ∧ (m 123 17).toInt ≤ 180 := I 123 17
  refine PM.of 0 (lo := [.ref 123]) rfl (by decide) rfl rfl (Nat.le_of_ble_eq_true rfl) ?_
  have kTX := TXT_R I
  refine pv_aload_n (M := mX12_readsCondition) 0 dX12_readsCondition_0 1 rfl rfl rfl ?_
  refine pv_callv (M := mX12_readsCondition) (as := []) (st := []) (kc2 := 0) (ks2 := 0) dX12_readsCondition_1 wd1417 YX12_here ⟨wd1419, wd60⟩ (mk_get (tl123 hT)) rfl rfl (s_X12_here g hT I) rfl rfl (Nat.le_of_ble_eq_true rfl) (by decide) rfl rfl 4 rfl (fun rv h1 q2 => ?_)
  obtain ⟨v3, rfl, rfl, pv3, qv3, rv3⟩ := q2
  replace rv3 : v3.toInt = hereV m ∧ (v3.toInt = -1 ∨ (m 123 12).toInt < (m 123 13).toInt) := rv3
  show PV _ _ _ _ _ _ _ 4 [.ref 123] [.int v3] _
  have k4 : v3.toInt = tR m (m 123 12).toInt := rv3.1
  refine pv_bipush (M := mX12_readsCondition) (v := 40) dX12_readsCondition_4 6 rfl (by decide) ?_
  refine pv_icmp_eq (M := mX12_readsCondition) (tgt := 19) dX12_readsCondition_6 9 rfl (by decide) (fun c5 => ?_) (fun c5 => ?_)
  · have c5 := iv_eq (X := v3.toInt) (Y := 40) c5 rfl (by decide)
    refine pv_aload_n (M := mX12_readsCondition) 0 dX12_readsCondition_19 20 rfl rfl rfl ?_
    refine pv_iconst (M := mX12_readsCondition) (v := 0) dX12_readsCondition_20 21 rfl (by decide) ?_
    refine iv_put (M := mX12_readsCondition) (l1 := (-2147483648)) (l2 := 2147483647) dX12_readsCondition_21 FX12 15 wd1188 (by decide) rfl (tl123 hT) rfl rfl rfl I rfl (by decide) (by decide) 24 rfl (fun m6 e9 I7 => ?_)
    have K8 := Kp.set e9 rfl
    have w10 : (m6 123 12).toInt = (m 123 12).toInt := by rw [e9, up2_ne (by omega)]
    have w11 : (m6 123 13).toInt = (m 123 13).toInt := by rw [e9, up2_ne (by omega)]
    have w12 : (m6 123 16).toInt = (m 123 16).toInt := by rw [e9, up2_ne (by omega)]
    have w13 : (m6 123 17).toInt = (m 123 17).toInt := by rw [e9, up2_ne (by omega)]
    have w14 : (m6 123 14).toInt = (m 123 14).toInt := by rw [e9, up2_ne (by omega)]
    have w15 : (m6 123 15).toInt = 0 := by rw [e9, up2_eq] <;> rfl
    refine pv_aload_n (M := mX12_readsCondition) 0 dX12_readsCondition_24 25 rfl rfl rfl ?_
    refine pv_iconst (M := mX12_readsCondition) (v := 0) dX12_readsCondition_25 26 rfl (by decide) ?_
    refine iv_put (M := mX12_readsCondition) (l1 := 0) (l2 := 180) dX12_readsCondition_26 FX12 17 wd1190 (by decide) rfl (tl123 hT) rfl rfl rfl I7 rfl (by decide) (by decide) 29 rfl (fun m16 e19 I17 => ?_)
    have K18 := K8.set e19 rfl
    have w20 : (m16 123 12).toInt = (m6 123 12).toInt := by rw [e19, up2_ne (by omega)]
    have w21 : (m16 123 13).toInt = (m6 123 13).toInt := by rw [e19, up2_ne (by omega)]
    have w22 : (m16 123 16).toInt = (m6 123 16).toInt := by rw [e19, up2_ne (by omega)]
    have w23 : (m16 123 17).toInt = 0 := by rw [e19, up2_eq] <;> rfl
    have w24 : (m16 123 14).toInt = (m6 123 14).toInt := by rw [e19, up2_ne (by omega)]
    have w25 : (m16 123 15).toInt = (m6 123 15).toInt := by rw [e19, up2_ne (by omega)]
    refine pv_aload_n (M := mX12_readsCondition) 0 dX12_readsCondition_29 30 rfl rfl rfl ?_
    refine pv_bipush (M := mX12_readsCondition) (v := 13) dX12_readsCondition_30 32 rfl (by decide) ?_
    have z26 : (13 : Int32).toInt = 13 := by decide
    refine pv_callv (M := mX12_readsCondition) (as := [.int 13]) (st := []) (kc2 := 0) (ks2 := 0) dX12_readsCondition_32 wd1433 YX12_opens ⟨wd1435, wd64⟩ (mk_get (tl123 hT)) rfl rfl (s_X12_opens_vx g hT I17 13 (by decide) (by decide) (by first | omega | assumption | exact (iv_rng _).2 | exact (iv_rng _).1 | decide) (by first | omega | assumption | exact (iv_rng _).2 | exact (iv_rng _).1 | decide) (by first | omega | assumption | exact (iv_rng _).2 | exact (iv_rng _).1 | decide) (by first | omega | assumption | exact (iv_rng _).2 | exact (iv_rng _).1 | decide)) rfl rfl (Nat.le_of_ble_eq_true rfl) (by decide) rfl rfl 35 rfl (fun rv h1 q27 => ?_)
    obtain ⟨m28, n29, v32, rfl, rfl, I30, K31, pv32, qv32, rv32⟩ := q27
    replace rv32 : (v32.toInt = 0 ∧ (m28 123 12).toInt = (m16 123 12).toInt ∧ (m16 123 15).toInt = 6 ∧ (m28 123 14).toInt = -5000 - (m16 123 12).toInt) ∨ (v32.toInt = 1 ∧ (∃ o u w z : Int32, m28 = up2 (up2 (up2 (up2 m16 123 15 o) 131 (m16 123 17).toInt.toNat u) 123 17 w) 123 12 z ∧ u.toInt = 1048576 * (13 : Int) ∧ w.toInt = (m16 123 17).toInt + 1 ∧ z.toInt = (m16 123 12).toInt + 1) ∧ (m28 123 15).toInt = (m16 123 15).toInt + 1 ∧ (m16 123 15).toInt ≠ 6) := by have q_ := rv32; (try rw [z26] at q_); exact q_
    have K31c := K31
    have w33 : (m28 123 13).toInt = (m16 123 13).toInt := congrArg Int32.toInt (K31 123 13 rfl)
    have w34 : (m28 123 16).toInt = (m16 123 16).toInt := congrArg Int32.toInt (K31 123 16 rfl)
    have K31 := K18.trans (K31.sub (wl_sub (by decide)))
    show PV _ _ _ _ _ _ _ 35 [.ref 123] [.int v32] _
    have kO := rv32
    clear rv32
    have ke1 := e19
    have ke2 := e9
    refine pv_if_ne (M := mX12_readsCondition) (tgt := 40) dX12_readsCondition_35 38 rfl (by decide) (fun c39 => ?_) (fun c39 => ?_)
    · have c39 := iv_ne (X := v32.toInt) (Y := 0) c39 rfl (by decide)
      have kO2 := (kO.resolve_left (fun q => by have q1 := q.1; omega)).2
      have kz0 : QZ (tR m) m m28 := QZ_0 (m1 := m16) (fun j => by rw [ke1, up2_ne (by omega), ke2, up2_ne (by omega)]) (by rw [ke1, up2_ne (by omega), ke2, up2_ne (by omega)]) (by omega) (by omega) (by omega) (by omega) kO2.1 kO2.2.1
      have kin : QC cb 0 m m28 := by rw [hp2]; exact QC.start hp0 (by omega) (by omega) ke2 ke1 (by decide) (by omega) (by omega) kO2.1
      have kq0 : QS (tR m) (CND (tR m) (m 123 12).toInt) m28 := by have q := QS_start (t := tR m) (m2 := m16) (m3 := m28) (by omega) (by omega) kO2.1 kO2.2.1 (by rw [show (m16 123 12).toInt = (m 123 12).toInt by omega]; omega); rw [show (m16 123 12).toInt = (m 123 12).toInt by omega] at q; exact q
      clear kO kO2
      exact s_X12_readsCondition_vdz g hT I30 K31 cb kin kq0 kz0 hp2 (I 123 16).1
    · have c39 := iv_eq (X := v32.toInt) (Y := 0) c39 rfl (by decide)
      refine pv_iconst (M := mX12_readsCondition) (v := 0) dX12_readsCondition_38 39 rfl (by decide) ?_
      have z46 : (0 : Int32).toInt = 0 := by decide
      exact pv_iret (M := mX12_readsCondition) dX12_readsCondition_39 rfl rfl ⟨_, _, _, rfl, rfl, I30, K31, by decide, by decide, ⟨(by exfalso; have q := kO.resolve_right (fun q => by have q1 := q.1; omega); have q3 := q.2.2.1; clear kO q; omega), IFZ.no (by omega)⟩⟩
  · have c5 := iv_ne (X := v3.toInt) (Y := 40) c5 rfl (by decide)
    refine pv_aload_n (M := mX12_readsCondition) 0 dX12_readsCondition_9 10 rfl rfl rfl ?_
    refine pv_iconst (M := mX12_readsCondition) (v := 1) dX12_readsCondition_10 11 rfl (by decide) ?_
    refine pv_aload_n (M := mX12_readsCondition) 0 dX12_readsCondition_11 12 rfl rfl rfl ?_
    refine iv_get (M := mX12_readsCondition) (l1 := 0) (l2 := 160) dX12_readsCondition_12 FX12 12 wd1185 (by decide) (tl123 hT) rfl I rfl 15 rfl (fun v47 ev47 pv47 qv47 => ?_)
    have wv47 : v47.toInt = (m 123 12).toInt := congrArg Int32.toInt ev47
    have z48 : (1 : Int32).toInt = 1 := by decide
    refine pv_callv (M := mX12_readsCondition) (as := [.int 1, .int v47]) (st := []) (kc2 := 0) (ks2 := 0) dX12_readsCondition_15 wd1421 YX12_wrongAt ⟨wd1423, wd61⟩ (mk_get (tl123 hT)) rfl rfl (s_X12_wrongAt_vx g hT I 1 (by decide) (by decide) v47 (by omega) (by omega)) rfl rfl (Nat.le_of_ble_eq_true rfl) (by decide) rfl rfl 18 rfl (fun rv h1 q49 => ?_)
    obtain ⟨m50, n51, v54, rfl, rfl, I52, K53, pv54, qv54, rv54⟩ := q49
    replace rv54 : (m50 123 14).toInt = -1000 * (1 : Int) - v47.toInt := by have q_ := rv54; (try rw [z48] at q_); exact q_
    have K53c := K53
    have w55 : (m50 123 12).toInt = (m 123 12).toInt := congrArg Int32.toInt (K53 123 12 rfl)
    have w56 : (m50 123 13).toInt = (m 123 13).toInt := congrArg Int32.toInt (K53 123 13 rfl)
    have w57 : (m50 123 16).toInt = (m 123 16).toInt := congrArg Int32.toInt (K53 123 16 rfl)
    have w58 : (m50 123 17).toInt = (m 123 17).toInt := congrArg Int32.toInt (K53 123 17 rfl)
    have w59 : (m50 123 15).toInt = (m 123 15).toInt := congrArg Int32.toInt (K53 123 15 rfl)
    have K53 := Kp.trans (K53.sub (wl_sub (by decide)))
    show PV _ _ _ _ _ _ _ 18 [.ref 123] [.int v54] _
    exact pv_iret (M := mX12_readsCondition) dX12_readsCondition_18 rfl (iv_nz (by omega) (by omega)) ⟨_, _, _, rfl, rfl, I52, K53, by omega, by omega, ⟨(Or.inl ⟨by omega, FLT_of (a := 1) (p := (m 123 12).toInt) (if_neg (by omega)) (by decide) (by omega)⟩), IFZ.no (by first | decide | omega)⟩⟩
