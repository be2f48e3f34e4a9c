set_option maxHeartbeats 2000000 in
set_option maxRecDepth 20000 in
theorem s_X12_readsCompared (g : pv_G) {T : List mv_T} {m : Nat → Nat → Int32} {n : Nat → Nat → Int64} {r : Nat → Value} (hT : TX T) (I : IV BB m) (cb : Int) (hp0 : HW cb 0 m) (hp1 : 0 ≤ SLK m) (hp2 : (m 123 12).toInt ≤ (m 123 13).toInt) (hp3 : (m 123 17).toInt ≤ (m 123 12).toInt) (hp4 : NS m) : PM g mX12_readsCompared yX12_readsCompared (sqI T BB (wl [(123, 123, some 12), (123, 123, some 14), (123, 123, some 15), (123, 123, some 16), (123, 123, some 17), (123, 123, some 19), (130, 130, none), (131, 131, none)]) r m 0 1 (fun m' v => v.toInt = 0 ∨ RC cb m m')) 6 0 0 [.ref 123] (mk T m n r) := by
  have Kp : fr (wl [(123, 123, some 12), (123, 123, some 14), (123, 123, some 15), (123, 123, some 16), (123, 123, some 17), (123, 123, some 19), (130, 130, none), (131, 131, none)]) m m := fr.rf
  have z191 : 0 ≤ (m 123 12).toInt ∧ (m 123 12).toInt ≤ 160 := I 123 12
  have z192 : 0 ≤ (m 123 13).toInt ∧ (m 123 13).toInt ≤ 160 := I 123 13
  have z193 : 0 ≤ (m 123 16).toInt ∧ (m 123 16).toInt ≤ 180 := I 123 16
  have z194 : 0 ≤ (m 123 17).toInt ∧ (m 123 17).toInt ≤ 180 := I 123 17
  refine PM.of 1 (lo := [.ref 123, pv_U]) rfl (by decide) rfl rfl (Nat.le_of_ble_eq_true rfl) ?_
  refine pv_aload_n (M := mX12_readsCompared) 0 dX12_readsCompared_0 1 rfl rfl rfl ?_
  refine pv_callv (M := mX12_readsCompared) (as := []) (st := []) (kc2 := 0) (ks2 := 0) dX12_readsCompared_1 wd1425 YX12_readsSum ⟨wd1427, wd62⟩ (mk_get (tl123 hT)) rfl rfl (s_X12_readsSum g hT I cb 0 hp0 (by omega) (by first | omega | assumption | exact (iv_rng _).2 | exact (iv_rng _).1 | decide) (by first | omega | assumption | exact (iv_rng _).2 | exact (iv_rng _).1 | decide) (by first | omega | assumption | exact (iv_rng _).2 | exact (iv_rng _).1 | decide) hp4) rfl rfl (Nat.le_of_ble_eq_true rfl) (by decide) rfl rfl 4 rfl (fun rv h1 q1 => ?_)
  obtain ⟨m2, n3, v6, rfl, rfl, I4, K5, pv6, qv6, rv6⟩ := q1
  replace rv6 : v6.toInt = 0 ∨ RS cb (0 + 1) m m2 := rv6
  have K5c := K5
  have w7 : (m2 123 13).toInt = (m 123 13).toInt := congrArg Int32.toInt (K5 123 13 rfl)
  have K5 := Kp.trans (K5.sub (fun _ _ q => q))
  show PV _ _ _ _ _ _ _ 4 [.ref 123, pv_U] [.int v6] _
  have kR := rv6
  refine pv_if_ne (M := mX12_readsCompared) (tgt := 9) dX12_readsCompared_4 7 rfl (by decide) (fun c9 => ?_) (fun c9 => ?_)
  · have c9 := iv_ne (X := v6.toInt) (Y := 0) c9 rfl (by decide)
    have ka := kR.resolve_left (by omega)
    have ka : RS cb 1 m m2 := ka
    have ka2 := ka.2.1
    have ka3 := ka.2.2.2.1
    have ka4 := ka.2.2.2.2.2.1
    have ka5 := ka.2.2.2.2.2.2.1
    refine pv_aload_n (M := mX12_readsCompared) 0 dX12_readsCompared_9 10 rfl rfl rfl ?_
    refine pv_callv (M := mX12_readsCompared) (as := []) (st := []) (kc2 := 0) (ks2 := 0) dX12_readsCompared_10 wd1417 YX12_here ⟨wd1419, wd60⟩ (mk_get (tl123 hT)) rfl rfl (s_X12_here g hT I4) rfl rfl (Nat.le_of_ble_eq_true rfl) (by decide) rfl rfl 13 rfl (fun rv h1 q16 => ?_)
    obtain ⟨v17, rfl, rfl, pv17, qv17, rv17⟩ := q16
    replace rv17 : v17.toInt = hereV m2 ∧ (v17.toInt = -1 ∨ (m2 123 12).toInt < (m2 123 13).toInt) := rv17
    show PV _ _ _ _ _ _ _ 13 [.ref 123, pv_U] [.int v17] _
    refine pv_bipush (M := mX12_readsCompared) (v := 60) dX12_readsCompared_13 15 rfl (by decide) ?_
    refine pv_icmp_ne (M := mX12_readsCompared) (tgt := 23) dX12_readsCompared_15 18 rfl (by decide) (fun c18 => ?_) (fun c18 => ?_)
    · have c18 := iv_ne (X := v17.toInt) (Y := 60) c18 rfl (by decide)
      refine pv_aload_n (M := mX12_readsCompared) 0 dX12_readsCompared_23 24 rfl rfl rfl ?_
      refine pv_callv (M := mX12_readsCompared) (as := []) (st := []) (kc2 := 0) (ks2 := 0) dX12_readsCompared_24 wd1417 YX12_here ⟨wd1419, wd60⟩ (mk_get (tl123 hT)) rfl rfl (s_X12_here g hT I4) rfl rfl (Nat.le_of_ble_eq_true rfl) (by decide) rfl rfl 27 rfl (fun rv h1 q19 => ?_)
      obtain ⟨v20, rfl, rfl, pv20, qv20, rv20⟩ := q19
      replace rv20 : v20.toInt = hereV m2 ∧ (v20.toInt = -1 ∨ (m2 123 12).toInt < (m2 123 13).toInt) := rv20
      show PV _ _ _ _ _ _ _ 27 [.ref 123, pv_U] [.int v20] _
      refine pv_bipush (M := mX12_readsCompared) (v := 62) dX12_readsCompared_27 29 rfl (by decide) ?_
      refine pv_icmp_ne (M := mX12_readsCompared) (tgt := 37) dX12_readsCompared_29 32 rfl (by decide) (fun c21 => ?_) (fun c21 => ?_)
      · have c21 := iv_ne (X := v20.toInt) (Y := 62) c21 rfl (by decide)
        refine pv_aload_n (M := mX12_readsCompared) 0 dX12_readsCompared_37 38 rfl rfl rfl ?_
        refine pv_callv (M := mX12_readsCompared) (as := []) (st := []) (kc2 := 0) (ks2 := 0) dX12_readsCompared_38 wd1417 YX12_here ⟨wd1419, wd60⟩ (mk_get (tl123 hT)) rfl rfl (s_X12_here g hT I4) rfl rfl (Nat.le_of_ble_eq_true rfl) (by decide) rfl rfl 41 rfl (fun rv h1 q22 => ?_)
        obtain ⟨v23, rfl, rfl, pv23, qv23, rv23⟩ := q22
        replace rv23 : v23.toInt = hereV m2 ∧ (v23.toInt = -1 ∨ (m2 123 12).toInt < (m2 123 13).toInt) := rv23
        show PV _ _ _ _ _ _ _ 41 [.ref 123, pv_U] [.int v23] _
        refine pv_bipush (M := mX12_readsCompared) (v := 61) dX12_readsCompared_41 43 rfl (by decide) ?_
        refine pv_icmp_ne (M := mX12_readsCompared) (tgt := 51) dX12_readsCompared_43 46 rfl (by decide) (fun c24 => ?_) (fun c24 => ?_)
        · have c24 := iv_ne (X := v23.toInt) (Y := 61) c24 rfl (by decide)
          refine pv_iconst (M := mX12_readsCompared) (v := (-1)) dX12_readsCompared_51 52 rfl (by decide) ?_
          refine pv_istore_n (M := mX12_readsCompared) 1 (lo2 := [.ref 123, .int (-1)]) dX12_readsCompared_52 53 rfl rfl (by decide) rfl rfl ?_
          refine pv_iload_n (M := mX12_readsCompared) 1 dX12_readsCompared_53 54 rfl rfl rfl ?_
          refine pv_iconst (M := mX12_readsCompared) (v := (-1)) dX12_readsCompared_54 55 rfl (by decide) ?_
          refine pv_icmp_ne (M := mX12_readsCompared) (tgt := 68) dX12_readsCompared_55 58 rfl (by decide) (fun q => absurd (by decide) q) (fun _ => ?_)
          refine pv_aload_n (M := mX12_readsCompared) 0 dX12_readsCompared_58 59 rfl rfl rfl ?_
          refine pv_iconst (M := mX12_readsCompared) (v := 1) dX12_readsCompared_59 60 rfl (by decide) ?_
          refine pv_aload_n (M := mX12_readsCompared) 0 dX12_readsCompared_60 61 rfl rfl rfl ?_
          refine iv_get (M := mX12_readsCompared) (l1 := 0) (l2 := 160) dX12_readsCompared_61 FX12 12 wd1185 (by decide) (tl123 hT) rfl I4 rfl 64 rfl (fun v26 ev26 pv26 qv26 => ?_)
          have wv26 : v26.toInt = (m2 123 12).toInt := congrArg Int32.toInt ev26
          refine pv_callv (M := mX12_readsCompared) (as := [.int 1, .int v26]) (st := []) (kc2 := 0) (ks2 := 0) dX12_readsCompared_64 wd1421 YX12_wrongAt ⟨wd1423, wd61⟩ (mk_get (tl123 hT)) rfl rfl (s_X12_wrongAt g hT I4 1 (by decide) (by decide) v26 (by omega) (by omega)) rfl rfl (Nat.le_of_ble_eq_true rfl) (by decide) rfl rfl 67 rfl (fun rv h1 q27 => ?_)
          obtain ⟨m28, n29, v32, rfl, rfl, I30, K31, pv32, qv32, rv32⟩ := q27
          have K31c := K31
          have w33 : (m28 123 12).toInt = (m2 123 12).toInt := congrArg Int32.toInt (K31 123 12 rfl)
          have w34 : (m28 123 13).toInt = (m2 123 13).toInt := congrArg Int32.toInt (K31 123 13 rfl)
          have w35 : (m28 123 16).toInt = (m2 123 16).toInt := congrArg Int32.toInt (K31 123 16 rfl)
          have w36 : (m28 123 17).toInt = (m2 123 17).toInt := congrArg Int32.toInt (K31 123 17 rfl)
          have K31 := K5.trans (K31.sub (wl_sub (by decide)))
          show PV _ _ _ _ _ _ _ 67 [.ref 123, .int (-1)] [.int v32] _
          exact pv_iret (M := mX12_readsCompared) dX12_readsCompared_67 rfl (iv_nz (by omega) (by omega)) ⟨_, _, _, rfl, rfl, I30, K31, by omega, by omega, (Or.inl (by omega))⟩
        · have c24 := iv_eq (X := v23.toInt) (Y := 61) c24 rfl (by decide)
          refine pv_bipush (M := mX12_readsCompared) (v := 9) dX12_readsCompared_46 48 rfl (by decide) ?_
          refine pv_goto (M := mX12_readsCompared) (tgt := 52) dX12_readsCompared_48 (by decide) ?_
          refine pv_istore_n (M := mX12_readsCompared) 1 (lo2 := [.ref 123, .int 9]) dX12_readsCompared_52 53 rfl rfl (by decide) rfl rfl ?_
          refine pv_iload_n (M := mX12_readsCompared) 1 dX12_readsCompared_53 54 rfl rfl rfl ?_
          refine pv_iconst (M := mX12_readsCompared) (v := (-1)) dX12_readsCompared_54 55 rfl (by decide) ?_
          refine pv_icmp_ne (M := mX12_readsCompared) (tgt := 68) dX12_readsCompared_55 58 rfl (by decide) (fun _ => ?_) (fun q => absurd q (by decide))
          refine pv_aload_n (M := mX12_readsCompared) 0 dX12_readsCompared_68 69 rfl rfl rfl ?_
          refine pv_aload_n (M := mX12_readsCompared) 0 dX12_readsCompared_69 70 rfl rfl rfl ?_
          refine iv_get (M := mX12_readsCompared) (l1 := 0) (l2 := 160) dX12_readsCompared_70 FX12 12 wd1185 (by decide) (tl123 hT) rfl I4 rfl 73 rfl (fun v38 ev38 pv38 qv38 => ?_)
          have wv38 : v38.toInt = (m2 123 12).toInt := congrArg Int32.toInt ev38
          refine pv_iconst (M := mX12_readsCompared) (v := 1) dX12_readsCompared_73 74 rfl (by decide) ?_
          refine iv_iadd (M := mX12_readsCompared) (X := v38.toInt) (Y := 1) dX12_readsCompared_74 75 rfl rfl (by decide) (by omega) (by omega) (fun v39 ev39 => ?_)
          refine iv_put (M := mX12_readsCompared) (l1 := 0) (l2 := 160) dX12_readsCompared_75 FX12 12 wd1185 (by decide) rfl (tl123 hT) rfl rfl rfl I4 rfl (by omega) (by omega) 78 rfl (fun m40 e43 I41 => ?_)
          have K42 := K5.set e43 rfl
          have w44 : (m40 123 12).toInt = v39.toInt := by rw [e43, up2_eq]
          have w45 : (m40 123 13).toInt = (m2 123 13).toInt := by rw [e43, up2_ne (by omega)]
          have w46 : (m40 123 16).toInt = (m2 123 16).toInt := by rw [e43, up2_ne (by omega)]
          have w47 : (m40 123 17).toInt = (m2 123 17).toInt := by rw [e43, up2_ne (by omega)]
          have kA : HW cb 1 m40 ∧ SLK m2 + 1 ≤ SLK m40 ∧ 0 ≤ SLK m2 ∧ NS m40 := ⟨(HW_move ka.1 (by rw [e43, up2_ne (by omega)]) (by rw [e43, up2_ne (by omega)]) (fun j => by rw [e43, up2_ne (by omega)]) (fun j => by rw [e43, up2_ne (by omega)])).1, by have := (HW_move (m' := m40) ka.1 (by rw [e43, up2_ne (by omega)]) (by rw [e43, up2_ne (by omega)]) (fun j => by rw [e43, up2_ne (by omega)]) (fun j => by rw [e43, up2_ne (by omega)])).2; omega, by omega, NS_eq hp4 (by omega) (fun j hj => by rw [e43, up2_ne (by omega)]; exact ka.2.2.2.2.1 j (by omega))⟩
          have ke := e43
          have kA2 := kA.2.1
          refine pv_aload_n (M := mX12_readsCompared) 0 dX12_readsCompared_78 79 rfl rfl rfl ?_
          refine pv_callv (M := mX12_readsCompared) (as := []) (st := []) (kc2 := 0) (ks2 := 0) dX12_readsCompared_79 wd1425 YX12_readsSum ⟨wd1427, wd62⟩ (mk_get (tl123 hT)) rfl rfl (s_X12_readsSum g hT I41 cb 1 kA.1 (by omega) (by have := kA.2.1; have := kA.2.2.1; omega) (by omega) (by omega) kA.2.2.2) rfl rfl (Nat.le_of_ble_eq_true rfl) (by decide) rfl rfl 82 rfl (fun rv h1 q51 => ?_)
          obtain ⟨m52, n53, v56, rfl, rfl, I54, K55, pv56, qv56, rv56⟩ := q51
          replace rv56 : v56.toInt = 0 ∨ RS cb (1 + 1) m40 m52 := rv56
          have K55c := K55
          have w57 : (m52 123 13).toInt = (m40 123 13).toInt := congrArg Int32.toInt (K55 123 13 rfl)
          have K55 := K42.trans (K55.sub (fun _ _ q => q))
          show PV _ _ _ _ _ _ _ 82 [.ref 123, .int 9] [.int v56] _
          have kR2 := rv56
          refine pv_if_ne (M := mX12_readsCompared) (tgt := 87) dX12_readsCompared_82 85 rfl (by decide) (fun c59 => ?_) (fun c59 => ?_)
          · have c59 := iv_ne (X := v56.toInt) (Y := 0) c59 rfl (by decide)
            have kb := kR2.resolve_left (by omega)
            have kb : RS cb 2 _ m52 := kb
            have kb2 := kb.2.1
            have kb3 : (m52 123 16).toInt ≤ (m52 123 12).toInt := SLK_cm (m := m52) (by omega)
            have kb4 : (m52 123 12).toInt ≤ 160 := (I54 123 12).2
            refine pv_aload_n (M := mX12_readsCompared) 0 dX12_readsCompared_87 88 rfl rfl rfl ?_
            refine pv_iload_n (M := mX12_readsCompared) 1 dX12_readsCompared_88 89 rfl rfl rfl ?_
            refine pv_iconst (M := mX12_readsCompared) (v := 0) dX12_readsCompared_89 90 rfl (by decide) ?_
            have z65 : (9 : Int32).toInt = 9 := by decide
            have z66 : (0 : Int32).toInt = 0 := by decide
            refine pv_callv (M := mX12_readsCompared) (as := [.int 9, .int 0]) (st := []) (kc2 := 0) (ks2 := 0) dX12_readsCompared_90 wd1446 YX12_notes ⟨wd1448, wd67⟩ (mk_get (tl123 hT)) rfl rfl (s_X12_notes g hT I54 9 (by decide) (by decide) 0 (by decide) (by decide) (by first | omega | assumption | exact (iv_rng _).2 | exact (iv_rng _).1 | decide)) rfl rfl (Nat.le_of_ble_eq_true rfl) (by decide) rfl rfl 93 rfl (fun rv h1 q67 => ?_)
            obtain ⟨m68, n69, rfl, rfl, I70, K71, rm68⟩ := q67
            replace rm68 : NOTE (9 : Int) (0 : Int) m52 m68 := by have q_ := rm68; (try rw [z65] at q_); (try rw [z66] at q_); exact q_
            have K71c := K71
            have w72 : (m68 123 12).toInt = (m52 123 12).toInt := congrArg Int32.toInt (K71 123 12 rfl)
            have w73 : (m68 123 13).toInt = (m52 123 13).toInt := congrArg Int32.toInt (K71 123 13 rfl)
            have w74 : (m68 123 17).toInt = (m52 123 17).toInt := congrArg Int32.toInt (K71 123 17 rfl)
            have K71 := K55.trans (K71.sub (wl_sub (by decide)))
            show PV _ _ _ _ _ _ _ 93 [.ref 123, .int 9] [] _
            have kN := rm68
            have kB := NOTE_HW (d := -1) kN kb.1 (by omega) (by omega) (Or.inr (Or.inr (Or.inr ⟨by omega, by omega, rfl, by have := OPS_ge m52; omega⟩)))
            have kB : HW cb 1 m68 ∧ SLK m68 = SLK m52 - 1 := ⟨kB.1, kB.2.1⟩
            refine pv_aload_n (M := mX12_readsCompared) 0 dX12_readsCompared_93 94 rfl rfl rfl ?_
            refine pv_callv (M := mX12_readsCompared) (as := []) (st := []) (kc2 := 0) (ks2 := 0) dX12_readsCompared_94 wd1476 YX12_endsPiece ⟨wd1478, wd73⟩ (mk_get (tl123 hT)) rfl rfl (s_X12_endsPiece g hT I70 cb 1 kB.1 (by omega) (by omega)) rfl rfl (Nat.le_of_ble_eq_true rfl) (by decide) rfl rfl 97 rfl (fun rv h1 q78 => ?_)
            obtain ⟨m79, n80, rfl, rfl, I81, K82, rm79⟩ := q78
            replace rm79 : EPI cb 1 m68 m79 ∧ ((m79 123 17).toInt = 0 ∨ opv (m79 131 ((m79 123 17).toInt - 1).toNat) ≠ 10) := rm79
            have K82c := K82
            have w83 : (m79 123 12).toInt = (m68 123 12).toInt := congrArg Int32.toInt (K82 123 12 rfl)
            have w84 : (m79 123 13).toInt = (m68 123 13).toInt := congrArg Int32.toInt (K82 123 13 rfl)
            have K82 := K71.trans (K82.sub (wl_sub (by decide)))
            show PV _ _ _ _ _ _ _ 97 [.ref 123, .int 9] [] _
            have kE := rm79
            refine pv_iconst (M := mX12_readsCompared) (v := 1) dX12_readsCompared_97 98 rfl (by decide) ?_
            have z86 : (1 : Int32).toInt = 1 := by decide
            exact pv_iret (M := mX12_readsCompared) dX12_readsCompared_98 rfl rfl ⟨_, _, _, rfl, rfl, I81, K82, by decide, by decide, (Or.inr (RC.of (by omega) ka ke (by omega) kb kN (by omega) (by omega) kE.1 (K82c 123 12 rfl) (K82c 123 13 rfl)))⟩
          · have c59 := iv_eq (X := v56.toInt) (Y := 0) c59 rfl (by decide)
            refine pv_iconst (M := mX12_readsCompared) (v := 0) dX12_readsCompared_85 86 rfl (by decide) ?_
            have z87 : (0 : Int32).toInt = 0 := by decide
            exact pv_iret (M := mX12_readsCompared) dX12_readsCompared_86 rfl rfl ⟨_, _, _, rfl, rfl, I54, K55, by decide, by decide, (Or.inl (by decide))⟩
      · have c21 := iv_eq (X := v20.toInt) (Y := 62) c21 rfl (by decide)
        refine pv_bipush (M := mX12_readsCompared) (v := 8) dX12_readsCompared_32 34 rfl (by decide) ?_
        refine pv_goto (M := mX12_readsCompared) (tgt := 52) dX12_readsCompared_34 (by decide) ?_
        refine pv_istore_n (M := mX12_readsCompared) 1 (lo2 := [.ref 123, .int 8]) dX12_readsCompared_52 53 rfl rfl (by decide) rfl rfl ?_
        refine pv_iload_n (M := mX12_readsCompared) 1 dX12_readsCompared_53 54 rfl rfl rfl ?_
        refine pv_iconst (M := mX12_readsCompared) (v := (-1)) dX12_readsCompared_54 55 rfl (by decide) ?_
        refine pv_icmp_ne (M := mX12_readsCompared) (tgt := 68) dX12_readsCompared_55 58 rfl (by decide) (fun _ => ?_) (fun q => absurd q (by decide))
        refine pv_aload_n (M := mX12_readsCompared) 0 dX12_readsCompared_68 69 rfl rfl rfl ?_
        refine pv_aload_n (M := mX12_readsCompared) 0 dX12_readsCompared_69 70 rfl rfl rfl ?_
        refine iv_get (M := mX12_readsCompared) (l1 := 0) (l2 := 160) dX12_readsCompared_70 FX12 12 wd1185 (by decide) (tl123 hT) rfl I4 rfl 73 rfl (fun v89 ev89 pv89 qv89 => ?_)
        have wv89 : v89.toInt = (m2 123 12).toInt := congrArg Int32.toInt ev89
        refine pv_iconst (M := mX12_readsCompared) (v := 1) dX12_readsCompared_73 74 rfl (by decide) ?_
        refine iv_iadd (M := mX12_readsCompared) (X := v89.toInt) (Y := 1) dX12_readsCompared_74 75 rfl rfl (by decide) (by omega) (by omega) (fun v90 ev90 => ?_)
        refine iv_put (M := mX12_readsCompared) (l1 := 0) (l2 := 160) dX12_readsCompared_75 FX12 12 wd1185 (by decide) rfl (tl123 hT) rfl rfl rfl I4 rfl (by omega) (by omega) 78 rfl (fun m91 e94 I92 => ?_)
        have K93 := K5.set e94 rfl
        have w95 : (m91 123 12).toInt = v90.toInt := by rw [e94, up2_eq]
        have w96 : (m91 123 13).toInt = (m2 123 13).toInt := by rw [e94, up2_ne (by omega)]
        have w97 : (m91 123 16).toInt = (m2 123 16).toInt := by rw [e94, up2_ne (by omega)]
        have w98 : (m91 123 17).toInt = (m2 123 17).toInt := by rw [e94, up2_ne (by omega)]
        have kA : HW cb 1 m91 ∧ SLK m2 + 1 ≤ SLK m91 ∧ 0 ≤ SLK m2 ∧ NS m91 := ⟨(HW_move ka.1 (by rw [e94, up2_ne (by omega)]) (by rw [e94, up2_ne (by omega)]) (fun j => by rw [e94, up2_ne (by omega)]) (fun j => by rw [e94, up2_ne (by omega)])).1, by have := (HW_move (m' := m91) ka.1 (by rw [e94, up2_ne (by omega)]) (by rw [e94, up2_ne (by omega)]) (fun j => by rw [e94, up2_ne (by omega)]) (fun j => by rw [e94, up2_ne (by omega)])).2; omega, by omega, NS_eq hp4 (by omega) (fun j hj => by rw [e94, up2_ne (by omega)]; exact ka.2.2.2.2.1 j (by omega))⟩
        have ke := e94
        have kA2 := kA.2.1
        refine pv_aload_n (M := mX12_readsCompared) 0 dX12_readsCompared_78 79 rfl rfl rfl ?_
        refine pv_callv (M := mX12_readsCompared) (as := []) (st := []) (kc2 := 0) (ks2 := 0) dX12_readsCompared_79 wd1425 YX12_readsSum ⟨wd1427, wd62⟩ (mk_get (tl123 hT)) rfl rfl (s_X12_readsSum g hT I92 cb 1 kA.1 (by omega) (by have := kA.2.1; have := kA.2.2.1; omega) (by omega) (by omega) kA.2.2.2) rfl rfl (Nat.le_of_ble_eq_true rfl) (by decide) rfl rfl 82 rfl (fun rv h1 q102 => ?_)
        obtain ⟨m103, n104, v107, rfl, rfl, I105, K106, pv107, qv107, rv107⟩ := q102
        replace rv107 : v107.toInt = 0 ∨ RS cb (1 + 1) m91 m103 := rv107
        have K106c := K106
        have w108 : (m103 123 13).toInt = (m91 123 13).toInt := congrArg Int32.toInt (K106 123 13 rfl)
        have K106 := K93.trans (K106.sub (fun _ _ q => q))
        show PV _ _ _ _ _ _ _ 82 [.ref 123, .int 8] [.int v107] _
        have kR2 := rv107
        refine pv_if_ne (M := mX12_readsCompared) (tgt := 87) dX12_readsCompared_82 85 rfl (by decide) (fun c110 => ?_) (fun c110 => ?_)
        · have c110 := iv_ne (X := v107.toInt) (Y := 0) c110 rfl (by decide)
          have kb := kR2.resolve_left (by omega)
          have kb : RS cb 2 _ m103 := kb
          have kb2 := kb.2.1
          have kb3 : (m103 123 16).toInt ≤ (m103 123 12).toInt := SLK_cm (m := m103) (by omega)
          have kb4 : (m103 123 12).toInt ≤ 160 := (I105 123 12).2
          refine pv_aload_n (M := mX12_readsCompared) 0 dX12_readsCompared_87 88 rfl rfl rfl ?_
          refine pv_iload_n (M := mX12_readsCompared) 1 dX12_readsCompared_88 89 rfl rfl rfl ?_
          refine pv_iconst (M := mX12_readsCompared) (v := 0) dX12_readsCompared_89 90 rfl (by decide) ?_
          have z116 : (8 : Int32).toInt = 8 := by decide
          have z117 : (0 : Int32).toInt = 0 := by decide
          refine pv_callv (M := mX12_readsCompared) (as := [.int 8, .int 0]) (st := []) (kc2 := 0) (ks2 := 0) dX12_readsCompared_90 wd1446 YX12_notes ⟨wd1448, wd67⟩ (mk_get (tl123 hT)) rfl rfl (s_X12_notes g hT I105 8 (by decide) (by decide) 0 (by decide) (by decide) (by first | omega | assumption | exact (iv_rng _).2 | exact (iv_rng _).1 | decide)) rfl rfl (Nat.le_of_ble_eq_true rfl) (by decide) rfl rfl 93 rfl (fun rv h1 q118 => ?_)
          obtain ⟨m119, n120, rfl, rfl, I121, K122, rm119⟩ := q118
          replace rm119 : NOTE (8 : Int) (0 : Int) m103 m119 := by have q_ := rm119; (try rw [z116] at q_); (try rw [z117] at q_); exact q_
          have K122c := K122
          have w123 : (m119 123 12).toInt = (m103 123 12).toInt := congrArg Int32.toInt (K122 123 12 rfl)
          have w124 : (m119 123 13).toInt = (m103 123 13).toInt := congrArg Int32.toInt (K122 123 13 rfl)
          have w125 : (m119 123 17).toInt = (m103 123 17).toInt := congrArg Int32.toInt (K122 123 17 rfl)
          have K122 := K106.trans (K122.sub (wl_sub (by decide)))
          show PV _ _ _ _ _ _ _ 93 [.ref 123, .int 8] [] _
          have kN := rm119
          have kB := NOTE_HW (d := -1) kN kb.1 (by omega) (by omega) (Or.inr (Or.inr (Or.inr ⟨by omega, by omega, rfl, by have := OPS_ge m103; omega⟩)))
          have kB : HW cb 1 m119 ∧ SLK m119 = SLK m103 - 1 := ⟨kB.1, kB.2.1⟩
          refine pv_aload_n (M := mX12_readsCompared) 0 dX12_readsCompared_93 94 rfl rfl rfl ?_
          refine pv_callv (M := mX12_readsCompared) (as := []) (st := []) (kc2 := 0) (ks2 := 0) dX12_readsCompared_94 wd1476 YX12_endsPiece ⟨wd1478, wd73⟩ (mk_get (tl123 hT)) rfl rfl (s_X12_endsPiece g hT I121 cb 1 kB.1 (by omega) (by omega)) rfl rfl (Nat.le_of_ble_eq_true rfl) (by decide) rfl rfl 97 rfl (fun rv h1 q129 => ?_)
          obtain ⟨m130, n131, rfl, rfl, I132, K133, rm130⟩ := q129
          replace rm130 : EPI cb 1 m119 m130 ∧ ((m130 123 17).toInt = 0 ∨ opv (m130 131 ((m130 123 17).toInt - 1).toNat) ≠ 10) := rm130
          have K133c := K133
          have w134 : (m130 123 12).toInt = (m119 123 12).toInt := congrArg Int32.toInt (K133 123 12 rfl)
          have w135 : (m130 123 13).toInt = (m119 123 13).toInt := congrArg Int32.toInt (K133 123 13 rfl)
          have K133 := K122.trans (K133.sub (wl_sub (by decide)))
          show PV _ _ _ _ _ _ _ 97 [.ref 123, .int 8] [] _
          have kE := rm130
          refine pv_iconst (M := mX12_readsCompared) (v := 1) dX12_readsCompared_97 98 rfl (by decide) ?_
          have z137 : (1 : Int32).toInt = 1 := by decide
          exact pv_iret (M := mX12_readsCompared) dX12_readsCompared_98 rfl rfl ⟨_, _, _, rfl, rfl, I132, K133, by decide, by decide, (Or.inr (RC.of (by omega) ka ke (by omega) kb kN (by omega) (by omega) kE.1 (K133c 123 12 rfl) (K133c 123 13 rfl)))⟩
        · have c110 := iv_eq (X := v107.toInt) (Y := 0) c110 rfl (by decide)
          refine pv_iconst (M := mX12_readsCompared) (v := 0) dX12_readsCompared_85 86 rfl (by decide) ?_
          have z138 : (0 : Int32).toInt = 0 := by decide
          exact pv_iret (M := mX12_readsCompared) dX12_readsCompared_86 rfl rfl ⟨_, _, _, rfl, rfl, I105, K106, by decide, by decide, (Or.inl (by decide))⟩
    · have c18 := iv_eq (X := v17.toInt) (Y := 60) c18 rfl (by decide)
      refine pv_bipush (M := mX12_readsCompared) (v := 7) dX12_readsCompared_18 20 rfl (by decide) ?_
      refine pv_goto (M := mX12_readsCompared) (tgt := 52) dX12_readsCompared_20 (by decide) ?_
      refine pv_istore_n (M := mX12_readsCompared) 1 (lo2 := [.ref 123, .int 7]) dX12_readsCompared_52 53 rfl rfl (by decide) rfl rfl ?_
      refine pv_iload_n (M := mX12_readsCompared) 1 dX12_readsCompared_53 54 rfl rfl rfl ?_
      refine pv_iconst (M := mX12_readsCompared) (v := (-1)) dX12_readsCompared_54 55 rfl (by decide) ?_
      refine pv_icmp_ne (M := mX12_readsCompared) (tgt := 68) dX12_readsCompared_55 58 rfl (by decide) (fun _ => ?_) (fun q => absurd q (by decide))
      refine pv_aload_n (M := mX12_readsCompared) 0 dX12_readsCompared_68 69 rfl rfl rfl ?_
      refine pv_aload_n (M := mX12_readsCompared) 0 dX12_readsCompared_69 70 rfl rfl rfl ?_
      refine iv_get (M := mX12_readsCompared) (l1 := 0) (l2 := 160) dX12_readsCompared_70 FX12 12 wd1185 (by decide) (tl123 hT) rfl I4 rfl 73 rfl (fun v140 ev140 pv140 qv140 => ?_)
      have wv140 : v140.toInt = (m2 123 12).toInt := congrArg Int32.toInt ev140
      refine pv_iconst (M := mX12_readsCompared) (v := 1) dX12_readsCompared_73 74 rfl (by decide) ?_
      refine iv_iadd (M := mX12_readsCompared) (X := v140.toInt) (Y := 1) dX12_readsCompared_74 75 rfl rfl (by decide) (by omega) (by omega) (fun v141 ev141 => ?_)
      refine iv_put (M := mX12_readsCompared) (l1 := 0) (l2 := 160) dX12_readsCompared_75 FX12 12 wd1185 (by decide) rfl (tl123 hT) rfl rfl rfl I4 rfl (by omega) (by omega) 78 rfl (fun m142 e145 I143 => ?_)
      have K144 := K5.set e145 rfl
      have w146 : (m142 123 12).toInt = v141.toInt := by rw [e145, up2_eq]
      have w147 : (m142 123 13).toInt = (m2 123 13).toInt := by rw [e145, up2_ne (by omega)]
      have w148 : (m142 123 16).toInt = (m2 123 16).toInt := by rw [e145, up2_ne (by omega)]
      have w149 : (m142 123 17).toInt = (m2 123 17).toInt := by rw [e145, up2_ne (by omega)]
      have kA : HW cb 1 m142 ∧ SLK m2 + 1 ≤ SLK m142 ∧ 0 ≤ SLK m2 ∧ NS m142 := ⟨(HW_move ka.1 (by rw [e145, up2_ne (by omega)]) (by rw [e145, up2_ne (by omega)]) (fun j => by rw [e145, up2_ne (by omega)]) (fun j => by rw [e145, up2_ne (by omega)])).1, by have := (HW_move (m' := m142) ka.1 (by rw [e145, up2_ne (by omega)]) (by rw [e145, up2_ne (by omega)]) (fun j => by rw [e145, up2_ne (by omega)]) (fun j => by rw [e145, up2_ne (by omega)])).2; omega, by omega, NS_eq hp4 (by omega) (fun j hj => by rw [e145, up2_ne (by omega)]; exact ka.2.2.2.2.1 j (by omega))⟩
      have ke := e145
      have kA2 := kA.2.1
      refine pv_aload_n (M := mX12_readsCompared) 0 dX12_readsCompared_78 79 rfl rfl rfl ?_
      refine pv_callv (M := mX12_readsCompared) (as := []) (st := []) (kc2 := 0) (ks2 := 0) dX12_readsCompared_79 wd1425 YX12_readsSum ⟨wd1427, wd62⟩ (mk_get (tl123 hT)) rfl rfl (s_X12_readsSum g hT I143 cb 1 kA.1 (by omega) (by have := kA.2.1; have := kA.2.2.1; omega) (by omega) (by omega) kA.2.2.2) rfl rfl (Nat.le_of_ble_eq_true rfl) (by decide) rfl rfl 82 rfl (fun rv h1 q153 => ?_)
      obtain ⟨m154, n155, v158, rfl, rfl, I156, K157, pv158, qv158, rv158⟩ := q153
      replace rv158 : v158.toInt = 0 ∨ RS cb (1 + 1) m142 m154 := rv158
      have K157c := K157
      have w159 : (m154 123 13).toInt = (m142 123 13).toInt := congrArg Int32.toInt (K157 123 13 rfl)
      have K157 := K144.trans (K157.sub (fun _ _ q => q))
      show PV _ _ _ _ _ _ _ 82 [.ref 123, .int 7] [.int v158] _
      have kR2 := rv158
      refine pv_if_ne (M := mX12_readsCompared) (tgt := 87) dX12_readsCompared_82 85 rfl (by decide) (fun c161 => ?_) (fun c161 => ?_)
      · have c161 := iv_ne (X := v158.toInt) (Y := 0) c161 rfl (by decide)
        have kb := kR2.resolve_left (by omega)
        have kb : RS cb 2 _ m154 := kb
        have kb2 := kb.2.1
        have kb3 : (m154 123 16).toInt ≤ (m154 123 12).toInt := SLK_cm (m := m154) (by omega)
        have kb4 : (m154 123 12).toInt ≤ 160 := (I156 123 12).2
        refine pv_aload_n (M := mX12_readsCompared) 0 dX12_readsCompared_87 88 rfl rfl rfl ?_
        refine pv_iload_n (M := mX12_readsCompared) 1 dX12_readsCompared_88 89 rfl rfl rfl ?_
        refine pv_iconst (M := mX12_readsCompared) (v := 0) dX12_readsCompared_89 90 rfl (by decide) ?_
        have z167 : (7 : Int32).toInt = 7 := by decide
        have z168 : (0 : Int32).toInt = 0 := by decide
        refine pv_callv (M := mX12_readsCompared) (as := [.int 7, .int 0]) (st := []) (kc2 := 0) (ks2 := 0) dX12_readsCompared_90 wd1446 YX12_notes ⟨wd1448, wd67⟩ (mk_get (tl123 hT)) rfl rfl (s_X12_notes g hT I156 7 (by decide) (by decide) 0 (by decide) (by decide) (by first | omega | assumption | exact (iv_rng _).2 | exact (iv_rng _).1 | decide)) rfl rfl (Nat.le_of_ble_eq_true rfl) (by decide) rfl rfl 93 rfl (fun rv h1 q169 => ?_)
        obtain ⟨m170, n171, rfl, rfl, I172, K173, rm170⟩ := q169
        replace rm170 : NOTE (7 : Int) (0 : Int) m154 m170 := by have q_ := rm170; (try rw [z167] at q_); (try rw [z168] at q_); exact q_
        have K173c := K173
        have w174 : (m170 123 12).toInt = (m154 123 12).toInt := congrArg Int32.toInt (K173 123 12 rfl)
        have w175 : (m170 123 13).toInt = (m154 123 13).toInt := congrArg Int32.toInt (K173 123 13 rfl)
        have w176 : (m170 123 17).toInt = (m154 123 17).toInt := congrArg Int32.toInt (K173 123 17 rfl)
        have K173 := K157.trans (K173.sub (wl_sub (by decide)))
        show PV _ _ _ _ _ _ _ 93 [.ref 123, .int 7] [] _
        have kN := rm170
        have kB := NOTE_HW (d := -1) kN kb.1 (by omega) (by omega) (Or.inr (Or.inr (Or.inr ⟨by omega, by omega, rfl, by have := OPS_ge m154; omega⟩)))
        have kB : HW cb 1 m170 ∧ SLK m170 = SLK m154 - 1 := ⟨kB.1, kB.2.1⟩
        refine pv_aload_n (M := mX12_readsCompared) 0 dX12_readsCompared_93 94 rfl rfl rfl ?_
        refine pv_callv (M := mX12_readsCompared) (as := []) (st := []) (kc2 := 0) (ks2 := 0) dX12_readsCompared_94 wd1476 YX12_endsPiece ⟨wd1478, wd73⟩ (mk_get (tl123 hT)) rfl rfl (s_X12_endsPiece g hT I172 cb 1 kB.1 (by omega) (by omega)) rfl rfl (Nat.le_of_ble_eq_true rfl) (by decide) rfl rfl 97 rfl (fun rv h1 q180 => ?_)
        obtain ⟨m181, n182, rfl, rfl, I183, K184, rm181⟩ := q180
        replace rm181 : EPI cb 1 m170 m181 ∧ ((m181 123 17).toInt = 0 ∨ opv (m181 131 ((m181 123 17).toInt - 1).toNat) ≠ 10) := rm181
        have K184c := K184
        have w185 : (m181 123 12).toInt = (m170 123 12).toInt := congrArg Int32.toInt (K184 123 12 rfl)
        have w186 : (m181 123 13).toInt = (m170 123 13).toInt := congrArg Int32.toInt (K184 123 13 rfl)
        have K184 := K173.trans (K184.sub (wl_sub (by decide)))
        show PV _ _ _ _ _ _ _ 97 [.ref 123, .int 7] [] _
        have kE := rm181
        refine pv_iconst (M := mX12_readsCompared) (v := 1) dX12_readsCompared_97 98 rfl (by decide) ?_
        have z188 : (1 : Int32).toInt = 1 := by decide
        exact pv_iret (M := mX12_readsCompared) dX12_readsCompared_98 rfl rfl ⟨_, _, _, rfl, rfl, I183, K184, by decide, by decide, (Or.inr (RC.of (by omega) ka ke (by omega) kb kN (by omega) (by omega) kE.1 (K184c 123 12 rfl) (K184c 123 13 rfl)))⟩
      · have c161 := iv_eq (X := v158.toInt) (Y := 0) c161 rfl (by decide)
        refine pv_iconst (M := mX12_readsCompared) (v := 0) dX12_readsCompared_85 86 rfl (by decide) ?_
        have z189 : (0 : Int32).toInt = 0 := by decide
        exact pv_iret (M := mX12_readsCompared) dX12_readsCompared_86 rfl rfl ⟨_, _, _, rfl, rfl, I156, K157, by decide, by decide, (Or.inl (by decide))⟩
  · have c9 := iv_eq (X := v6.toInt) (Y := 0) c9 rfl (by decide)
    refine pv_iconst (M := mX12_readsCompared) (v := 0) dX12_readsCompared_7 8 rfl (by decide) ?_
    have z190 : (0 : Int32).toInt = 0 := by decide
    exact pv_iret (M := mX12_readsCompared) dX12_readsCompared_8 rfl rfl ⟨_, _, _, rfl, rfl, I4, K5, by decide, by decide, (Or.inl (by decide))⟩

set_option maxHeartbeats 2000000 in
set_option maxRecDepth 20000 in
theorem s_X12_readsCondition (g : pv_G) {T : List mv_T} {m : Nat → Nat → Int32} {n : Nat → Nat → Int64} {r : Nat → Value} (hT : TX T) (I : IV BB m) (cb : Int) (hp0 : 0 ≤ SLK m) (hp1 : (m 123 12).toInt ≤ (m 123 13).toInt) (hp2 : cb = (m 123 16).toInt) : PM g mX12_readsCondition yX12_readsCondition (sqI T BB (wl [(123, 123, some 12), (123, 123, some 14), (123, 123, some 15), (123, 123, some 16), (123, 123, some 17), (123, 123, some 19), (130, 130, none), (131, 131, none)]) r m 0 1 (fun m' v => v.toInt = 0 ∨ (WFc (m' 130) cb.toNat (m' 123 16).toInt.toNat ∧ KB cb m m' ∧ 0 ≤ SLK m' ∧ cb ≤ (m' 123 16).toInt ∧ (m 123 12).toInt ≤ (m' 123 12).toInt ∧ (m' 123 12).toInt ≤ (m' 123 13).toInt ∧ (m' 123 13).toInt = (m 123 13).toInt ∧ (m' 123 17).toInt = 0))) 7 0 0 [.ref 123] (mk T m n r) := by
  have Kp : fr (wl [(123, 123, some 12), (123, 123, some 14), (123, 123, some 15), (123, 123, some 16), (123, 123, some 17), (123, 123, some 19), (130, 130, none), (131, 131, none)]) m m := fr.rf
  have z439 : 0 ≤ (m 123 12).toInt ∧ (m 123 12).toInt ≤ 160 := I 123 12
  have z440 : 0 ≤ (m 123 13).toInt ∧ (m 123 13).toInt ≤ 160 := I 123 13
  have z441 : 0 ≤ (m 123 16).toInt ∧ (m 123 16).toInt ≤ 180 := I 123 16
  have z442 : 0 ≤ (m 123 17).toInt ∧ (m 123 17).toInt ≤ 180 := I 123 17
  refine PM.of 0 (lo := [.ref 123]) rfl (by decide) rfl rfl (Nat.le_of_ble_eq_true rfl) ?_
  refine pv_aload_n (M := mX12_readsCondition) 0 dX12_readsCondition_0 1 rfl rfl rfl ?_
  refine pv_callv (M := mX12_readsCondition) (as := []) (st := []) (kc2 := 0) (ks2 := 0) dX12_readsCondition_1 wd1417 YX12_here ⟨wd1419, wd60⟩ (mk_get (tl123 hT)) rfl rfl (s_X12_here g hT I) rfl rfl (Nat.le_of_ble_eq_true rfl) (by decide) rfl rfl 4 rfl (fun rv h1 q1 => ?_)
  obtain ⟨v2, rfl, rfl, pv2, qv2, rv2⟩ := q1
  replace rv2 : v2.toInt = hereV m ∧ (v2.toInt = -1 ∨ (m 123 12).toInt < (m 123 13).toInt) := rv2
  show PV _ _ _ _ _ _ _ 4 [.ref 123] [.int v2] _
  refine pv_bipush (M := mX12_readsCondition) (v := 40) dX12_readsCondition_4 6 rfl (by decide) ?_
  refine pv_icmp_eq (M := mX12_readsCondition) (tgt := 19) dX12_readsCondition_6 9 rfl (by decide) (fun c3 => ?_) (fun c3 => ?_)
  · have c3 := iv_eq (X := v2.toInt) (Y := 40) c3 rfl (by decide)
    refine pv_aload_n (M := mX12_readsCondition) 0 dX12_readsCondition_19 20 rfl rfl rfl ?_
    refine pv_iconst (M := mX12_readsCondition) (v := 0) dX12_readsCondition_20 21 rfl (by decide) ?_
    refine iv_put (M := mX12_readsCondition) (l1 := (-2147483648)) (l2 := 2147483647) dX12_readsCondition_21 FX12 15 wd1188 (by decide) rfl (tl123 hT) rfl rfl rfl I rfl (by decide) (by decide) 24 rfl (fun m4 e7 I5 => ?_)
    have K6 := Kp.set e7 rfl
    have w8 : (m4 123 12).toInt = (m 123 12).toInt := by rw [e7, up2_ne (by omega)]
    have w9 : (m4 123 13).toInt = (m 123 13).toInt := by rw [e7, up2_ne (by omega)]
    have w10 : (m4 123 16).toInt = (m 123 16).toInt := by rw [e7, up2_ne (by omega)]
    have w11 : (m4 123 17).toInt = (m 123 17).toInt := by rw [e7, up2_ne (by omega)]
    refine pv_aload_n (M := mX12_readsCondition) 0 dX12_readsCondition_24 25 rfl rfl rfl ?_
    refine pv_iconst (M := mX12_readsCondition) (v := 0) dX12_readsCondition_25 26 rfl (by decide) ?_
    refine iv_put (M := mX12_readsCondition) (l1 := 0) (l2 := 180) dX12_readsCondition_26 FX12 17 wd1190 (by decide) rfl (tl123 hT) rfl rfl rfl I5 rfl (by decide) (by decide) 29 rfl (fun m12 e15 I13 => ?_)
    have K14 := K6.set e15 rfl
    have w16 : (m12 123 12).toInt = (m4 123 12).toInt := by rw [e15, up2_ne (by omega)]
    have w17 : (m12 123 13).toInt = (m4 123 13).toInt := by rw [e15, up2_ne (by omega)]
    have w18 : (m12 123 16).toInt = (m4 123 16).toInt := by rw [e15, up2_ne (by omega)]
    have w19 : (m12 123 17).toInt = 0 := by rw [e15, up2_eq] <;> rfl
    refine pv_aload_n (M := mX12_readsCondition) 0 dX12_readsCondition_29 30 rfl rfl rfl ?_
    refine pv_bipush (M := mX12_readsCondition) (v := 13) dX12_readsCondition_30 32 rfl (by decide) ?_
    have z20 : (13 : Int32).toInt = 13 := by decide
    refine pv_callv (M := mX12_readsCondition) (as := [.int 13]) (st := []) (kc2 := 0) (ks2 := 0) dX12_readsCondition_32 wd1433 YX12_opens ⟨wd1435, wd64⟩ (mk_get (tl123 hT)) rfl rfl (s_X12_opens g hT I13 13 (by decide) (by decide) (by first | omega | assumption | exact (iv_rng _).2 | exact (iv_rng _).1 | decide) (by first | omega | assumption | exact (iv_rng _).2 | exact (iv_rng _).1 | decide)) rfl rfl (Nat.le_of_ble_eq_true rfl) (by decide) rfl rfl 35 rfl (fun rv h1 q21 => ?_)
    obtain ⟨m22, n23, v26, rfl, rfl, I24, K25, pv26, qv26, rv26⟩ := q21
    replace rv26 : (v26.toInt = 0 ∧ (m22 123 12).toInt = (m12 123 12).toInt) ∨ (v26.toInt = 1 ∧ ∃ o u w z : Int32, m22 = up2 (up2 (up2 (up2 m12 123 15 o) 131 (m12 123 17).toInt.toNat u) 123 17 w) 123 12 z ∧ u.toInt = 1048576 * (13 : Int) ∧ w.toInt = (m12 123 17).toInt + 1 ∧ z.toInt = (m12 123 12).toInt + 1) := by have q_ := rv26; (try rw [z20] at q_); exact q_
    have K25c := K25
    have w27 : (m22 123 13).toInt = (m12 123 13).toInt := congrArg Int32.toInt (K25 123 13 rfl)
    have w28 : (m22 123 16).toInt = (m12 123 16).toInt := congrArg Int32.toInt (K25 123 16 rfl)
    have K25 := K14.trans (K25.sub (wl_sub (by decide)))
    show PV _ _ _ _ _ _ _ 35 [.ref 123] [.int v26] _
    have kO := rv26
    clear rv26
    have ke1 := e15
    have ke2 := e7
    refine pv_if_ne (M := mX12_readsCondition) (tgt := 40) dX12_readsCondition_35 38 rfl (by decide) (fun c33 => ?_) (fun c33 => ?_)
    · have c33 := iv_ne (X := v26.toInt) (Y := 0) c33 rfl (by decide)
      have lp39 : ∀ (fuel38 : Nat)  (m34 : Nat → Nat → Int32) (n35 : Nat → Nat → Int64), (QC cb 0 m m34) → IV BB m34 → fr (wl [(123, 123, some 12), (123, 123, some 14), (123, 123, some 15), (123, 123, some 16), (123, 123, some 17), (123, 123, some 19), (130, 130, none), (131, 131, none)]) m m34 → ((160 - (m34 123 12).toInt) : Int).toNat < fuel38 → PV none g mX12_readsCondition (sqI T BB (wl [(123, 123, some 12), (123, 123, some 14), (123, 123, some 15), (123, 123, some 16), (123, 123, some 17), (123, 123, some 19), (130, 130, none), (131, 131, none)]) r m 0 1 (fun m' v => v.toInt = 0 ∨ (WFc (m' 130) cb.toNat (m' 123 16).toInt.toNat ∧ KB cb m m' ∧ 0 ≤ SLK m' ∧ cb ≤ (m' 123 16).toInt ∧ (m 123 12).toInt ≤ (m' 123 12).toInt ∧ (m' 123 12).toInt ≤ (m' 123 13).toInt ∧ (m' 123 13).toInt = (m 123 13).toInt ∧ (m' 123 17).toInt = 0))) 7 0 0 40 [.ref 123] [] (mk T m34 n35 r) := by
        intro fuel38
        induction fuel38 with
        | zero => intro  m34 n35 b41 I36 K37 z42; omega
        | succ fuel38 ih40 =>
          intro  m34 n35 b41 I36 K37 z42
          have z43 : 0 ≤ (m34 123 12).toInt ∧ (m34 123 12).toInt ≤ 160 := I36 123 12
          have z44 : 0 ≤ (m34 123 13).toInt ∧ (m34 123 13).toInt ≤ 160 := I36 123 13
          have z45 : 0 ≤ (m34 123 16).toInt ∧ (m34 123 16).toInt ≤ 180 := I36 123 16
          have z46 : 0 ≤ (m34 123 17).toInt ∧ (m34 123 17).toInt ≤ 180 := I36 123 17
          have kg := (show QC cb 0 m m34 by assumption)
          have kg1 := kg.2.1
          have kg2 : (m34 123 16).toInt ≤ (m34 123 12).toInt := SLK_cm kg.2.1
          have kg3 := kg.2.2.2.1
          have kg4 := kg.2.2.2.2.1
          have kg5 := kg.2.2.2.2.2.2.2.1
          have kg6 := kg.2.2.2.2.2.2.2.2.1
          have kg7 := kg.2.2.2.2.2.2.2.2.2
          refine pv_aload_n (M := mX12_readsCondition) 0 dX12_readsCondition_40 41 rfl rfl rfl ?_
          refine pv_callv (M := mX12_readsCondition) (as := []) (st := []) (kc2 := 0) (ks2 := 0) dX12_readsCondition_41 wd1417 YX12_here ⟨wd1419, wd60⟩ (mk_get (tl123 hT)) rfl rfl (s_X12_here g hT I36) rfl rfl (Nat.le_of_ble_eq_true rfl) (by decide) rfl rfl 44 rfl (fun rv h1 q55 => ?_)
          obtain ⟨v56, rfl, rfl, pv56, qv56, rv56⟩ := q55
          replace rv56 : v56.toInt = hereV m34 ∧ (v56.toInt = -1 ∨ (m34 123 12).toInt < (m34 123 13).toInt) := rv56
          show PV _ _ _ _ _ _ _ 44 [.ref 123] [.int v56] _
          refine pv_bipush (M := mX12_readsCondition) (v := 33) dX12_readsCondition_44 46 rfl (by decide) ?_
          refine pv_icmp_eq (M := mX12_readsCondition) (tgt := 58) dX12_readsCondition_46 49 rfl (by decide) (fun c57 => ?_) (fun c57 => ?_)
          · have c57 := iv_eq (X := v56.toInt) (Y := 33) c57 rfl (by decide)
            refine pv_aload_n (M := mX12_readsCondition) 0 dX12_readsCondition_58 59 rfl rfl rfl ?_
            refine pv_aload_n (M := mX12_readsCondition) 0 dX12_readsCondition_59 60 rfl rfl rfl ?_
            refine pv_callv (M := mX12_readsCondition) (as := []) (st := [.ref 123]) (kc2 := 0) (ks2 := 0) dX12_readsCondition_60 wd1417 YX12_here ⟨wd1419, wd60⟩ (mk_get (tl123 hT)) rfl rfl (s_X12_here g hT I36) rfl rfl (Nat.le_of_ble_eq_true rfl) (by decide) rfl rfl 63 rfl (fun rv h1 q58 => ?_)
            obtain ⟨v59, rfl, rfl, pv59, qv59, rv59⟩ := q58
            replace rv59 : v59.toInt = hereV m34 ∧ (v59.toInt = -1 ∨ (m34 123 12).toInt < (m34 123 13).toInt) := rv59
            show PV _ _ _ _ _ _ _ 63 [.ref 123] [.int v59, .ref 123] _
            refine pv_bipush (M := mX12_readsCondition) (v := 33) dX12_readsCondition_63 65 rfl (by decide) ?_
            refine pv_icmp_ne (M := mX12_readsCondition) (tgt := 73) dX12_readsCondition_65 68 rfl (by decide) (fun c60 => ?_) (fun c60 => ?_)
            · have c60 := iv_ne (X := v59.toInt) (Y := 33) c60 rfl (by decide)
              refine pv_bipush (M := mX12_readsCondition) (v := 13) dX12_readsCondition_73 75 rfl (by decide) ?_
              have z61 : (13 : Int32).toInt = 13 := by decide
              refine pv_callv (M := mX12_readsCondition) (as := [.int 13]) (st := []) (kc2 := 0) (ks2 := 0) dX12_readsCondition_75 wd1433 YX12_opens ⟨wd1435, wd64⟩ (mk_get (tl123 hT)) rfl rfl (s_X12_opens g hT I36 13 (by decide) (by decide) (by first | omega | assumption | exact (iv_rng _).2 | exact (iv_rng _).1 | decide) (by first | omega | assumption | exact (iv_rng _).2 | exact (iv_rng _).1 | decide)) rfl rfl (Nat.le_of_ble_eq_true rfl) (by decide) rfl rfl 78 rfl (fun rv h1 q62 => ?_)
              obtain ⟨m63, n64, v67, rfl, rfl, I65, K66, pv67, qv67, rv67⟩ := q62
              replace rv67 : (v67.toInt = 0 ∧ (m63 123 12).toInt = (m34 123 12).toInt) ∨ (v67.toInt = 1 ∧ ∃ o u w z : Int32, m63 = up2 (up2 (up2 (up2 m34 123 15 o) 131 (m34 123 17).toInt.toNat u) 123 17 w) 123 12 z ∧ u.toInt = 1048576 * (13 : Int) ∧ w.toInt = (m34 123 17).toInt + 1 ∧ z.toInt = (m34 123 12).toInt + 1) := by have q_ := rv67; (try rw [z61] at q_); exact q_
              have K66c := K66
              have w68 : (m63 123 13).toInt = (m34 123 13).toInt := congrArg Int32.toInt (K66 123 13 rfl)
              have w69 : (m63 123 16).toInt = (m34 123 16).toInt := congrArg Int32.toInt (K66 123 16 rfl)
              have K66 := K37.trans (K66.sub (wl_sub (by decide)))
              show PV _ _ _ _ _ _ _ 78 [.ref 123] [.int v67] _
              have kO := rv67
              clear rv67
              refine pv_if_ne (M := mX12_readsCondition) (tgt := 40) dX12_readsCondition_78 81 rfl (by decide) (fun c72 => ?_) (fun c72 => ?_)
              · have c72 := iv_ne (X := v67.toInt) (Y := 0) c72 rfl (by decide)
                have kbk : QC cb 0 m m63 := by first | exact QC.jmp kJ kj (by omega) | exact QC.opn kg (by omega) (by omega) ((kO.resolve_left (fun q => by have := q.1; omega)).2)
                have kbm : (m34 123 12).toInt + 1 ≤ (m63 123 12).toInt := by first | (have := kj.2.2.2.2.2.2.1; omega) | (obtain ⟨o1, o2, o3, o4, o5, o6, o7, o8⟩ := (kO.resolve_left (fun q => by have := q.1; omega)).2; rw [o5, up2_f]; omega)
                try clear kO
                exact ih40  m63 n64 kbk I65 K66 (by omega)
              · have c72 := iv_eq (X := v67.toInt) (Y := 0) c72 rfl (by decide)
                refine pv_iconst (M := mX12_readsCondition) (v := 0) dX12_readsCondition_81 82 rfl (by decide) ?_
                have z76 : (0 : Int32).toInt = 0 := by decide
                exact pv_iret (M := mX12_readsCondition) dX12_readsCondition_82 rfl rfl ⟨_, _, _, rfl, rfl, I65, K66, by decide, by decide, (Or.inl (by decide))⟩
            · have c60 := iv_eq (X := v59.toInt) (Y := 33) c60 rfl (by decide)
              refine pv_bipush (M := mX12_readsCondition) (v := 10) dX12_readsCondition_68 70 rfl (by decide) ?_
              refine pv_goto (M := mX12_readsCondition) (tgt := 75) dX12_readsCondition_70 (by decide) ?_
              have z77 : (10 : Int32).toInt = 10 := by decide
              refine pv_callv (M := mX12_readsCondition) (as := [.int 10]) (st := []) (kc2 := 0) (ks2 := 0) dX12_readsCondition_75 wd1433 YX12_opens ⟨wd1435, wd64⟩ (mk_get (tl123 hT)) rfl rfl (s_X12_opens g hT I36 10 (by decide) (by decide) (by first | omega | assumption | exact (iv_rng _).2 | exact (iv_rng _).1 | decide) (by first | omega | assumption | exact (iv_rng _).2 | exact (iv_rng _).1 | decide)) rfl rfl (Nat.le_of_ble_eq_true rfl) (by decide) rfl rfl 78 rfl (fun rv h1 q78 => ?_)
              obtain ⟨m79, n80, v83, rfl, rfl, I81, K82, pv83, qv83, rv83⟩ := q78
              replace rv83 : (v83.toInt = 0 ∧ (m79 123 12).toInt = (m34 123 12).toInt) ∨ (v83.toInt = 1 ∧ ∃ o u w z : Int32, m79 = up2 (up2 (up2 (up2 m34 123 15 o) 131 (m34 123 17).toInt.toNat u) 123 17 w) 123 12 z ∧ u.toInt = 1048576 * (10 : Int) ∧ w.toInt = (m34 123 17).toInt + 1 ∧ z.toInt = (m34 123 12).toInt + 1) := by have q_ := rv83; (try rw [z77] at q_); exact q_
              have K82c := K82
              have w84 : (m79 123 13).toInt = (m34 123 13).toInt := congrArg Int32.toInt (K82 123 13 rfl)
              have w85 : (m79 123 16).toInt = (m34 123 16).toInt := congrArg Int32.toInt (K82 123 16 rfl)
              have K82 := K37.trans (K82.sub (wl_sub (by decide)))
              show PV _ _ _ _ _ _ _ 78 [.ref 123] [.int v83] _
              have kO := rv83
              clear rv83
              refine pv_if_ne (M := mX12_readsCondition) (tgt := 40) dX12_readsCondition_78 81 rfl (by decide) (fun c88 => ?_) (fun c88 => ?_)
              · have c88 := iv_ne (X := v83.toInt) (Y := 0) c88 rfl (by decide)
                have kbk : QC cb 0 m m79 := by first | exact QC.jmp kJ kj (by omega) | exact QC.opn kg (by omega) (by omega) ((kO.resolve_left (fun q => by have := q.1; omega)).2)
                have kbm : (m34 123 12).toInt + 1 ≤ (m79 123 12).toInt := by first | (have := kj.2.2.2.2.2.2.1; omega) | (obtain ⟨o1, o2, o3, o4, o5, o6, o7, o8⟩ := (kO.resolve_left (fun q => by have := q.1; omega)).2; rw [o5, up2_f]; omega)
                try clear kO
                exact ih40  m79 n80 kbk I81 K82 (by omega)
              · have c88 := iv_eq (X := v83.toInt) (Y := 0) c88 rfl (by decide)
                refine pv_iconst (M := mX12_readsCondition) (v := 0) dX12_readsCondition_81 82 rfl (by decide) ?_
                have z92 : (0 : Int32).toInt = 0 := by decide
                exact pv_iret (M := mX12_readsCondition) dX12_readsCondition_82 rfl rfl ⟨_, _, _, rfl, rfl, I81, K82, by decide, by decide, (Or.inl (by decide))⟩
          · have c57 := iv_ne (X := v56.toInt) (Y := 33) c57 rfl (by decide)
            refine pv_aload_n (M := mX12_readsCondition) 0 dX12_readsCondition_49 50 rfl rfl rfl ?_
            refine pv_callv (M := mX12_readsCondition) (as := []) (st := []) (kc2 := 0) (ks2 := 0) dX12_readsCondition_50 wd1417 YX12_here ⟨wd1419, wd60⟩ (mk_get (tl123 hT)) rfl rfl (s_X12_here g hT I36) rfl rfl (Nat.le_of_ble_eq_true rfl) (by decide) rfl rfl 53 rfl (fun rv h1 q93 => ?_)
            obtain ⟨v94, rfl, rfl, pv94, qv94, rv94⟩ := q93
            replace rv94 : v94.toInt = hereV m34 ∧ (v94.toInt = -1 ∨ (m34 123 12).toInt < (m34 123 13).toInt) := rv94
            show PV _ _ _ _ _ _ _ 53 [.ref 123] [.int v94] _
            refine pv_bipush (M := mX12_readsCondition) (v := 40) dX12_readsCondition_53 55 rfl (by decide) ?_
            refine pv_icmp_ne (M := mX12_readsCondition) (tgt := 83) dX12_readsCondition_55 58 rfl (by decide) (fun c95 => ?_) (fun c95 => ?_)
            · have c95 := iv_ne (X := v94.toInt) (Y := 40) c95 rfl (by decide)
              refine pv_aload_n (M := mX12_readsCondition) 0 dX12_readsCondition_83 84 rfl rfl rfl ?_
              refine pv_callv (M := mX12_readsCondition) (as := []) (st := []) (kc2 := 0) (ks2 := 0) dX12_readsCondition_84 wd1472 YX12_readsCompared ⟨wd1474, wd72⟩ (mk_get (tl123 hT)) rfl rfl (s_X12_readsCompared g hT I36 cb kg.1 kg.2.1 (by omega) (by omega) kg.2.2.2.2.2.1) rfl rfl (Nat.le_of_ble_eq_true rfl) (by decide) rfl rfl 87 rfl (fun rv h1 q96 => ?_)
              obtain ⟨m97, n98, v101, rfl, rfl, I99, K100, pv101, qv101, rv101⟩ := q96
              replace rv101 : v101.toInt = 0 ∨ RC cb m34 m97 := rv101
              have K100c := K100
              have w102 : (m97 123 13).toInt = (m34 123 13).toInt := congrArg Int32.toInt (K100 123 13 rfl)
              have K100 := K37.trans (K100.sub (fun _ _ q => q))
              show PV _ _ _ _ _ _ _ 87 [.ref 123] [.int v101] _
              have kR := rv101
              refine pv_if_ne (M := mX12_readsCondition) (tgt := 92) dX12_readsCondition_87 90 rfl (by decide) (fun c104 => ?_) (fun c104 => ?_)
              · have c104 := iv_ne (X := v101.toInt) (Y := 0) c104 rfl (by decide)
                have lp110 : ∀ (fuel109 : Nat)  (m105 : Nat → Nat → Int32) (n106 : Nat → Nat → Int64), (QC cb 1 m m105) → ((m34 123 12).toInt ≤ (m105 123 12).toInt) → IV BB m105 → fr (wl [(123, 123, some 12), (123, 123, some 14), (123, 123, some 15), (123, 123, some 16), (123, 123, some 17), (123, 123, some 19), (130, 130, none), (131, 131, none)]) m m105 → ((160 - (m105 123 12).toInt) : Int).toNat < fuel109 → PV none g mX12_readsCondition (sqI T BB (wl [(123, 123, some 12), (123, 123, some 14), (123, 123, some 15), (123, 123, some 16), (123, 123, some 17), (123, 123, some 19), (130, 130, none), (131, 131, none)]) r m 0 1 (fun m' v => v.toInt = 0 ∨ (WFc (m' 130) cb.toNat (m' 123 16).toInt.toNat ∧ KB cb m m' ∧ 0 ≤ SLK m' ∧ cb ≤ (m' 123 16).toInt ∧ (m 123 12).toInt ≤ (m' 123 12).toInt ∧ (m' 123 12).toInt ≤ (m' 123 13).toInt ∧ (m' 123 13).toInt = (m 123 13).toInt ∧ (m' 123 17).toInt = 0))) 7 0 0 92 [.ref 123] [] (mk T m105 n106 r) := by
                  intro fuel109
                  induction fuel109 with
                  | zero => intro  m105 n106 b112 b113 I107 K108 z114; omega
                  | succ fuel109 ih111 =>
                    intro  m105 n106 b112 b113 I107 K108 z114
                    have z115 : 0 ≤ (m105 123 12).toInt ∧ (m105 123 12).toInt ≤ 160 := I107 123 12
                    have z116 : 0 ≤ (m105 123 13).toInt ∧ (m105 123 13).toInt ≤ 160 := I107 123 13
                    have z117 : 0 ≤ (m105 123 16).toInt ∧ (m105 123 16).toInt ≤ 180 := I107 123 16
                    have z118 : 0 ≤ (m105 123 17).toInt ∧ (m105 123 17).toInt ≤ 180 := I107 123 17
                    have kg := (show QC cb 1 m m105 by assumption)
                    have kg1 := kg.2.1
                    have kg2 : (m105 123 16).toInt ≤ (m105 123 12).toInt := SLK_cm kg.2.1
                    have kg3 := kg.2.2.2.1
                    have kg4 := kg.2.2.2.2.1
                    have kg5 := kg.2.2.2.2.2.2.2.1
                    have kg6 := kg.2.2.2.2.2.2.2.2.1
                    have kg7 := kg.2.2.2.2.2.2.2.2.2
                    refine pv_aload_n (M := mX12_readsCondition) 0 dX12_readsCondition_92 93 rfl rfl rfl ?_
                    refine pv_callv (M := mX12_readsCondition) (as := []) (st := []) (kc2 := 0) (ks2 := 0) dX12_readsCondition_93 wd1417 YX12_here ⟨wd1419, wd60⟩ (mk_get (tl123 hT)) rfl rfl (s_X12_here g hT I107) rfl rfl (Nat.le_of_ble_eq_true rfl) (by decide) rfl rfl 96 rfl (fun rv h1 q127 => ?_)
                    obtain ⟨v128, rfl, rfl, pv128, qv128, rv128⟩ := q127
                    replace rv128 : v128.toInt = hereV m105 ∧ (v128.toInt = -1 ∨ (m105 123 12).toInt < (m105 123 13).toInt) := rv128
                    show PV _ _ _ _ _ _ _ 96 [.ref 123] [.int v128] _
                    refine pv_bipush (M := mX12_readsCondition) (v := 41) dX12_readsCondition_96 98 rfl (by decide) ?_
                    refine pv_icmp_ne (M := mX12_readsCondition) (tgt := 152) dX12_readsCondition_98 101 rfl (by decide) (fun c129 => ?_) (fun c129 => ?_)
                    · have c129 := iv_ne (X := v128.toInt) (Y := 41) c129 rfl (by decide)
                      refine pv_aload_n (M := mX12_readsCondition) 0 dX12_readsCondition_152 153 rfl rfl rfl ?_
                      refine pv_callv (M := mX12_readsCondition) (as := []) (st := []) (kc2 := 0) (ks2 := 0) dX12_readsCondition_153 wd1417 YX12_here ⟨wd1419, wd60⟩ (mk_get (tl123 hT)) rfl rfl (s_X12_here g hT I107) rfl rfl (Nat.le_of_ble_eq_true rfl) (by decide) rfl rfl 156 rfl (fun rv h1 q130 => ?_)
                      obtain ⟨v131, rfl, rfl, pv131, qv131, rv131⟩ := q130
                      replace rv131 : v131.toInt = hereV m105 ∧ (v131.toInt = -1 ∨ (m105 123 12).toInt < (m105 123 13).toInt) := rv131
                      show PV _ _ _ _ _ _ _ 156 [.ref 123] [.int v131] _
                      refine pv_bipush (M := mX12_readsCondition) (v := 38) dX12_readsCondition_156 158 rfl (by decide) ?_
                      refine pv_icmp_eq (M := mX12_readsCondition) (tgt := 180) dX12_readsCondition_158 161 rfl (by decide) (fun c132 => ?_) (fun c132 => ?_)
                      · have c132 := iv_eq (X := v131.toInt) (Y := 38) c132 rfl (by decide)
                        refine pv_aload_n (M := mX12_readsCondition) 0 dX12_readsCondition_180 181 rfl rfl rfl ?_
                        refine pv_aload_n (M := mX12_readsCondition) 0 dX12_readsCondition_181 182 rfl rfl rfl ?_
                        refine pv_callv (M := mX12_readsCondition) (as := []) (st := [.ref 123]) (kc2 := 0) (ks2 := 0) dX12_readsCondition_182 wd1417 YX12_here ⟨wd1419, wd60⟩ (mk_get (tl123 hT)) rfl rfl (s_X12_here g hT I107) rfl rfl (Nat.le_of_ble_eq_true rfl) (by decide) rfl rfl 185 rfl (fun rv h1 q133 => ?_)
                        obtain ⟨v134, rfl, rfl, pv134, qv134, rv134⟩ := q133
                        replace rv134 : v134.toInt = hereV m105 ∧ (v134.toInt = -1 ∨ (m105 123 12).toInt < (m105 123 13).toInt) := rv134
                        show PV _ _ _ _ _ _ _ 185 [.ref 123] [.int v134, .ref 123] _
                        refine pv_bipush (M := mX12_readsCondition) (v := 124) dX12_readsCondition_185 187 rfl (by decide) ?_
                        refine pv_icmp_ne (M := mX12_readsCondition) (tgt := 194) dX12_readsCondition_187 190 rfl (by decide) (fun c135 => ?_) (fun c135 => ?_)
                        · have c135 := iv_ne (X := v134.toInt) (Y := 124) c135 rfl (by decide)
                          refine pv_iconst (M := mX12_readsCondition) (v := 0) dX12_readsCondition_194 195 rfl (by decide) ?_
                          have z136 : (0 : Int32).toInt = 0 := by decide
                          refine pv_callv (M := mX12_readsCondition) (as := [.int 0]) (st := []) (kc2 := 0) (ks2 := 0) dX12_readsCondition_195 wd1480 YX12_lands ⟨wd1482, wd74⟩ (mk_get (tl123 hT)) rfl rfl (s_X12_lands g hT I107 0 (by decide) (by decide) cb 1 kg.1 (by rw [NS_ops kg.2.2.2.2.2.1]; decide) kg.2.1) rfl rfl (Nat.le_of_ble_eq_true rfl) (by decide) rfl rfl 198 rfl (fun rv h1 q137 => ?_)
                          obtain ⟨m138, n139, rfl, rfl, I140, K141, rm138⟩ := q137
                          replace rm138 : LDI cb 1 m105 m138 ∧ ((0 : Int) ≠ 0 → (m138 123 17).toInt = 0 ∨ (opv (m138 131 ((m138 123 17).toInt - 1).toNat) ≠ 11 ∧ opv (m138 131 ((m138 123 17).toInt - 1).toNat) ≠ 12)) := by have q_ := rm138; (try rw [z136] at q_); exact q_
                          have K141c := K141
                          have w142 : (m138 123 12).toInt = (m105 123 12).toInt := congrArg Int32.toInt (K141 123 12 rfl)
                          have w143 : (m138 123 13).toInt = (m105 123 13).toInt := congrArg Int32.toInt (K141 123 13 rfl)
                          have w144 : (m138 123 16).toInt = (m105 123 16).toInt := congrArg Int32.toInt (K141 123 16 rfl)
                          have K141 := K108.trans (K141.sub (wl_sub (by decide)))
                          show PV _ _ _ _ _ _ _ 198 [.ref 123] [] _
                          have kl := rm138
                          have kJ := QC.lnd kg kl.1 (K141c 123 12 rfl) (K141c 123 13 rfl)
                          have kJ1 := kJ.2.1
                          have kJ2 : (m138 123 16).toInt ≤ (m138 123 12).toInt := SLK_cm kJ.2.1
                          have kJ3 := kJ.2.2.2.1
                          have kJ4 := kJ.2.2.2.2.1
                          have kJ6 := kJ.2.2.2.2.2.2.2.2.1
                          have kJ7 := kJ.2.2.2.2.2.2.2.2.2
                          refine pv_aload_n (M := mX12_readsCondition) 0 dX12_readsCondition_198 199 rfl rfl rfl ?_
                          refine pv_aload_n (M := mX12_readsCondition) 0 dX12_readsCondition_199 200 rfl rfl rfl ?_
                          refine pv_callv (M := mX12_readsCondition) (as := []) (st := [.ref 123]) (kc2 := 0) (ks2 := 0) dX12_readsCondition_200 wd1417 YX12_here ⟨wd1419, wd60⟩ (mk_get (tl123 hT)) rfl rfl (s_X12_here g hT I140) rfl rfl (Nat.le_of_ble_eq_true rfl) (by decide) rfl rfl 203 rfl (fun rv h1 q153 => ?_)
                          obtain ⟨v154, rfl, rfl, pv154, qv154, rv154⟩ := q153
                          replace rv154 : v154.toInt = hereV m138 ∧ (v154.toInt = -1 ∨ (m138 123 12).toInt < (m138 123 13).toInt) := rv154
                          show PV _ _ _ _ _ _ _ 203 [.ref 123] [.int v154, .ref 123] _
                          refine pv_bipush (M := mX12_readsCondition) (v := 38) dX12_readsCondition_203 205 rfl (by decide) ?_
                          refine pv_icmp_ne (M := mX12_readsCondition) (tgt := 213) dX12_readsCondition_205 208 rfl (by decide) (fun c155 => ?_) (fun c155 => ?_)
                          · have c155 := iv_ne (X := v154.toInt) (Y := 38) c155 rfl (by decide)
                            refine pv_bipush (M := mX12_readsCondition) (v := 12) dX12_readsCondition_213 215 rfl (by decide) ?_
                            have z156 : (12 : Int32).toInt = 12 := by decide
                            refine pv_callv (M := mX12_readsCondition) (as := [.int 12]) (st := []) (kc2 := 0) (ks2 := 0) dX12_readsCondition_215 wd1484 YX12_jumps ⟨wd1486, wd75⟩ (mk_get (tl123 hT)) rfl rfl (s_X12_jumps g hT I140 12 (by decide) (by decide) cb 1 kJ.1 (by omega) kJ.2.1 (by omega) (by omega)) rfl rfl (Nat.le_of_ble_eq_true rfl) (by decide) rfl rfl 218 rfl (fun rv h1 q157 => ?_)
                            obtain ⟨m158, n159, rfl, rfl, I160, K161, rm158⟩ := q157
                            replace rm158 : JPI cb (1 - 1) m138 m158 := rm158
                            have K161c := K161
                            have w162 : (m158 123 13).toInt = (m138 123 13).toInt := congrArg Int32.toInt (K161 123 13 rfl)
                            have K161 := K141.trans (K161.sub (wl_sub (by decide)))
                            show PV _ _ _ _ _ _ _ 218 [.ref 123] [] _
                            have kj : JPI cb 0 _ m158 := rm158
                            refine pv_goto (M := mX12_readsCondition) (tgt := 40) dX12_readsCondition_218 (by decide) ?_
                            have kbk : QC cb 0 m m158 := by first | exact QC.jmp kJ kj (by omega) | exact QC.opn kg (by omega) (by omega) ((kO.resolve_left (fun q => by have := q.1; omega)).2)
                            have kbm : (m34 123 12).toInt + 1 ≤ (m158 123 12).toInt := by first | (have := kj.2.2.2.2.2.2.1; omega) | (obtain ⟨o1, o2, o3, o4, o5, o6, o7, o8⟩ := (kO.resolve_left (fun q => by have := q.1; omega)).2; rw [o5, up2_f]; omega)
                            try clear kO
                            exact ih40  m158 n159 kbk I160 K161 (by omega)
                          · have c155 := iv_eq (X := v154.toInt) (Y := 38) c155 rfl (by decide)
                            refine pv_bipush (M := mX12_readsCondition) (v := 11) dX12_readsCondition_208 210 rfl (by decide) ?_
                            refine pv_goto (M := mX12_readsCondition) (tgt := 215) dX12_readsCondition_210 (by decide) ?_
                            have z167 : (11 : Int32).toInt = 11 := by decide
                            refine pv_callv (M := mX12_readsCondition) (as := [.int 11]) (st := []) (kc2 := 0) (ks2 := 0) dX12_readsCondition_215 wd1484 YX12_jumps ⟨wd1486, wd75⟩ (mk_get (tl123 hT)) rfl rfl (s_X12_jumps g hT I140 11 (by decide) (by decide) cb 1 kJ.1 (by omega) kJ.2.1 (by omega) (by omega)) rfl rfl (Nat.le_of_ble_eq_true rfl) (by decide) rfl rfl 218 rfl (fun rv h1 q168 => ?_)
                            obtain ⟨m169, n170, rfl, rfl, I171, K172, rm169⟩ := q168
                            replace rm169 : JPI cb (1 - 1) m138 m169 := rm169
                            have K172c := K172
                            have w173 : (m169 123 13).toInt = (m138 123 13).toInt := congrArg Int32.toInt (K172 123 13 rfl)
                            have K172 := K141.trans (K172.sub (wl_sub (by decide)))
                            show PV _ _ _ _ _ _ _ 218 [.ref 123] [] _
                            have kj : JPI cb 0 _ m169 := rm169
                            refine pv_goto (M := mX12_readsCondition) (tgt := 40) dX12_readsCondition_218 (by decide) ?_
                            have kbk : QC cb 0 m m169 := by first | exact QC.jmp kJ kj (by omega) | exact QC.opn kg (by omega) (by omega) ((kO.resolve_left (fun q => by have := q.1; omega)).2)
                            have kbm : (m34 123 12).toInt + 1 ≤ (m169 123 12).toInt := by first | (have := kj.2.2.2.2.2.2.1; omega) | (obtain ⟨o1, o2, o3, o4, o5, o6, o7, o8⟩ := (kO.resolve_left (fun q => by have := q.1; omega)).2; rw [o5, up2_f]; omega)
                            try clear kO
                            exact ih40  m169 n170 kbk I171 K172 (by omega)
                        · have c135 := iv_eq (X := v134.toInt) (Y := 124) c135 rfl (by decide)
                          refine pv_iconst (M := mX12_readsCondition) (v := 1) dX12_readsCondition_190 191 rfl (by decide) ?_
                          refine pv_goto (M := mX12_readsCondition) (tgt := 195) dX12_readsCondition_191 (by decide) ?_
                          have z178 : (1 : Int32).toInt = 1 := by decide
                          refine pv_callv (M := mX12_readsCondition) (as := [.int 1]) (st := []) (kc2 := 0) (ks2 := 0) dX12_readsCondition_195 wd1480 YX12_lands ⟨wd1482, wd74⟩ (mk_get (tl123 hT)) rfl rfl (s_X12_lands g hT I107 1 (by decide) (by decide) cb 1 kg.1 (by rw [NS_ops kg.2.2.2.2.2.1]; decide) kg.2.1) rfl rfl (Nat.le_of_ble_eq_true rfl) (by decide) rfl rfl 198 rfl (fun rv h1 q179 => ?_)
                          obtain ⟨m180, n181, rfl, rfl, I182, K183, rm180⟩ := q179
                          replace rm180 : LDI cb 1 m105 m180 ∧ ((1 : Int) ≠ 0 → (m180 123 17).toInt = 0 ∨ (opv (m180 131 ((m180 123 17).toInt - 1).toNat) ≠ 11 ∧ opv (m180 131 ((m180 123 17).toInt - 1).toNat) ≠ 12)) := by have q_ := rm180; (try rw [z178] at q_); exact q_
                          have K183c := K183
                          have w184 : (m180 123 12).toInt = (m105 123 12).toInt := congrArg Int32.toInt (K183 123 12 rfl)
                          have w185 : (m180 123 13).toInt = (m105 123 13).toInt := congrArg Int32.toInt (K183 123 13 rfl)
                          have w186 : (m180 123 16).toInt = (m105 123 16).toInt := congrArg Int32.toInt (K183 123 16 rfl)
                          have K183 := K108.trans (K183.sub (wl_sub (by decide)))
                          show PV _ _ _ _ _ _ _ 198 [.ref 123] [] _
                          have kl := rm180
                          have kJ := QC.lnd kg kl.1 (K183c 123 12 rfl) (K183c 123 13 rfl)
                          have kJ1 := kJ.2.1
                          have kJ2 : (m180 123 16).toInt ≤ (m180 123 12).toInt := SLK_cm kJ.2.1
                          have kJ3 := kJ.2.2.2.1
                          have kJ4 := kJ.2.2.2.2.1
                          have kJ6 := kJ.2.2.2.2.2.2.2.2.1
                          have kJ7 := kJ.2.2.2.2.2.2.2.2.2
                          refine pv_aload_n (M := mX12_readsCondition) 0 dX12_readsCondition_198 199 rfl rfl rfl ?_
                          refine pv_aload_n (M := mX12_readsCondition) 0 dX12_readsCondition_199 200 rfl rfl rfl ?_
                          refine pv_callv (M := mX12_readsCondition) (as := []) (st := [.ref 123]) (kc2 := 0) (ks2 := 0) dX12_readsCondition_200 wd1417 YX12_here ⟨wd1419, wd60⟩ (mk_get (tl123 hT)) rfl rfl (s_X12_here g hT I182) rfl rfl (Nat.le_of_ble_eq_true rfl) (by decide) rfl rfl 203 rfl (fun rv h1 q195 => ?_)
                          obtain ⟨v196, rfl, rfl, pv196, qv196, rv196⟩ := q195
                          replace rv196 : v196.toInt = hereV m180 ∧ (v196.toInt = -1 ∨ (m180 123 12).toInt < (m180 123 13).toInt) := rv196
                          show PV _ _ _ _ _ _ _ 203 [.ref 123] [.int v196, .ref 123] _
                          refine pv_bipush (M := mX12_readsCondition) (v := 38) dX12_readsCondition_203 205 rfl (by decide) ?_
                          refine pv_icmp_ne (M := mX12_readsCondition) (tgt := 213) dX12_readsCondition_205 208 rfl (by decide) (fun c197 => ?_) (fun c197 => ?_)
                          · have c197 := iv_ne (X := v196.toInt) (Y := 38) c197 rfl (by decide)
                            refine pv_bipush (M := mX12_readsCondition) (v := 12) dX12_readsCondition_213 215 rfl (by decide) ?_
                            have z198 : (12 : Int32).toInt = 12 := by decide
                            refine pv_callv (M := mX12_readsCondition) (as := [.int 12]) (st := []) (kc2 := 0) (ks2 := 0) dX12_readsCondition_215 wd1484 YX12_jumps ⟨wd1486, wd75⟩ (mk_get (tl123 hT)) rfl rfl (s_X12_jumps g hT I182 12 (by decide) (by decide) cb 1 kJ.1 (by omega) kJ.2.1 (by omega) (by omega)) rfl rfl (Nat.le_of_ble_eq_true rfl) (by decide) rfl rfl 218 rfl (fun rv h1 q199 => ?_)
                            obtain ⟨m200, n201, rfl, rfl, I202, K203, rm200⟩ := q199
                            replace rm200 : JPI cb (1 - 1) m180 m200 := rm200
                            have K203c := K203
                            have w204 : (m200 123 13).toInt = (m180 123 13).toInt := congrArg Int32.toInt (K203 123 13 rfl)
                            have K203 := K183.trans (K203.sub (wl_sub (by decide)))
                            show PV _ _ _ _ _ _ _ 218 [.ref 123] [] _
                            have kj : JPI cb 0 _ m200 := rm200
                            refine pv_goto (M := mX12_readsCondition) (tgt := 40) dX12_readsCondition_218 (by decide) ?_
                            have kbk : QC cb 0 m m200 := by first | exact QC.jmp kJ kj (by omega) | exact QC.opn kg (by omega) (by omega) ((kO.resolve_left (fun q => by have := q.1; omega)).2)
                            have kbm : (m34 123 12).toInt + 1 ≤ (m200 123 12).toInt := by first | (have := kj.2.2.2.2.2.2.1; omega) | (obtain ⟨o1, o2, o3, o4, o5, o6, o7, o8⟩ := (kO.resolve_left (fun q => by have := q.1; omega)).2; rw [o5, up2_f]; omega)
                            try clear kO
                            exact ih40  m200 n201 kbk I202 K203 (by omega)
                          · have c197 := iv_eq (X := v196.toInt) (Y := 38) c197 rfl (by decide)
                            refine pv_bipush (M := mX12_readsCondition) (v := 11) dX12_readsCondition_208 210 rfl (by decide) ?_
                            refine pv_goto (M := mX12_readsCondition) (tgt := 215) dX12_readsCondition_210 (by decide) ?_
                            have z209 : (11 : Int32).toInt = 11 := by decide
                            refine pv_callv (M := mX12_readsCondition) (as := [.int 11]) (st := []) (kc2 := 0) (ks2 := 0) dX12_readsCondition_215 wd1484 YX12_jumps ⟨wd1486, wd75⟩ (mk_get (tl123 hT)) rfl rfl (s_X12_jumps g hT I182 11 (by decide) (by decide) cb 1 kJ.1 (by omega) kJ.2.1 (by omega) (by omega)) rfl rfl (Nat.le_of_ble_eq_true rfl) (by decide) rfl rfl 218 rfl (fun rv h1 q210 => ?_)
                            obtain ⟨m211, n212, rfl, rfl, I213, K214, rm211⟩ := q210
                            replace rm211 : JPI cb (1 - 1) m180 m211 := rm211
                            have K214c := K214
                            have w215 : (m211 123 13).toInt = (m180 123 13).toInt := congrArg Int32.toInt (K214 123 13 rfl)
                            have K214 := K183.trans (K214.sub (wl_sub (by decide)))
                            show PV _ _ _ _ _ _ _ 218 [.ref 123] [] _
                            have kj : JPI cb 0 _ m211 := rm211
                            refine pv_goto (M := mX12_readsCondition) (tgt := 40) dX12_readsCondition_218 (by decide) ?_
                            have kbk : QC cb 0 m m211 := by first | exact QC.jmp kJ kj (by omega) | exact QC.opn kg (by omega) (by omega) ((kO.resolve_left (fun q => by have := q.1; omega)).2)
                            have kbm : (m34 123 12).toInt + 1 ≤ (m211 123 12).toInt := by first | (have := kj.2.2.2.2.2.2.1; omega) | (obtain ⟨o1, o2, o3, o4, o5, o6, o7, o8⟩ := (kO.resolve_left (fun q => by have := q.1; omega)).2; rw [o5, up2_f]; omega)
                            try clear kO
                            exact ih40  m211 n212 kbk I213 K214 (by omega)
                      · have c132 := iv_ne (X := v131.toInt) (Y := 38) c132 rfl (by decide)
                        refine pv_aload_n (M := mX12_readsCondition) 0 dX12_readsCondition_161 162 rfl rfl rfl ?_
                        refine pv_callv (M := mX12_readsCondition) (as := []) (st := []) (kc2 := 0) (ks2 := 0) dX12_readsCondition_162 wd1417 YX12_here ⟨wd1419, wd60⟩ (mk_get (tl123 hT)) rfl rfl (s_X12_here g hT I107) rfl rfl (Nat.le_of_ble_eq_true rfl) (by decide) rfl rfl 165 rfl (fun rv h1 q220 => ?_)
                        obtain ⟨v221, rfl, rfl, pv221, qv221, rv221⟩ := q220
                        replace rv221 : v221.toInt = hereV m105 ∧ (v221.toInt = -1 ∨ (m105 123 12).toInt < (m105 123 13).toInt) := rv221
                        show PV _ _ _ _ _ _ _ 165 [.ref 123] [.int v221] _
                        refine pv_bipush (M := mX12_readsCondition) (v := 124) dX12_readsCondition_165 167 rfl (by decide) ?_
                        refine pv_icmp_eq (M := mX12_readsCondition) (tgt := 180) dX12_readsCondition_167 170 rfl (by decide) (fun c222 => ?_) (fun c222 => ?_)
                        · have c222 := iv_eq (X := v221.toInt) (Y := 124) c222 rfl (by decide)
                          refine pv_aload_n (M := mX12_readsCondition) 0 dX12_readsCondition_180 181 rfl rfl rfl ?_
                          refine pv_aload_n (M := mX12_readsCondition) 0 dX12_readsCondition_181 182 rfl rfl rfl ?_
                          refine pv_callv (M := mX12_readsCondition) (as := []) (st := [.ref 123]) (kc2 := 0) (ks2 := 0) dX12_readsCondition_182 wd1417 YX12_here ⟨wd1419, wd60⟩ (mk_get (tl123 hT)) rfl rfl (s_X12_here g hT I107) rfl rfl (Nat.le_of_ble_eq_true rfl) (by decide) rfl rfl 185 rfl (fun rv h1 q223 => ?_)
                          obtain ⟨v224, rfl, rfl, pv224, qv224, rv224⟩ := q223
                          replace rv224 : v224.toInt = hereV m105 ∧ (v224.toInt = -1 ∨ (m105 123 12).toInt < (m105 123 13).toInt) := rv224
                          show PV _ _ _ _ _ _ _ 185 [.ref 123] [.int v224, .ref 123] _
                          refine pv_bipush (M := mX12_readsCondition) (v := 124) dX12_readsCondition_185 187 rfl (by decide) ?_
                          refine pv_icmp_ne (M := mX12_readsCondition) (tgt := 194) dX12_readsCondition_187 190 rfl (by decide) (fun c225 => ?_) (fun c225 => ?_)
                          · have c225 := iv_ne (X := v224.toInt) (Y := 124) c225 rfl (by decide)
                            refine pv_iconst (M := mX12_readsCondition) (v := 0) dX12_readsCondition_194 195 rfl (by decide) ?_
                            have z226 : (0 : Int32).toInt = 0 := by decide
                            refine pv_callv (M := mX12_readsCondition) (as := [.int 0]) (st := []) (kc2 := 0) (ks2 := 0) dX12_readsCondition_195 wd1480 YX12_lands ⟨wd1482, wd74⟩ (mk_get (tl123 hT)) rfl rfl (s_X12_lands g hT I107 0 (by decide) (by decide) cb 1 kg.1 (by rw [NS_ops kg.2.2.2.2.2.1]; decide) kg.2.1) rfl rfl (Nat.le_of_ble_eq_true rfl) (by decide) rfl rfl 198 rfl (fun rv h1 q227 => ?_)
                            obtain ⟨m228, n229, rfl, rfl, I230, K231, rm228⟩ := q227
                            replace rm228 : LDI cb 1 m105 m228 ∧ ((0 : Int) ≠ 0 → (m228 123 17).toInt = 0 ∨ (opv (m228 131 ((m228 123 17).toInt - 1).toNat) ≠ 11 ∧ opv (m228 131 ((m228 123 17).toInt - 1).toNat) ≠ 12)) := by have q_ := rm228; (try rw [z226] at q_); exact q_
                            have K231c := K231
                            have w232 : (m228 123 12).toInt = (m105 123 12).toInt := congrArg Int32.toInt (K231 123 12 rfl)
                            have w233 : (m228 123 13).toInt = (m105 123 13).toInt := congrArg Int32.toInt (K231 123 13 rfl)
                            have w234 : (m228 123 16).toInt = (m105 123 16).toInt := congrArg Int32.toInt (K231 123 16 rfl)
                            have K231 := K108.trans (K231.sub (wl_sub (by decide)))
                            show PV _ _ _ _ _ _ _ 198 [.ref 123] [] _
                            have kl := rm228
                            have kJ := QC.lnd kg kl.1 (K231c 123 12 rfl) (K231c 123 13 rfl)
                            have kJ1 := kJ.2.1
                            have kJ2 : (m228 123 16).toInt ≤ (m228 123 12).toInt := SLK_cm kJ.2.1
                            have kJ3 := kJ.2.2.2.1
                            have kJ4 := kJ.2.2.2.2.1
                            have kJ6 := kJ.2.2.2.2.2.2.2.2.1
                            have kJ7 := kJ.2.2.2.2.2.2.2.2.2
                            refine pv_aload_n (M := mX12_readsCondition) 0 dX12_readsCondition_198 199 rfl rfl rfl ?_
                            refine pv_aload_n (M := mX12_readsCondition) 0 dX12_readsCondition_199 200 rfl rfl rfl ?_
                            refine pv_callv (M := mX12_readsCondition) (as := []) (st := [.ref 123]) (kc2 := 0) (ks2 := 0) dX12_readsCondition_200 wd1417 YX12_here ⟨wd1419, wd60⟩ (mk_get (tl123 hT)) rfl rfl (s_X12_here g hT I230) rfl rfl (Nat.le_of_ble_eq_true rfl) (by decide) rfl rfl 203 rfl (fun rv h1 q243 => ?_)
                            obtain ⟨v244, rfl, rfl, pv244, qv244, rv244⟩ := q243
                            replace rv244 : v244.toInt = hereV m228 ∧ (v244.toInt = -1 ∨ (m228 123 12).toInt < (m228 123 13).toInt) := rv244
                            show PV _ _ _ _ _ _ _ 203 [.ref 123] [.int v244, .ref 123] _
                            refine pv_bipush (M := mX12_readsCondition) (v := 38) dX12_readsCondition_203 205 rfl (by decide) ?_
                            refine pv_icmp_ne (M := mX12_readsCondition) (tgt := 213) dX12_readsCondition_205 208 rfl (by decide) (fun c245 => ?_) (fun c245 => ?_)
                            · have c245 := iv_ne (X := v244.toInt) (Y := 38) c245 rfl (by decide)
                              refine pv_bipush (M := mX12_readsCondition) (v := 12) dX12_readsCondition_213 215 rfl (by decide) ?_
                              have z246 : (12 : Int32).toInt = 12 := by decide
                              refine pv_callv (M := mX12_readsCondition) (as := [.int 12]) (st := []) (kc2 := 0) (ks2 := 0) dX12_readsCondition_215 wd1484 YX12_jumps ⟨wd1486, wd75⟩ (mk_get (tl123 hT)) rfl rfl (s_X12_jumps g hT I230 12 (by decide) (by decide) cb 1 kJ.1 (by omega) kJ.2.1 (by omega) (by omega)) rfl rfl (Nat.le_of_ble_eq_true rfl) (by decide) rfl rfl 218 rfl (fun rv h1 q247 => ?_)
                              obtain ⟨m248, n249, rfl, rfl, I250, K251, rm248⟩ := q247
                              replace rm248 : JPI cb (1 - 1) m228 m248 := rm248
                              have K251c := K251
                              have w252 : (m248 123 13).toInt = (m228 123 13).toInt := congrArg Int32.toInt (K251 123 13 rfl)
                              have K251 := K231.trans (K251.sub (wl_sub (by decide)))
                              show PV _ _ _ _ _ _ _ 218 [.ref 123] [] _
                              have kj : JPI cb 0 _ m248 := rm248
                              refine pv_goto (M := mX12_readsCondition) (tgt := 40) dX12_readsCondition_218 (by decide) ?_
                              have kbk : QC cb 0 m m248 := by first | exact QC.jmp kJ kj (by omega) | exact QC.opn kg (by omega) (by omega) ((kO.resolve_left (fun q => by have := q.1; omega)).2)
                              have kbm : (m34 123 12).toInt + 1 ≤ (m248 123 12).toInt := by first | (have := kj.2.2.2.2.2.2.1; omega) | (obtain ⟨o1, o2, o3, o4, o5, o6, o7, o8⟩ := (kO.resolve_left (fun q => by have := q.1; omega)).2; rw [o5, up2_f]; omega)
                              try clear kO
                              exact ih40  m248 n249 kbk I250 K251 (by omega)
                            · have c245 := iv_eq (X := v244.toInt) (Y := 38) c245 rfl (by decide)
                              refine pv_bipush (M := mX12_readsCondition) (v := 11) dX12_readsCondition_208 210 rfl (by decide) ?_
                              refine pv_goto (M := mX12_readsCondition) (tgt := 215) dX12_readsCondition_210 (by decide) ?_
                              have z257 : (11 : Int32).toInt = 11 := by decide
                              refine pv_callv (M := mX12_readsCondition) (as := [.int 11]) (st := []) (kc2 := 0) (ks2 := 0) dX12_readsCondition_215 wd1484 YX12_jumps ⟨wd1486, wd75⟩ (mk_get (tl123 hT)) rfl rfl (s_X12_jumps g hT I230 11 (by decide) (by decide) cb 1 kJ.1 (by omega) kJ.2.1 (by omega) (by omega)) rfl rfl (Nat.le_of_ble_eq_true rfl) (by decide) rfl rfl 218 rfl (fun rv h1 q258 => ?_)
                              obtain ⟨m259, n260, rfl, rfl, I261, K262, rm259⟩ := q258
                              replace rm259 : JPI cb (1 - 1) m228 m259 := rm259
                              have K262c := K262
                              have w263 : (m259 123 13).toInt = (m228 123 13).toInt := congrArg Int32.toInt (K262 123 13 rfl)
                              have K262 := K231.trans (K262.sub (wl_sub (by decide)))
                              show PV _ _ _ _ _ _ _ 218 [.ref 123] [] _
                              have kj : JPI cb 0 _ m259 := rm259
                              refine pv_goto (M := mX12_readsCondition) (tgt := 40) dX12_readsCondition_218 (by decide) ?_
                              have kbk : QC cb 0 m m259 := by first | exact QC.jmp kJ kj (by omega) | exact QC.opn kg (by omega) (by omega) ((kO.resolve_left (fun q => by have := q.1; omega)).2)
                              have kbm : (m34 123 12).toInt + 1 ≤ (m259 123 12).toInt := by first | (have := kj.2.2.2.2.2.2.1; omega) | (obtain ⟨o1, o2, o3, o4, o5, o6, o7, o8⟩ := (kO.resolve_left (fun q => by have := q.1; omega)).2; rw [o5, up2_f]; omega)
                              try clear kO
                              exact ih40  m259 n260 kbk I261 K262 (by omega)
                          · have c225 := iv_eq (X := v224.toInt) (Y := 124) c225 rfl (by decide)
                            refine pv_iconst (M := mX12_readsCondition) (v := 1) dX12_readsCondition_190 191 rfl (by decide) ?_
                            refine pv_goto (M := mX12_readsCondition) (tgt := 195) dX12_readsCondition_191 (by decide) ?_
                            have z268 : (1 : Int32).toInt = 1 := by decide
                            refine pv_callv (M := mX12_readsCondition) (as := [.int 1]) (st := []) (kc2 := 0) (ks2 := 0) dX12_readsCondition_195 wd1480 YX12_lands ⟨wd1482, wd74⟩ (mk_get (tl123 hT)) rfl rfl (s_X12_lands g hT I107 1 (by decide) (by decide) cb 1 kg.1 (by rw [NS_ops kg.2.2.2.2.2.1]; decide) kg.2.1) rfl rfl (Nat.le_of_ble_eq_true rfl) (by decide) rfl rfl 198 rfl (fun rv h1 q269 => ?_)
                            obtain ⟨m270, n271, rfl, rfl, I272, K273, rm270⟩ := q269
                            replace rm270 : LDI cb 1 m105 m270 ∧ ((1 : Int) ≠ 0 → (m270 123 17).toInt = 0 ∨ (opv (m270 131 ((m270 123 17).toInt - 1).toNat) ≠ 11 ∧ opv (m270 131 ((m270 123 17).toInt - 1).toNat) ≠ 12)) := by have q_ := rm270; (try rw [z268] at q_); exact q_
                            have K273c := K273
                            have w274 : (m270 123 12).toInt = (m105 123 12).toInt := congrArg Int32.toInt (K273 123 12 rfl)
                            have w275 : (m270 123 13).toInt = (m105 123 13).toInt := congrArg Int32.toInt (K273 123 13 rfl)
                            have w276 : (m270 123 16).toInt = (m105 123 16).toInt := congrArg Int32.toInt (K273 123 16 rfl)
                            have K273 := K108.trans (K273.sub (wl_sub (by decide)))
                            show PV _ _ _ _ _ _ _ 198 [.ref 123] [] _
                            have kl := rm270
                            have kJ := QC.lnd kg kl.1 (K273c 123 12 rfl) (K273c 123 13 rfl)
                            have kJ1 := kJ.2.1
                            have kJ2 : (m270 123 16).toInt ≤ (m270 123 12).toInt := SLK_cm kJ.2.1
                            have kJ3 := kJ.2.2.2.1
                            have kJ4 := kJ.2.2.2.2.1
                            have kJ6 := kJ.2.2.2.2.2.2.2.2.1
                            have kJ7 := kJ.2.2.2.2.2.2.2.2.2
                            refine pv_aload_n (M := mX12_readsCondition) 0 dX12_readsCondition_198 199 rfl rfl rfl ?_
                            refine pv_aload_n (M := mX12_readsCondition) 0 dX12_readsCondition_199 200 rfl rfl rfl ?_
                            refine pv_callv (M := mX12_readsCondition) (as := []) (st := [.ref 123]) (kc2 := 0) (ks2 := 0) dX12_readsCondition_200 wd1417 YX12_here ⟨wd1419, wd60⟩ (mk_get (tl123 hT)) rfl rfl (s_X12_here g hT I272) rfl rfl (Nat.le_of_ble_eq_true rfl) (by decide) rfl rfl 203 rfl (fun rv h1 q285 => ?_)
                            obtain ⟨v286, rfl, rfl, pv286, qv286, rv286⟩ := q285
                            replace rv286 : v286.toInt = hereV m270 ∧ (v286.toInt = -1 ∨ (m270 123 12).toInt < (m270 123 13).toInt) := rv286
                            show PV _ _ _ _ _ _ _ 203 [.ref 123] [.int v286, .ref 123] _
                            refine pv_bipush (M := mX12_readsCondition) (v := 38) dX12_readsCondition_203 205 rfl (by decide) ?_
                            refine pv_icmp_ne (M := mX12_readsCondition) (tgt := 213) dX12_readsCondition_205 208 rfl (by decide) (fun c287 => ?_) (fun c287 => ?_)
                            · have c287 := iv_ne (X := v286.toInt) (Y := 38) c287 rfl (by decide)
                              refine pv_bipush (M := mX12_readsCondition) (v := 12) dX12_readsCondition_213 215 rfl (by decide) ?_
                              have z288 : (12 : Int32).toInt = 12 := by decide
                              refine pv_callv (M := mX12_readsCondition) (as := [.int 12]) (st := []) (kc2 := 0) (ks2 := 0) dX12_readsCondition_215 wd1484 YX12_jumps ⟨wd1486, wd75⟩ (mk_get (tl123 hT)) rfl rfl (s_X12_jumps g hT I272 12 (by decide) (by decide) cb 1 kJ.1 (by omega) kJ.2.1 (by omega) (by omega)) rfl rfl (Nat.le_of_ble_eq_true rfl) (by decide) rfl rfl 218 rfl (fun rv h1 q289 => ?_)
                              obtain ⟨m290, n291, rfl, rfl, I292, K293, rm290⟩ := q289
                              replace rm290 : JPI cb (1 - 1) m270 m290 := rm290
                              have K293c := K293
                              have w294 : (m290 123 13).toInt = (m270 123 13).toInt := congrArg Int32.toInt (K293 123 13 rfl)
                              have K293 := K273.trans (K293.sub (wl_sub (by decide)))
                              show PV _ _ _ _ _ _ _ 218 [.ref 123] [] _
                              have kj : JPI cb 0 _ m290 := rm290
                              refine pv_goto (M := mX12_readsCondition) (tgt := 40) dX12_readsCondition_218 (by decide) ?_
                              have kbk : QC cb 0 m m290 := by first | exact QC.jmp kJ kj (by omega) | exact QC.opn kg (by omega) (by omega) ((kO.resolve_left (fun q => by have := q.1; omega)).2)
                              have kbm : (m34 123 12).toInt + 1 ≤ (m290 123 12).toInt := by first | (have := kj.2.2.2.2.2.2.1; omega) | (obtain ⟨o1, o2, o3, o4, o5, o6, o7, o8⟩ := (kO.resolve_left (fun q => by have := q.1; omega)).2; rw [o5, up2_f]; omega)
                              try clear kO
                              exact ih40  m290 n291 kbk I292 K293 (by omega)
                            · have c287 := iv_eq (X := v286.toInt) (Y := 38) c287 rfl (by decide)
                              refine pv_bipush (M := mX12_readsCondition) (v := 11) dX12_readsCondition_208 210 rfl (by decide) ?_
                              refine pv_goto (M := mX12_readsCondition) (tgt := 215) dX12_readsCondition_210 (by decide) ?_
                              have z299 : (11 : Int32).toInt = 11 := by decide
                              refine pv_callv (M := mX12_readsCondition) (as := [.int 11]) (st := []) (kc2 := 0) (ks2 := 0) dX12_readsCondition_215 wd1484 YX12_jumps ⟨wd1486, wd75⟩ (mk_get (tl123 hT)) rfl rfl (s_X12_jumps g hT I272 11 (by decide) (by decide) cb 1 kJ.1 (by omega) kJ.2.1 (by omega) (by omega)) rfl rfl (Nat.le_of_ble_eq_true rfl) (by decide) rfl rfl 218 rfl (fun rv h1 q300 => ?_)
                              obtain ⟨m301, n302, rfl, rfl, I303, K304, rm301⟩ := q300
                              replace rm301 : JPI cb (1 - 1) m270 m301 := rm301
                              have K304c := K304
                              have w305 : (m301 123 13).toInt = (m270 123 13).toInt := congrArg Int32.toInt (K304 123 13 rfl)
                              have K304 := K273.trans (K304.sub (wl_sub (by decide)))
                              show PV _ _ _ _ _ _ _ 218 [.ref 123] [] _
                              have kj : JPI cb 0 _ m301 := rm301
                              refine pv_goto (M := mX12_readsCondition) (tgt := 40) dX12_readsCondition_218 (by decide) ?_
                              have kbk : QC cb 0 m m301 := by first | exact QC.jmp kJ kj (by omega) | exact QC.opn kg (by omega) (by omega) ((kO.resolve_left (fun q => by have := q.1; omega)).2)
                              have kbm : (m34 123 12).toInt + 1 ≤ (m301 123 12).toInt := by first | (have := kj.2.2.2.2.2.2.1; omega) | (obtain ⟨o1, o2, o3, o4, o5, o6, o7, o8⟩ := (kO.resolve_left (fun q => by have := q.1; omega)).2; rw [o5, up2_f]; omega)
                              try clear kO
                              exact ih40  m301 n302 kbk I303 K304 (by omega)
                        · have c222 := iv_ne (X := v221.toInt) (Y := 124) c222 rfl (by decide)
                          refine pv_aload_n (M := mX12_readsCondition) 0 dX12_readsCondition_170 171 rfl rfl rfl ?_
                          refine pv_iconst (M := mX12_readsCondition) (v := 1) dX12_readsCondition_171 172 rfl (by decide) ?_
                          refine pv_aload_n (M := mX12_readsCondition) 0 dX12_readsCondition_172 173 rfl rfl rfl ?_
                          refine iv_get (M := mX12_readsCondition) (l1 := 0) (l2 := 160) dX12_readsCondition_173 FX12 12 wd1185 (by decide) (tl123 hT) rfl I107 rfl 176 rfl (fun v310 ev310 pv310 qv310 => ?_)
                          have wv310 : v310.toInt = (m105 123 12).toInt := congrArg Int32.toInt ev310
                          refine pv_callv (M := mX12_readsCondition) (as := [.int 1, .int v310]) (st := []) (kc2 := 0) (ks2 := 0) dX12_readsCondition_176 wd1421 YX12_wrongAt ⟨wd1423, wd61⟩ (mk_get (tl123 hT)) rfl rfl (s_X12_wrongAt g hT I107 1 (by decide) (by decide) v310 (by omega) (by omega)) rfl rfl (Nat.le_of_ble_eq_true rfl) (by decide) rfl rfl 179 rfl (fun rv h1 q311 => ?_)
                          obtain ⟨m312, n313, v316, rfl, rfl, I314, K315, pv316, qv316, rv316⟩ := q311
                          have K315c := K315
                          have w317 : (m312 123 12).toInt = (m105 123 12).toInt := congrArg Int32.toInt (K315 123 12 rfl)
                          have w318 : (m312 123 13).toInt = (m105 123 13).toInt := congrArg Int32.toInt (K315 123 13 rfl)
                          have w319 : (m312 123 16).toInt = (m105 123 16).toInt := congrArg Int32.toInt (K315 123 16 rfl)
                          have w320 : (m312 123 17).toInt = (m105 123 17).toInt := congrArg Int32.toInt (K315 123 17 rfl)
                          have K315 := K108.trans (K315.sub (wl_sub (by decide)))
                          show PV _ _ _ _ _ _ _ 179 [.ref 123] [.int v316] _
                          exact pv_iret (M := mX12_readsCondition) dX12_readsCondition_179 rfl (iv_nz (by omega) (by omega)) ⟨_, _, _, rfl, rfl, I314, K315, by omega, by omega, (Or.inl (by omega))⟩
                    · have c129 := iv_eq (X := v128.toInt) (Y := 41) c129 rfl (by decide)
                      refine pv_aload_n (M := mX12_readsCondition) 0 dX12_readsCondition_101 102 rfl rfl rfl ?_
                      refine pv_iconst (M := mX12_readsCondition) (v := 1) dX12_readsCondition_102 103 rfl (by decide) ?_
                      have z321 : (1 : Int32).toInt = 1 := by decide
                      refine pv_callv (M := mX12_readsCondition) (as := [.int 1]) (st := []) (kc2 := 0) (ks2 := 0) dX12_readsCondition_103 wd1480 YX12_lands ⟨wd1482, wd74⟩ (mk_get (tl123 hT)) rfl rfl (s_X12_lands g hT I107 1 (by decide) (by decide) cb 1 kg.1 (by rw [NS_ops kg.2.2.2.2.2.1]; decide) kg.2.1) rfl rfl (Nat.le_of_ble_eq_true rfl) (by decide) rfl rfl 106 rfl (fun rv h1 q322 => ?_)
                      obtain ⟨m323, n324, rfl, rfl, I325, K326, rm323⟩ := q322
                      replace rm323 : LDI cb 1 m105 m323 ∧ ((1 : Int) ≠ 0 → (m323 123 17).toInt = 0 ∨ (opv (m323 131 ((m323 123 17).toInt - 1).toNat) ≠ 11 ∧ opv (m323 131 ((m323 123 17).toInt - 1).toNat) ≠ 12)) := by have q_ := rm323; (try rw [z321] at q_); exact q_
                      have K326c := K326
                      have w327 : (m323 123 12).toInt = (m105 123 12).toInt := congrArg Int32.toInt (K326 123 12 rfl)
                      have w328 : (m323 123 13).toInt = (m105 123 13).toInt := congrArg Int32.toInt (K326 123 13 rfl)
                      have w329 : (m323 123 16).toInt = (m105 123 16).toInt := congrArg Int32.toInt (K326 123 16 rfl)
                      have K326 := K108.trans (K326.sub (wl_sub (by decide)))
                      show PV _ _ _ _ _ _ _ 106 [.ref 123] [] _
                      have kl := rm323
                      have kL := QC.lnd kg kl.1 (K326c 123 12 rfl) (K326c 123 13 rfl)
                      have kL1 := kL.2.1
                      have kL2 : (m323 123 16).toInt ≤ (m323 123 12).toInt := SLK_cm kL.2.1
                      have kL3 := kL.2.2.2.1
                      have kL4 := kL.2.2.2.2.1
                      have kL6 := kL.2.2.2.2.2.2.2.2.1
                      have kL7 := kL.2.2.2.2.2.2.2.2.2
                      refine pv_aload_n (M := mX12_readsCondition) 0 dX12_readsCondition_106 107 rfl rfl rfl ?_
                      refine pv_aload_n (M := mX12_readsCondition) 0 dX12_readsCondition_107 108 rfl rfl rfl ?_
                      refine iv_get (M := mX12_readsCondition) (l1 := 0) (l2 := 180) dX12_readsCondition_108 FX12 17 wd1190 (by decide) (tl123 hT) rfl I325 rfl 111 rfl (fun v338 ev338 pv338 qv338 => ?_)
                      have wv338 : v338.toInt = (m323 123 17).toInt := congrArg Int32.toInt ev338
                      refine pv_iconst (M := mX12_readsCondition) (v := 1) dX12_readsCondition_111 112 rfl (by decide) ?_
                      refine iv_isub (M := mX12_readsCondition) (X := v338.toInt) (Y := 1) dX12_readsCondition_112 113 rfl rfl (by decide) (by omega) (by omega) (fun v339 ev339 => ?_)
                      refine iv_put (M := mX12_readsCondition) (l1 := 0) (l2 := 180) dX12_readsCondition_113 FX12 17 wd1190 (by decide) rfl (tl123 hT) rfl rfl rfl I325 rfl (by omega) (by omega) 116 rfl (fun m340 e343 I341 => ?_)
                      have K342 := K326.set e343 rfl
                      have w344 : (m340 123 12).toInt = (m323 123 12).toInt := by rw [e343, up2_ne (by omega)]
                      have w345 : (m340 123 13).toInt = (m323 123 13).toInt := by rw [e343, up2_ne (by omega)]
                      have w346 : (m340 123 16).toInt = (m323 123 16).toInt := by rw [e343, up2_ne (by omega)]
                      have w347 : (m340 123 17).toInt = v339.toInt := by rw [e343, up2_eq]
                      refine pv_aload_n (M := mX12_readsCondition) 0 dX12_readsCondition_116 117 rfl rfl rfl ?_
                      refine pv_aload_n (M := mX12_readsCondition) 0 dX12_readsCondition_117 118 rfl rfl rfl ?_
                      refine iv_get (M := mX12_readsCondition) (l1 := (-2147483648)) (l2 := 2147483647) dX12_readsCondition_118 FX12 15 wd1188 (by decide) (tl123 hT) rfl I341 rfl 121 rfl (fun v348 ev348 pv348 qv348 => ?_)
                      refine pv_iconst (M := mX12_readsCondition) (v := 1) dX12_readsCondition_121 122 rfl (by decide) ?_
                      refine iv_subU (M := mX12_readsCondition) dX12_readsCondition_122 123 rfl (fun v349 ev349 => ?_)
                      refine iv_put (M := mX12_readsCondition) (l1 := (-2147483648)) (l2 := 2147483647) dX12_readsCondition_123 FX12 15 wd1188 (by decide) rfl (tl123 hT) rfl rfl rfl I341 rfl (iv_rng v349).1 (iv_rng v349).2 126 rfl (fun m350 e353 I351 => ?_)
                      have K352 := K342.set e353 rfl
                      have w354 : (m350 123 12).toInt = (m340 123 12).toInt := by rw [e353, up2_ne (by omega)]
                      have w355 : (m350 123 13).toInt = (m340 123 13).toInt := by rw [e353, up2_ne (by omega)]
                      have w356 : (m350 123 16).toInt = (m340 123 16).toInt := by rw [e353, up2_ne (by omega)]
                      have w357 : (m350 123 17).toInt = (m340 123 17).toInt := by rw [e353, up2_ne (by omega)]
                      refine pv_aload_n (M := mX12_readsCondition) 0 dX12_readsCondition_126 127 rfl rfl rfl ?_
                      refine pv_aload_n (M := mX12_readsCondition) 0 dX12_readsCondition_127 128 rfl rfl rfl ?_
                      refine iv_get (M := mX12_readsCondition) (l1 := 0) (l2 := 160) dX12_readsCondition_128 FX12 12 wd1185 (by decide) (tl123 hT) rfl I351 rfl 131 rfl (fun v358 ev358 pv358 qv358 => ?_)
                      have wv358 : v358.toInt = (m350 123 12).toInt := congrArg Int32.toInt ev358
                      refine pv_iconst (M := mX12_readsCondition) (v := 1) dX12_readsCondition_131 132 rfl (by decide) ?_
                      refine iv_iadd (M := mX12_readsCondition) (X := v358.toInt) (Y := 1) dX12_readsCondition_132 133 rfl rfl (by decide) (by omega) (by omega) (fun v359 ev359 => ?_)
                      refine iv_put (M := mX12_readsCondition) (l1 := 0) (l2 := 160) dX12_readsCondition_133 FX12 12 wd1185 (by decide) rfl (tl123 hT) rfl rfl rfl I351 rfl (by omega) (by omega) 136 rfl (fun m360 e363 I361 => ?_)
                      have K362 := K352.set e363 rfl
                      have w364 : (m360 123 12).toInt = v359.toInt := by rw [e363, up2_eq]
                      have w365 : (m360 123 13).toInt = (m350 123 13).toInt := by rw [e363, up2_ne (by omega)]
                      have w366 : (m360 123 16).toInt = (m350 123 16).toInt := by rw [e363, up2_ne (by omega)]
                      have w367 : (m360 123 17).toInt = (m350 123 17).toInt := by rw [e363, up2_ne (by omega)]
                      have kP := QC.pop kL (by have := kl.2 (by decide); unfold ifv; omega) e343 (by omega) e353 e363 (by omega) (by omega)
                      have kP3 := kP.2.2.2.1
                      refine pv_aload_n (M := mX12_readsCondition) 0 dX12_readsCondition_136 137 rfl rfl rfl ?_
                      refine iv_get (M := mX12_readsCondition) (l1 := 0) (l2 := 180) dX12_readsCondition_137 FX12 17 wd1190 (by decide) (tl123 hT) rfl I361 rfl 140 rfl (fun v370 ev370 pv370 qv370 => ?_)
                      have wv370 : v370.toInt = (m360 123 17).toInt := congrArg Int32.toInt ev370
                      refine pv_if_ne (M := mX12_readsCondition) (tgt := 145) dX12_readsCondition_140 143 rfl (by decide) (fun c371 => ?_) (fun c371 => ?_)
                      · have c371 := iv_ne (X := v370.toInt) (Y := 0) c371 rfl (by decide)
                        have kQ := kP.2.2.2.2 (by omega)
                        have kQw : 0 ≤ SLK m360 := kQ.2.1
                        refine pv_aload_n (M := mX12_readsCondition) 0 dX12_readsCondition_145 146 rfl rfl rfl ?_
                        refine pv_callv (M := mX12_readsCondition) (as := []) (st := []) (kc2 := 0) (ks2 := 0) dX12_readsCondition_146 wd1476 YX12_endsPiece ⟨wd1478, wd73⟩ (mk_get (tl123 hT)) rfl rfl (s_X12_endsPiece g hT I361 cb 1 kQ.1 (by omega) kQ.2.1) rfl rfl (Nat.le_of_ble_eq_true rfl) (by decide) rfl rfl 149 rfl (fun rv h1 q374 => ?_)
                        obtain ⟨m375, n376, rfl, rfl, I377, K378, rm375⟩ := q374
                        replace rm375 : EPI cb 1 m360 m375 ∧ ((m375 123 17).toInt = 0 ∨ opv (m375 131 ((m375 123 17).toInt - 1).toNat) ≠ 10) := rm375
                        have K378c := K378
                        have w379 : (m375 123 12).toInt = (m360 123 12).toInt := congrArg Int32.toInt (K378 123 12 rfl)
                        have w380 : (m375 123 13).toInt = (m360 123 13).toInt := congrArg Int32.toInt (K378 123 13 rfl)
                        have K378 := K362.trans (K378.sub (wl_sub (by decide)))
                        show PV _ _ _ _ _ _ _ 149 [.ref 123] [] _
                        have kq := rm375
                        have kE := QC.end kQ kq.1 (K378c 123 12 rfl) (K378c 123 13 rfl)
                        refine pv_goto (M := mX12_readsCondition) (tgt := 92) dX12_readsCondition_149 (by decide) ?_
                        have kbd := kE
                        have kbe : (m105 123 12).toInt + 1 ≤ (m375 123 12).toInt := by omega
                        exact ih111  m375 n376 kbd (by first | omega | assumption | (show (m34 123 12).toInt ≤ (m375 123 12).toInt; omega) | decide) I377 K378 (by omega)
                      · have c371 := iv_eq (X := v370.toInt) (Y := 0) c371 rfl (by decide)
                        refine pv_iconst (M := mX12_readsCondition) (v := 1) dX12_readsCondition_143 144 rfl (by decide) ?_
                        have z385 : (1 : Int32).toInt = 1 := by decide
                        exact pv_iret (M := mX12_readsCondition) dX12_readsCondition_144 rfl rfl ⟨_, _, _, rfl, rfl, I361, K362, by decide, by decide, (Or.inr ⟨HW_done kP.1 (show (m360 123 17).toInt = 0 by omega), kP.2.2.1, kP.2.1, kP.1.1.2.1, by omega, by omega, by omega, by omega⟩)⟩
                have kc0 : RC cb _ m97 := kR.resolve_left (by omega)
                have kc1 := QC.cmp kg kc0
                have kc2 := kc0.2.2.2.2.2.2.2.1
                exact lp110 (((160 - (m97 123 12).toInt) : Int).toNat + 1)  m97 n98 kc1 (by first | omega | assumption | (show (m34 123 12).toInt ≤ (m97 123 12).toInt; omega) | decide) I99 K100 (by omega)
              · have c104 := iv_eq (X := v101.toInt) (Y := 0) c104 rfl (by decide)
                refine pv_iconst (M := mX12_readsCondition) (v := 0) dX12_readsCondition_90 91 rfl (by decide) ?_
                have z389 : (0 : Int32).toInt = 0 := by decide
                exact pv_iret (M := mX12_readsCondition) dX12_readsCondition_91 rfl rfl ⟨_, _, _, rfl, rfl, I99, K100, by decide, by decide, (Or.inl (by decide))⟩
            · have c95 := iv_eq (X := v94.toInt) (Y := 40) c95 rfl (by decide)
              refine pv_aload_n (M := mX12_readsCondition) 0 dX12_readsCondition_58 59 rfl rfl rfl ?_
              refine pv_aload_n (M := mX12_readsCondition) 0 dX12_readsCondition_59 60 rfl rfl rfl ?_
              refine pv_callv (M := mX12_readsCondition) (as := []) (st := [.ref 123]) (kc2 := 0) (ks2 := 0) dX12_readsCondition_60 wd1417 YX12_here ⟨wd1419, wd60⟩ (mk_get (tl123 hT)) rfl rfl (s_X12_here g hT I36) rfl rfl (Nat.le_of_ble_eq_true rfl) (by decide) rfl rfl 63 rfl (fun rv h1 q390 => ?_)
              obtain ⟨v391, rfl, rfl, pv391, qv391, rv391⟩ := q390
              replace rv391 : v391.toInt = hereV m34 ∧ (v391.toInt = -1 ∨ (m34 123 12).toInt < (m34 123 13).toInt) := rv391
              show PV _ _ _ _ _ _ _ 63 [.ref 123] [.int v391, .ref 123] _
              refine pv_bipush (M := mX12_readsCondition) (v := 33) dX12_readsCondition_63 65 rfl (by decide) ?_
              refine pv_icmp_ne (M := mX12_readsCondition) (tgt := 73) dX12_readsCondition_65 68 rfl (by decide) (fun c392 => ?_) (fun c392 => ?_)
              · have c392 := iv_ne (X := v391.toInt) (Y := 33) c392 rfl (by decide)
                refine pv_bipush (M := mX12_readsCondition) (v := 13) dX12_readsCondition_73 75 rfl (by decide) ?_
                have z393 : (13 : Int32).toInt = 13 := by decide
                refine pv_callv (M := mX12_readsCondition) (as := [.int 13]) (st := []) (kc2 := 0) (ks2 := 0) dX12_readsCondition_75 wd1433 YX12_opens ⟨wd1435, wd64⟩ (mk_get (tl123 hT)) rfl rfl (s_X12_opens g hT I36 13 (by decide) (by decide) (by first | omega | assumption | exact (iv_rng _).2 | exact (iv_rng _).1 | decide) (by first | omega | assumption | exact (iv_rng _).2 | exact (iv_rng _).1 | decide)) rfl rfl (Nat.le_of_ble_eq_true rfl) (by decide) rfl rfl 78 rfl (fun rv h1 q394 => ?_)
                obtain ⟨m395, n396, v399, rfl, rfl, I397, K398, pv399, qv399, rv399⟩ := q394
                replace rv399 : (v399.toInt = 0 ∧ (m395 123 12).toInt = (m34 123 12).toInt) ∨ (v399.toInt = 1 ∧ ∃ o u w z : Int32, m395 = up2 (up2 (up2 (up2 m34 123 15 o) 131 (m34 123 17).toInt.toNat u) 123 17 w) 123 12 z ∧ u.toInt = 1048576 * (13 : Int) ∧ w.toInt = (m34 123 17).toInt + 1 ∧ z.toInt = (m34 123 12).toInt + 1) := by have q_ := rv399; (try rw [z393] at q_); exact q_
                have K398c := K398
                have w400 : (m395 123 13).toInt = (m34 123 13).toInt := congrArg Int32.toInt (K398 123 13 rfl)
                have w401 : (m395 123 16).toInt = (m34 123 16).toInt := congrArg Int32.toInt (K398 123 16 rfl)
                have K398 := K37.trans (K398.sub (wl_sub (by decide)))
                show PV _ _ _ _ _ _ _ 78 [.ref 123] [.int v399] _
                have kO := rv399
                clear rv399
                refine pv_if_ne (M := mX12_readsCondition) (tgt := 40) dX12_readsCondition_78 81 rfl (by decide) (fun c404 => ?_) (fun c404 => ?_)
                · have c404 := iv_ne (X := v399.toInt) (Y := 0) c404 rfl (by decide)
                  have kbk : QC cb 0 m m395 := by first | exact QC.jmp kJ kj (by omega) | exact QC.opn kg (by omega) (by omega) ((kO.resolve_left (fun q => by have := q.1; omega)).2)
                  have kbm : (m34 123 12).toInt + 1 ≤ (m395 123 12).toInt := by first | (have := kj.2.2.2.2.2.2.1; omega) | (obtain ⟨o1, o2, o3, o4, o5, o6, o7, o8⟩ := (kO.resolve_left (fun q => by have := q.1; omega)).2; rw [o5, up2_f]; omega)
                  try clear kO
                  exact ih40  m395 n396 kbk I397 K398 (by omega)
                · have c404 := iv_eq (X := v399.toInt) (Y := 0) c404 rfl (by decide)
                  refine pv_iconst (M := mX12_readsCondition) (v := 0) dX12_readsCondition_81 82 rfl (by decide) ?_
                  have z408 : (0 : Int32).toInt = 0 := by decide
                  exact pv_iret (M := mX12_readsCondition) dX12_readsCondition_82 rfl rfl ⟨_, _, _, rfl, rfl, I397, K398, by decide, by decide, (Or.inl (by decide))⟩
              · have c392 := iv_eq (X := v391.toInt) (Y := 33) c392 rfl (by decide)
                refine pv_bipush (M := mX12_readsCondition) (v := 10) dX12_readsCondition_68 70 rfl (by decide) ?_
                refine pv_goto (M := mX12_readsCondition) (tgt := 75) dX12_readsCondition_70 (by decide) ?_
                have z409 : (10 : Int32).toInt = 10 := by decide
                refine pv_callv (M := mX12_readsCondition) (as := [.int 10]) (st := []) (kc2 := 0) (ks2 := 0) dX12_readsCondition_75 wd1433 YX12_opens ⟨wd1435, wd64⟩ (mk_get (tl123 hT)) rfl rfl (s_X12_opens g hT I36 10 (by decide) (by decide) (by first | omega | assumption | exact (iv_rng _).2 | exact (iv_rng _).1 | decide) (by first | omega | assumption | exact (iv_rng _).2 | exact (iv_rng _).1 | decide)) rfl rfl (Nat.le_of_ble_eq_true rfl) (by decide) rfl rfl 78 rfl (fun rv h1 q410 => ?_)
                obtain ⟨m411, n412, v415, rfl, rfl, I413, K414, pv415, qv415, rv415⟩ := q410
                replace rv415 : (v415.toInt = 0 ∧ (m411 123 12).toInt = (m34 123 12).toInt) ∨ (v415.toInt = 1 ∧ ∃ o u w z : Int32, m411 = up2 (up2 (up2 (up2 m34 123 15 o) 131 (m34 123 17).toInt.toNat u) 123 17 w) 123 12 z ∧ u.toInt = 1048576 * (10 : Int) ∧ w.toInt = (m34 123 17).toInt + 1 ∧ z.toInt = (m34 123 12).toInt + 1) := by have q_ := rv415; (try rw [z409] at q_); exact q_
                have K414c := K414
                have w416 : (m411 123 13).toInt = (m34 123 13).toInt := congrArg Int32.toInt (K414 123 13 rfl)
                have w417 : (m411 123 16).toInt = (m34 123 16).toInt := congrArg Int32.toInt (K414 123 16 rfl)
                have K414 := K37.trans (K414.sub (wl_sub (by decide)))
                show PV _ _ _ _ _ _ _ 78 [.ref 123] [.int v415] _
                have kO := rv415
                clear rv415
                refine pv_if_ne (M := mX12_readsCondition) (tgt := 40) dX12_readsCondition_78 81 rfl (by decide) (fun c420 => ?_) (fun c420 => ?_)
                · have c420 := iv_ne (X := v415.toInt) (Y := 0) c420 rfl (by decide)
                  have kbk : QC cb 0 m m411 := by first | exact QC.jmp kJ kj (by omega) | exact QC.opn kg (by omega) (by omega) ((kO.resolve_left (fun q => by have := q.1; omega)).2)
                  have kbm : (m34 123 12).toInt + 1 ≤ (m411 123 12).toInt := by first | (have := kj.2.2.2.2.2.2.1; omega) | (obtain ⟨o1, o2, o3, o4, o5, o6, o7, o8⟩ := (kO.resolve_left (fun q => by have := q.1; omega)).2; rw [o5, up2_f]; omega)
                  try clear kO
                  exact ih40  m411 n412 kbk I413 K414 (by omega)
                · have c420 := iv_eq (X := v415.toInt) (Y := 0) c420 rfl (by decide)
                  refine pv_iconst (M := mX12_readsCondition) (v := 0) dX12_readsCondition_81 82 rfl (by decide) ?_
                  have z424 : (0 : Int32).toInt = 0 := by decide
                  exact pv_iret (M := mX12_readsCondition) dX12_readsCondition_82 rfl rfl ⟨_, _, _, rfl, rfl, I413, K414, by decide, by decide, (Or.inl (by decide))⟩
      have kin : QC cb 0 m m22 := by rw [hp2]; exact QC.start hp0 (by omega) (by omega) ke2 ke1 (by decide) (by omega) (by omega) ((kO.resolve_left (fun q => by have := q.1; omega)).2)
      clear kO
      exact lp39 (((160 - (m22 123 12).toInt) : Int).toNat + 1)  m22 n23 kin I24 K25 (by omega)
    · have c33 := iv_eq (X := v26.toInt) (Y := 0) c33 rfl (by decide)
      refine pv_iconst (M := mX12_readsCondition) (v := 0) dX12_readsCondition_38 39 rfl (by decide) ?_
      have z427 : (0 : Int32).toInt = 0 := by decide
      exact pv_iret (M := mX12_readsCondition) dX12_readsCondition_39 rfl rfl ⟨_, _, _, rfl, rfl, I24, K25, by decide, by decide, (Or.inl (by decide))⟩
  · have c3 := iv_ne (X := v2.toInt) (Y := 40) c3 rfl (by decide)
    refine pv_aload_n (M := mX12_readsCondition) 0 dX12_readsCondition_9 10 rfl rfl rfl ?_
    refine pv_iconst (M := mX12_readsCondition) (v := 1) dX12_readsCondition_10 11 rfl (by decide) ?_
    refine pv_aload_n (M := mX12_readsCondition) 0 dX12_readsCondition_11 12 rfl rfl rfl ?_
    refine iv_get (M := mX12_readsCondition) (l1 := 0) (l2 := 160) dX12_readsCondition_12 FX12 12 wd1185 (by decide) (tl123 hT) rfl I rfl 15 rfl (fun v428 ev428 pv428 qv428 => ?_)
    have wv428 : v428.toInt = (m 123 12).toInt := congrArg Int32.toInt ev428
    refine pv_callv (M := mX12_readsCondition) (as := [.int 1, .int v428]) (st := []) (kc2 := 0) (ks2 := 0) dX12_readsCondition_15 wd1421 YX12_wrongAt ⟨wd1423, wd61⟩ (mk_get (tl123 hT)) rfl rfl (s_X12_wrongAt g hT I 1 (by decide) (by decide) v428 (by omega) (by omega)) rfl rfl (Nat.le_of_ble_eq_true rfl) (by decide) rfl rfl 18 rfl (fun rv h1 q429 => ?_)
    obtain ⟨m430, n431, v434, rfl, rfl, I432, K433, pv434, qv434, rv434⟩ := q429
    have K433c := K433
    have w435 : (m430 123 12).toInt = (m 123 12).toInt := congrArg Int32.toInt (K433 123 12 rfl)
    have w436 : (m430 123 13).toInt = (m 123 13).toInt := congrArg Int32.toInt (K433 123 13 rfl)
    have w437 : (m430 123 16).toInt = (m 123 16).toInt := congrArg Int32.toInt (K433 123 16 rfl)
    have w438 : (m430 123 17).toInt = (m 123 17).toInt := congrArg Int32.toInt (K433 123 17 rfl)
    have K433 := Kp.trans (K433.sub (wl_sub (by decide)))
    show PV _ _ _ _ _ _ _ 18 [.ref 123] [.int v434] _
    exact pv_iret (M := mX12_readsCondition) dX12_readsCondition_18 rfl (iv_nz (by omega) (by omega)) ⟨_, _, _, rfl, rfl, I432, K433, by omega, by omega, (Or.inl (by omega))⟩
