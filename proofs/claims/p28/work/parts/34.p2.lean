set_option maxHeartbeats 2000000 in
set_option maxRecDepth 20000 in
theorem s_X12_closesSums (g : pv_G) {T : List mv_T} {m : Nat → Nat → Int32} {n : Nat → Nat → Int64} {r : Nat → Value} (hT : TX T) (I : IV BB m) (x0 : Int32) (hl0 : 0 ≤ x0.toInt) (hh0 : x0.toInt ≤ 1) (cb : Int) (c : Int) (hp0 : HW cb c m) (hp1 : 1 ≤ c) (hp2 : 0 ≤ SLK m) : PM g mX12_closesSums yX12_closesSums (sqV T BB (wl [(123, 123, some 16), (123, 123, some 17), (130, 130, none)]) r m (fun m' => CSI cb c m m' ∧ (x0.toInt ≠ 0 → (m' 123 17).toInt = 0 ∨ ¬ (2 ≤ opv (m' 131 ((m' 123 17).toInt - 1).toNat) ∧ opv (m' 131 ((m' 123 17).toInt - 1).toNat) ≤ 6)))) 2 0 0 [.ref 123, .int x0] (mk T m n r) := by
  have Kp : fr (wl [(123, 123, some 16), (123, 123, some 17), (130, 130, none)]) m m := fr.rf
  have z153 : 0 ≤ (m 123 12).toInt ∧ (m 123 12).toInt ≤ 160 := I 123 12
  have z154 : 0 ≤ (m 123 13).toInt ∧ (m 123 13).toInt ≤ 160 := I 123 13
  have z155 : 0 ≤ (m 123 16).toInt ∧ (m 123 16).toInt ≤ 180 := I 123 16
  have z156 : 0 ≤ (m 123 17).toInt ∧ (m 123 17).toInt ≤ 180 := I 123 17
  refine PM.of 0 (lo := [.ref 123, .int x0]) rfl (by decide) rfl rfl (Nat.le_of_ble_eq_true rfl) ?_
  have lp6 : ∀ (fuel5 : Nat)  (m1 : Nat → Nat → Int32) (n2 : Nat → Nat → Int64), (CSI cb c m m1) → IV BB m1 → fr (wl [(123, 123, some 16), (123, 123, some 17), (130, 130, none)]) m m1 → (((m1 123 17).toInt) : Int).toNat < fuel5 → PV none g mX12_closesSums (sqV T BB (wl [(123, 123, some 16), (123, 123, some 17), (130, 130, none)]) r m (fun m' => CSI cb c m m' ∧ (x0.toInt ≠ 0 → (m' 123 17).toInt = 0 ∨ ¬ (2 ≤ opv (m' 131 ((m' 123 17).toInt - 1).toNat) ∧ opv (m' 131 ((m' 123 17).toInt - 1).toNat) ≤ 6)))) 2 0 0 0 [.ref 123, .int x0] [] (mk T m1 n2 r) := by
    intro fuel5
    induction fuel5 with
    | zero => intro  m1 n2 b8 I3 K4 z9; omega
    | succ fuel5 ih7 =>
      intro  m1 n2 b8 I3 K4 z9
      have z10 : 0 ≤ (m1 123 12).toInt ∧ (m1 123 12).toInt ≤ 160 := I3 123 12
      have z11 : 0 ≤ (m1 123 13).toInt ∧ (m1 123 13).toInt ≤ 160 := I3 123 13
      have z12 : 0 ≤ (m1 123 16).toInt ∧ (m1 123 16).toInt ≤ 180 := I3 123 16
      have z13 : 0 ≤ (m1 123 17).toInt ∧ (m1 123 17).toInt ≤ 180 := I3 123 17
      have kg := (show CSI cb c m m1 by assumption)
      have kg2 : (m1 123 16).toInt ≤ (m1 123 12).toInt := SLK_cm (m := m1) (by rw [kg.2.1]; exact hp2)
      have kg3 : 0 ≤ (m1 123 17).toInt := kg.2.2.2.2.1
      have kg4 : (m1 123 12).toInt ≤ 160 := (I3 123 12).2
      refine pv_aload_n (M := mX12_closesSums) 0 dX12_closesSums_0 1 rfl rfl rfl ?_
      refine pv_callv (M := mX12_closesSums) (as := []) (st := []) (kc2 := 0) (ks2 := 0) dX12_closesSums_1 wd1460 YX12_top ⟨wd1462, wd69⟩ (mk_get (tl123 hT)) rfl rfl (s_X12_top g hT I3) rfl rfl (Nat.le_of_ble_eq_true rfl) (by decide) rfl rfl 4 rfl (fun rv h1 q18 => ?_)
      obtain ⟨v19, rfl, rfl, pv19, qv19, rv19⟩ := q18
      replace rv19 : (v19.toInt = -1 ∧ (m1 123 17).toInt = 0) ∨ (1 ≤ (m1 123 17).toInt ∧ v19.toInt = opv (m1 131 ((m1 123 17).toInt - 1).toNat)) := rv19
      show PV _ _ _ _ _ _ _ 4 [.ref 123, .int x0] [.int v19] _
      refine pv_iconst (M := mX12_closesSums) (v := 4) dX12_closesSums_4 5 rfl (by decide) ?_
      refine pv_icmp_lt (M := mX12_closesSums) (tgt := 17) dX12_closesSums_5 8 rfl (by decide) (fun c20 => ?_) (fun c20 => ?_)
      · have c20 := iv_lt (X := v19.toInt) (Y := 4) c20 rfl (by decide)
        refine pv_iload_n (M := mX12_closesSums) 1 dX12_closesSums_17 18 rfl rfl rfl ?_
        refine pv_if_eq (M := mX12_closesSums) (tgt := 59) dX12_closesSums_18 21 rfl (by decide) (fun c21 => ?_) (fun c21 => ?_)
        · have c21 := iv_eq (X := x0.toInt) (Y := 0) c21 rfl (by decide)
          exact pv_vret (M := mX12_closesSums) dX12_closesSums_59 rfl ⟨_, _, rfl, rfl, I3, K4, ⟨kg, fun q => by omega⟩⟩
        · have c21 := iv_ne (X := x0.toInt) (Y := 0) c21 rfl (by decide)
          refine pv_aload_n (M := mX12_closesSums) 0 dX12_closesSums_21 22 rfl rfl rfl ?_
          refine pv_callv (M := mX12_closesSums) (as := []) (st := []) (kc2 := 0) (ks2 := 0) dX12_closesSums_22 wd1460 YX12_top ⟨wd1462, wd69⟩ (mk_get (tl123 hT)) rfl rfl (s_X12_top g hT I3) rfl rfl (Nat.le_of_ble_eq_true rfl) (by decide) rfl rfl 25 rfl (fun rv h1 q22 => ?_)
          obtain ⟨v23, rfl, rfl, pv23, qv23, rv23⟩ := q22
          replace rv23 : (v23.toInt = -1 ∧ (m1 123 17).toInt = 0) ∨ (1 ≤ (m1 123 17).toInt ∧ v23.toInt = opv (m1 131 ((m1 123 17).toInt - 1).toNat)) := rv23
          show PV _ _ _ _ _ _ _ 25 [.ref 123, .int x0] [.int v23] _
          refine pv_iconst (M := mX12_closesSums) (v := 2) dX12_closesSums_25 26 rfl (by decide) ?_
          refine pv_icmp_eq (M := mX12_closesSums) (tgt := 37) dX12_closesSums_26 29 rfl (by decide) (fun c24 => ?_) (fun c24 => ?_)
          · have c24 := iv_eq (X := v23.toInt) (Y := 2) c24 rfl (by decide)
            refine pv_aload_n (M := mX12_closesSums) 0 dX12_closesSums_37 38 rfl rfl rfl ?_
            refine pv_aload_n (M := mX12_closesSums) 0 dX12_closesSums_38 39 rfl rfl rfl ?_
            refine pv_callv (M := mX12_closesSums) (as := []) (st := [.ref 123]) (kc2 := 0) (ks2 := 0) dX12_closesSums_39 wd1460 YX12_top ⟨wd1462, wd69⟩ (mk_get (tl123 hT)) rfl rfl (s_X12_top g hT I3) rfl rfl (Nat.le_of_ble_eq_true rfl) (by decide) rfl rfl 42 rfl (fun rv h1 q25 => ?_)
            obtain ⟨v26, rfl, rfl, pv26, qv26, rv26⟩ := q25
            replace rv26 : (v26.toInt = -1 ∧ (m1 123 17).toInt = 0) ∨ (1 ≤ (m1 123 17).toInt ∧ v26.toInt = opv (m1 131 ((m1 123 17).toInt - 1).toNat)) := rv26
            show PV _ _ _ _ _ _ _ 42 [.ref 123, .int x0] [.int v26, .ref 123] _
            refine pv_iconst (M := mX12_closesSums) (v := 0) dX12_closesSums_42 43 rfl (by decide) ?_
            have z27 : (0 : Int32).toInt = 0 := by decide
            refine pv_callv (M := mX12_closesSums) (as := [.int v26, .int 0]) (st := []) (kc2 := 0) (ks2 := 0) dX12_closesSums_43 wd1446 YX12_notes ⟨wd1448, wd67⟩ (mk_get (tl123 hT)) rfl rfl (s_X12_notes g hT I3 v26 (by omega) (by omega) 0 (by decide) (by decide) (by first | omega | assumption | exact (iv_rng _).2 | exact (iv_rng _).1 | decide)) rfl rfl (Nat.le_of_ble_eq_true rfl) (by decide) rfl rfl 46 rfl (fun rv h1 q28 => ?_)
            obtain ⟨m29, n30, rfl, rfl, I31, K32, rm29⟩ := q28
            replace rm29 : NOTE v26.toInt (0 : Int) m1 m29 := by have q_ := rm29; (try rw [z27] at q_); exact q_
            have K32c := K32
            have w33 : (m29 123 12).toInt = (m1 123 12).toInt := congrArg Int32.toInt (K32 123 12 rfl)
            have w34 : (m29 123 13).toInt = (m1 123 13).toInt := congrArg Int32.toInt (K32 123 13 rfl)
            have w35 : (m29 123 17).toInt = (m1 123 17).toInt := congrArg Int32.toInt (K32 123 17 rfl)
            have K32 := K4.trans (K32.sub (wl_sub (by decide)))
            show PV _ _ _ _ _ _ _ 46 [.ref 123, .int x0] [] _
            have kN := rm29
            refine pv_aload_n (M := mX12_closesSums) 0 dX12_closesSums_46 47 rfl rfl rfl ?_
            refine pv_aload_n (M := mX12_closesSums) 0 dX12_closesSums_47 48 rfl rfl rfl ?_
            refine iv_get (M := mX12_closesSums) (l1 := 0) (l2 := 180) dX12_closesSums_48 FX12 17 wd1190 (by decide) (tl123 hT) rfl I31 rfl 51 rfl (fun v37 ev37 pv37 qv37 => ?_)
            have wv37 : v37.toInt = (m29 123 17).toInt := congrArg Int32.toInt ev37
            refine pv_iconst (M := mX12_closesSums) (v := 1) dX12_closesSums_51 52 rfl (by decide) ?_
            refine iv_isub (M := mX12_closesSums) (X := v37.toInt) (Y := 1) dX12_closesSums_52 53 rfl rfl (by decide) (by omega) (by omega) (fun v38 ev38 => ?_)
            refine iv_put (M := mX12_closesSums) (l1 := 0) (l2 := 180) dX12_closesSums_53 FX12 17 wd1190 (by decide) rfl (tl123 hT) rfl rfl rfl I31 rfl (by omega) (by omega) 56 rfl (fun m39 e42 I40 => ?_)
            have K41 := K32.set e42 rfl
            have w43 : (m39 123 12).toInt = (m29 123 12).toInt := by rw [e42, up2_ne (by omega)]
            have w44 : (m39 123 13).toInt = (m29 123 13).toInt := by rw [e42, up2_ne (by omega)]
            have w45 : (m39 123 16).toInt = (m29 123 16).toInt := by rw [e42, up2_ne (by omega)]
            have w46 : (m39 123 17).toInt = v38.toInt := by rw [e42, up2_eq]
            refine pv_goto (M := mX12_closesSums) (tgt := 0) dX12_closesSums_56 (by decide) ?_
            have kcs := CSI.step kg hp1 (by omega) (by omega) (by omega) (by omega) kN e42 (by omega)
            exact ih7  m39 n30 kcs I40 K41 (by omega)
          · have c24 := iv_ne (X := v23.toInt) (Y := 2) c24 rfl (by decide)
            refine pv_aload_n (M := mX12_closesSums) 0 dX12_closesSums_29 30 rfl rfl rfl ?_
            refine pv_callv (M := mX12_closesSums) (as := []) (st := []) (kc2 := 0) (ks2 := 0) dX12_closesSums_30 wd1460 YX12_top ⟨wd1462, wd69⟩ (mk_get (tl123 hT)) rfl rfl (s_X12_top g hT I3) rfl rfl (Nat.le_of_ble_eq_true rfl) (by decide) rfl rfl 33 rfl (fun rv h1 q48 => ?_)
            obtain ⟨v49, rfl, rfl, pv49, qv49, rv49⟩ := q48
            replace rv49 : (v49.toInt = -1 ∧ (m1 123 17).toInt = 0) ∨ (1 ≤ (m1 123 17).toInt ∧ v49.toInt = opv (m1 131 ((m1 123 17).toInt - 1).toNat)) := rv49
            show PV _ _ _ _ _ _ _ 33 [.ref 123, .int x0] [.int v49] _
            refine pv_iconst (M := mX12_closesSums) (v := 3) dX12_closesSums_33 34 rfl (by decide) ?_
            refine pv_icmp_ne (M := mX12_closesSums) (tgt := 59) dX12_closesSums_34 37 rfl (by decide) (fun c50 => ?_) (fun c50 => ?_)
            · have c50 := iv_ne (X := v49.toInt) (Y := 3) c50 rfl (by decide)
              exact pv_vret (M := mX12_closesSums) dX12_closesSums_59 rfl ⟨_, _, rfl, rfl, I3, K4, ⟨kg, fun q => by omega⟩⟩
            · have c50 := iv_eq (X := v49.toInt) (Y := 3) c50 rfl (by decide)
              refine pv_aload_n (M := mX12_closesSums) 0 dX12_closesSums_37 38 rfl rfl rfl ?_
              refine pv_aload_n (M := mX12_closesSums) 0 dX12_closesSums_38 39 rfl rfl rfl ?_
              refine pv_callv (M := mX12_closesSums) (as := []) (st := [.ref 123]) (kc2 := 0) (ks2 := 0) dX12_closesSums_39 wd1460 YX12_top ⟨wd1462, wd69⟩ (mk_get (tl123 hT)) rfl rfl (s_X12_top g hT I3) rfl rfl (Nat.le_of_ble_eq_true rfl) (by decide) rfl rfl 42 rfl (fun rv h1 q51 => ?_)
              obtain ⟨v52, rfl, rfl, pv52, qv52, rv52⟩ := q51
              replace rv52 : (v52.toInt = -1 ∧ (m1 123 17).toInt = 0) ∨ (1 ≤ (m1 123 17).toInt ∧ v52.toInt = opv (m1 131 ((m1 123 17).toInt - 1).toNat)) := rv52
              show PV _ _ _ _ _ _ _ 42 [.ref 123, .int x0] [.int v52, .ref 123] _
              refine pv_iconst (M := mX12_closesSums) (v := 0) dX12_closesSums_42 43 rfl (by decide) ?_
              have z53 : (0 : Int32).toInt = 0 := by decide
              refine pv_callv (M := mX12_closesSums) (as := [.int v52, .int 0]) (st := []) (kc2 := 0) (ks2 := 0) dX12_closesSums_43 wd1446 YX12_notes ⟨wd1448, wd67⟩ (mk_get (tl123 hT)) rfl rfl (s_X12_notes g hT I3 v52 (by omega) (by omega) 0 (by decide) (by decide) (by first | omega | assumption | exact (iv_rng _).2 | exact (iv_rng _).1 | decide)) rfl rfl (Nat.le_of_ble_eq_true rfl) (by decide) rfl rfl 46 rfl (fun rv h1 q54 => ?_)
              obtain ⟨m55, n56, rfl, rfl, I57, K58, rm55⟩ := q54
              replace rm55 : NOTE v52.toInt (0 : Int) m1 m55 := by have q_ := rm55; (try rw [z53] at q_); exact q_
              have K58c := K58
              have w59 : (m55 123 12).toInt = (m1 123 12).toInt := congrArg Int32.toInt (K58 123 12 rfl)
              have w60 : (m55 123 13).toInt = (m1 123 13).toInt := congrArg Int32.toInt (K58 123 13 rfl)
              have w61 : (m55 123 17).toInt = (m1 123 17).toInt := congrArg Int32.toInt (K58 123 17 rfl)
              have K58 := K4.trans (K58.sub (wl_sub (by decide)))
              show PV _ _ _ _ _ _ _ 46 [.ref 123, .int x0] [] _
              have kN := rm55
              refine pv_aload_n (M := mX12_closesSums) 0 dX12_closesSums_46 47 rfl rfl rfl ?_
              refine pv_aload_n (M := mX12_closesSums) 0 dX12_closesSums_47 48 rfl rfl rfl ?_
              refine iv_get (M := mX12_closesSums) (l1 := 0) (l2 := 180) dX12_closesSums_48 FX12 17 wd1190 (by decide) (tl123 hT) rfl I57 rfl 51 rfl (fun v63 ev63 pv63 qv63 => ?_)
              have wv63 : v63.toInt = (m55 123 17).toInt := congrArg Int32.toInt ev63
              refine pv_iconst (M := mX12_closesSums) (v := 1) dX12_closesSums_51 52 rfl (by decide) ?_
              refine iv_isub (M := mX12_closesSums) (X := v63.toInt) (Y := 1) dX12_closesSums_52 53 rfl rfl (by decide) (by omega) (by omega) (fun v64 ev64 => ?_)
              refine iv_put (M := mX12_closesSums) (l1 := 0) (l2 := 180) dX12_closesSums_53 FX12 17 wd1190 (by decide) rfl (tl123 hT) rfl rfl rfl I57 rfl (by omega) (by omega) 56 rfl (fun m65 e68 I66 => ?_)
              have K67 := K58.set e68 rfl
              have w69 : (m65 123 12).toInt = (m55 123 12).toInt := by rw [e68, up2_ne (by omega)]
              have w70 : (m65 123 13).toInt = (m55 123 13).toInt := by rw [e68, up2_ne (by omega)]
              have w71 : (m65 123 16).toInt = (m55 123 16).toInt := by rw [e68, up2_ne (by omega)]
              have w72 : (m65 123 17).toInt = v64.toInt := by rw [e68, up2_eq]
              refine pv_goto (M := mX12_closesSums) (tgt := 0) dX12_closesSums_56 (by decide) ?_
              have kcs := CSI.step kg hp1 (by omega) (by omega) (by omega) (by omega) kN e68 (by omega)
              exact ih7  m65 n56 kcs I66 K67 (by omega)
      · have c20 := iv_nlt (X := v19.toInt) (Y := 4) c20 rfl (by decide)
        refine pv_aload_n (M := mX12_closesSums) 0 dX12_closesSums_8 9 rfl rfl rfl ?_
        refine pv_callv (M := mX12_closesSums) (as := []) (st := []) (kc2 := 0) (ks2 := 0) dX12_closesSums_9 wd1460 YX12_top ⟨wd1462, wd69⟩ (mk_get (tl123 hT)) rfl rfl (s_X12_top g hT I3) rfl rfl (Nat.le_of_ble_eq_true rfl) (by decide) rfl rfl 12 rfl (fun rv h1 q74 => ?_)
        obtain ⟨v75, rfl, rfl, pv75, qv75, rv75⟩ := q74
        replace rv75 : (v75.toInt = -1 ∧ (m1 123 17).toInt = 0) ∨ (1 ≤ (m1 123 17).toInt ∧ v75.toInt = opv (m1 131 ((m1 123 17).toInt - 1).toNat)) := rv75
        show PV _ _ _ _ _ _ _ 12 [.ref 123, .int x0] [.int v75] _
        refine pv_bipush (M := mX12_closesSums) (v := 6) dX12_closesSums_12 14 rfl (by decide) ?_
        refine pv_icmp_le (M := mX12_closesSums) (tgt := 37) dX12_closesSums_14 17 rfl (by decide) (fun c76 => ?_) (fun c76 => ?_)
        · have c76 := iv_le (X := v75.toInt) (Y := 6) c76 rfl (by decide)
          refine pv_aload_n (M := mX12_closesSums) 0 dX12_closesSums_37 38 rfl rfl rfl ?_
          refine pv_aload_n (M := mX12_closesSums) 0 dX12_closesSums_38 39 rfl rfl rfl ?_
          refine pv_callv (M := mX12_closesSums) (as := []) (st := [.ref 123]) (kc2 := 0) (ks2 := 0) dX12_closesSums_39 wd1460 YX12_top ⟨wd1462, wd69⟩ (mk_get (tl123 hT)) rfl rfl (s_X12_top g hT I3) rfl rfl (Nat.le_of_ble_eq_true rfl) (by decide) rfl rfl 42 rfl (fun rv h1 q77 => ?_)
          obtain ⟨v78, rfl, rfl, pv78, qv78, rv78⟩ := q77
          replace rv78 : (v78.toInt = -1 ∧ (m1 123 17).toInt = 0) ∨ (1 ≤ (m1 123 17).toInt ∧ v78.toInt = opv (m1 131 ((m1 123 17).toInt - 1).toNat)) := rv78
          show PV _ _ _ _ _ _ _ 42 [.ref 123, .int x0] [.int v78, .ref 123] _
          refine pv_iconst (M := mX12_closesSums) (v := 0) dX12_closesSums_42 43 rfl (by decide) ?_
          have z79 : (0 : Int32).toInt = 0 := by decide
          refine pv_callv (M := mX12_closesSums) (as := [.int v78, .int 0]) (st := []) (kc2 := 0) (ks2 := 0) dX12_closesSums_43 wd1446 YX12_notes ⟨wd1448, wd67⟩ (mk_get (tl123 hT)) rfl rfl (s_X12_notes g hT I3 v78 (by omega) (by omega) 0 (by decide) (by decide) (by first | omega | assumption | exact (iv_rng _).2 | exact (iv_rng _).1 | decide)) rfl rfl (Nat.le_of_ble_eq_true rfl) (by decide) rfl rfl 46 rfl (fun rv h1 q80 => ?_)
          obtain ⟨m81, n82, rfl, rfl, I83, K84, rm81⟩ := q80
          replace rm81 : NOTE v78.toInt (0 : Int) m1 m81 := by have q_ := rm81; (try rw [z79] at q_); exact q_
          have K84c := K84
          have w85 : (m81 123 12).toInt = (m1 123 12).toInt := congrArg Int32.toInt (K84 123 12 rfl)
          have w86 : (m81 123 13).toInt = (m1 123 13).toInt := congrArg Int32.toInt (K84 123 13 rfl)
          have w87 : (m81 123 17).toInt = (m1 123 17).toInt := congrArg Int32.toInt (K84 123 17 rfl)
          have K84 := K4.trans (K84.sub (wl_sub (by decide)))
          show PV _ _ _ _ _ _ _ 46 [.ref 123, .int x0] [] _
          have kN := rm81
          refine pv_aload_n (M := mX12_closesSums) 0 dX12_closesSums_46 47 rfl rfl rfl ?_
          refine pv_aload_n (M := mX12_closesSums) 0 dX12_closesSums_47 48 rfl rfl rfl ?_
          refine iv_get (M := mX12_closesSums) (l1 := 0) (l2 := 180) dX12_closesSums_48 FX12 17 wd1190 (by decide) (tl123 hT) rfl I83 rfl 51 rfl (fun v89 ev89 pv89 qv89 => ?_)
          have wv89 : v89.toInt = (m81 123 17).toInt := congrArg Int32.toInt ev89
          refine pv_iconst (M := mX12_closesSums) (v := 1) dX12_closesSums_51 52 rfl (by decide) ?_
          refine iv_isub (M := mX12_closesSums) (X := v89.toInt) (Y := 1) dX12_closesSums_52 53 rfl rfl (by decide) (by omega) (by omega) (fun v90 ev90 => ?_)
          refine iv_put (M := mX12_closesSums) (l1 := 0) (l2 := 180) dX12_closesSums_53 FX12 17 wd1190 (by decide) rfl (tl123 hT) rfl rfl rfl I83 rfl (by omega) (by omega) 56 rfl (fun m91 e94 I92 => ?_)
          have K93 := K84.set e94 rfl
          have w95 : (m91 123 12).toInt = (m81 123 12).toInt := by rw [e94, up2_ne (by omega)]
          have w96 : (m91 123 13).toInt = (m81 123 13).toInt := by rw [e94, up2_ne (by omega)]
          have w97 : (m91 123 16).toInt = (m81 123 16).toInt := by rw [e94, up2_ne (by omega)]
          have w98 : (m91 123 17).toInt = v90.toInt := by rw [e94, up2_eq]
          refine pv_goto (M := mX12_closesSums) (tgt := 0) dX12_closesSums_56 (by decide) ?_
          have kcs := CSI.step kg hp1 (by omega) (by omega) (by omega) (by omega) kN e94 (by omega)
          exact ih7  m91 n82 kcs I92 K93 (by omega)
        · have c76 := iv_nle (X := v75.toInt) (Y := 6) c76 rfl (by decide)
          refine pv_iload_n (M := mX12_closesSums) 1 dX12_closesSums_17 18 rfl rfl rfl ?_
          refine pv_if_eq (M := mX12_closesSums) (tgt := 59) dX12_closesSums_18 21 rfl (by decide) (fun c100 => ?_) (fun c100 => ?_)
          · have c100 := iv_eq (X := x0.toInt) (Y := 0) c100 rfl (by decide)
            exact pv_vret (M := mX12_closesSums) dX12_closesSums_59 rfl ⟨_, _, rfl, rfl, I3, K4, ⟨kg, fun q => by omega⟩⟩
          · have c100 := iv_ne (X := x0.toInt) (Y := 0) c100 rfl (by decide)
            refine pv_aload_n (M := mX12_closesSums) 0 dX12_closesSums_21 22 rfl rfl rfl ?_
            refine pv_callv (M := mX12_closesSums) (as := []) (st := []) (kc2 := 0) (ks2 := 0) dX12_closesSums_22 wd1460 YX12_top ⟨wd1462, wd69⟩ (mk_get (tl123 hT)) rfl rfl (s_X12_top g hT I3) rfl rfl (Nat.le_of_ble_eq_true rfl) (by decide) rfl rfl 25 rfl (fun rv h1 q101 => ?_)
            obtain ⟨v102, rfl, rfl, pv102, qv102, rv102⟩ := q101
            replace rv102 : (v102.toInt = -1 ∧ (m1 123 17).toInt = 0) ∨ (1 ≤ (m1 123 17).toInt ∧ v102.toInt = opv (m1 131 ((m1 123 17).toInt - 1).toNat)) := rv102
            show PV _ _ _ _ _ _ _ 25 [.ref 123, .int x0] [.int v102] _
            refine pv_iconst (M := mX12_closesSums) (v := 2) dX12_closesSums_25 26 rfl (by decide) ?_
            refine pv_icmp_eq (M := mX12_closesSums) (tgt := 37) dX12_closesSums_26 29 rfl (by decide) (fun c103 => ?_) (fun c103 => ?_)
            · have c103 := iv_eq (X := v102.toInt) (Y := 2) c103 rfl (by decide)
              refine pv_aload_n (M := mX12_closesSums) 0 dX12_closesSums_37 38 rfl rfl rfl ?_
              refine pv_aload_n (M := mX12_closesSums) 0 dX12_closesSums_38 39 rfl rfl rfl ?_
              refine pv_callv (M := mX12_closesSums) (as := []) (st := [.ref 123]) (kc2 := 0) (ks2 := 0) dX12_closesSums_39 wd1460 YX12_top ⟨wd1462, wd69⟩ (mk_get (tl123 hT)) rfl rfl (s_X12_top g hT I3) rfl rfl (Nat.le_of_ble_eq_true rfl) (by decide) rfl rfl 42 rfl (fun rv h1 q104 => ?_)
              obtain ⟨v105, rfl, rfl, pv105, qv105, rv105⟩ := q104
              replace rv105 : (v105.toInt = -1 ∧ (m1 123 17).toInt = 0) ∨ (1 ≤ (m1 123 17).toInt ∧ v105.toInt = opv (m1 131 ((m1 123 17).toInt - 1).toNat)) := rv105
              show PV _ _ _ _ _ _ _ 42 [.ref 123, .int x0] [.int v105, .ref 123] _
              refine pv_iconst (M := mX12_closesSums) (v := 0) dX12_closesSums_42 43 rfl (by decide) ?_
              have z106 : (0 : Int32).toInt = 0 := by decide
              refine pv_callv (M := mX12_closesSums) (as := [.int v105, .int 0]) (st := []) (kc2 := 0) (ks2 := 0) dX12_closesSums_43 wd1446 YX12_notes ⟨wd1448, wd67⟩ (mk_get (tl123 hT)) rfl rfl (s_X12_notes g hT I3 v105 (by omega) (by omega) 0 (by decide) (by decide) (by first | omega | assumption | exact (iv_rng _).2 | exact (iv_rng _).1 | decide)) rfl rfl (Nat.le_of_ble_eq_true rfl) (by decide) rfl rfl 46 rfl (fun rv h1 q107 => ?_)
              obtain ⟨m108, n109, rfl, rfl, I110, K111, rm108⟩ := q107
              replace rm108 : NOTE v105.toInt (0 : Int) m1 m108 := by have q_ := rm108; (try rw [z106] at q_); exact q_
              have K111c := K111
              have w112 : (m108 123 12).toInt = (m1 123 12).toInt := congrArg Int32.toInt (K111 123 12 rfl)
              have w113 : (m108 123 13).toInt = (m1 123 13).toInt := congrArg Int32.toInt (K111 123 13 rfl)
              have w114 : (m108 123 17).toInt = (m1 123 17).toInt := congrArg Int32.toInt (K111 123 17 rfl)
              have K111 := K4.trans (K111.sub (wl_sub (by decide)))
              show PV _ _ _ _ _ _ _ 46 [.ref 123, .int x0] [] _
              have kN := rm108
              refine pv_aload_n (M := mX12_closesSums) 0 dX12_closesSums_46 47 rfl rfl rfl ?_
              refine pv_aload_n (M := mX12_closesSums) 0 dX12_closesSums_47 48 rfl rfl rfl ?_
              refine iv_get (M := mX12_closesSums) (l1 := 0) (l2 := 180) dX12_closesSums_48 FX12 17 wd1190 (by decide) (tl123 hT) rfl I110 rfl 51 rfl (fun v116 ev116 pv116 qv116 => ?_)
              have wv116 : v116.toInt = (m108 123 17).toInt := congrArg Int32.toInt ev116
              refine pv_iconst (M := mX12_closesSums) (v := 1) dX12_closesSums_51 52 rfl (by decide) ?_
              refine iv_isub (M := mX12_closesSums) (X := v116.toInt) (Y := 1) dX12_closesSums_52 53 rfl rfl (by decide) (by omega) (by omega) (fun v117 ev117 => ?_)
              refine iv_put (M := mX12_closesSums) (l1 := 0) (l2 := 180) dX12_closesSums_53 FX12 17 wd1190 (by decide) rfl (tl123 hT) rfl rfl rfl I110 rfl (by omega) (by omega) 56 rfl (fun m118 e121 I119 => ?_)
              have K120 := K111.set e121 rfl
              have w122 : (m118 123 12).toInt = (m108 123 12).toInt := by rw [e121, up2_ne (by omega)]
              have w123 : (m118 123 13).toInt = (m108 123 13).toInt := by rw [e121, up2_ne (by omega)]
              have w124 : (m118 123 16).toInt = (m108 123 16).toInt := by rw [e121, up2_ne (by omega)]
              have w125 : (m118 123 17).toInt = v117.toInt := by rw [e121, up2_eq]
              refine pv_goto (M := mX12_closesSums) (tgt := 0) dX12_closesSums_56 (by decide) ?_
              have kcs := CSI.step kg hp1 (by omega) (by omega) (by omega) (by omega) kN e121 (by omega)
              exact ih7  m118 n109 kcs I119 K120 (by omega)
            · have c103 := iv_ne (X := v102.toInt) (Y := 2) c103 rfl (by decide)
              refine pv_aload_n (M := mX12_closesSums) 0 dX12_closesSums_29 30 rfl rfl rfl ?_
              refine pv_callv (M := mX12_closesSums) (as := []) (st := []) (kc2 := 0) (ks2 := 0) dX12_closesSums_30 wd1460 YX12_top ⟨wd1462, wd69⟩ (mk_get (tl123 hT)) rfl rfl (s_X12_top g hT I3) rfl rfl (Nat.le_of_ble_eq_true rfl) (by decide) rfl rfl 33 rfl (fun rv h1 q127 => ?_)
              obtain ⟨v128, rfl, rfl, pv128, qv128, rv128⟩ := q127
              replace rv128 : (v128.toInt = -1 ∧ (m1 123 17).toInt = 0) ∨ (1 ≤ (m1 123 17).toInt ∧ v128.toInt = opv (m1 131 ((m1 123 17).toInt - 1).toNat)) := rv128
              show PV _ _ _ _ _ _ _ 33 [.ref 123, .int x0] [.int v128] _
              refine pv_iconst (M := mX12_closesSums) (v := 3) dX12_closesSums_33 34 rfl (by decide) ?_
              refine pv_icmp_ne (M := mX12_closesSums) (tgt := 59) dX12_closesSums_34 37 rfl (by decide) (fun c129 => ?_) (fun c129 => ?_)
              · have c129 := iv_ne (X := v128.toInt) (Y := 3) c129 rfl (by decide)
                exact pv_vret (M := mX12_closesSums) dX12_closesSums_59 rfl ⟨_, _, rfl, rfl, I3, K4, ⟨kg, fun q => by omega⟩⟩
              · have c129 := iv_eq (X := v128.toInt) (Y := 3) c129 rfl (by decide)
                refine pv_aload_n (M := mX12_closesSums) 0 dX12_closesSums_37 38 rfl rfl rfl ?_
                refine pv_aload_n (M := mX12_closesSums) 0 dX12_closesSums_38 39 rfl rfl rfl ?_
                refine pv_callv (M := mX12_closesSums) (as := []) (st := [.ref 123]) (kc2 := 0) (ks2 := 0) dX12_closesSums_39 wd1460 YX12_top ⟨wd1462, wd69⟩ (mk_get (tl123 hT)) rfl rfl (s_X12_top g hT I3) rfl rfl (Nat.le_of_ble_eq_true rfl) (by decide) rfl rfl 42 rfl (fun rv h1 q130 => ?_)
                obtain ⟨v131, rfl, rfl, pv131, qv131, rv131⟩ := q130
                replace rv131 : (v131.toInt = -1 ∧ (m1 123 17).toInt = 0) ∨ (1 ≤ (m1 123 17).toInt ∧ v131.toInt = opv (m1 131 ((m1 123 17).toInt - 1).toNat)) := rv131
                show PV _ _ _ _ _ _ _ 42 [.ref 123, .int x0] [.int v131, .ref 123] _
                refine pv_iconst (M := mX12_closesSums) (v := 0) dX12_closesSums_42 43 rfl (by decide) ?_
                have z132 : (0 : Int32).toInt = 0 := by decide
                refine pv_callv (M := mX12_closesSums) (as := [.int v131, .int 0]) (st := []) (kc2 := 0) (ks2 := 0) dX12_closesSums_43 wd1446 YX12_notes ⟨wd1448, wd67⟩ (mk_get (tl123 hT)) rfl rfl (s_X12_notes g hT I3 v131 (by omega) (by omega) 0 (by decide) (by decide) (by first | omega | assumption | exact (iv_rng _).2 | exact (iv_rng _).1 | decide)) rfl rfl (Nat.le_of_ble_eq_true rfl) (by decide) rfl rfl 46 rfl (fun rv h1 q133 => ?_)
                obtain ⟨m134, n135, rfl, rfl, I136, K137, rm134⟩ := q133
                replace rm134 : NOTE v131.toInt (0 : Int) m1 m134 := by have q_ := rm134; (try rw [z132] at q_); exact q_
                have K137c := K137
                have w138 : (m134 123 12).toInt = (m1 123 12).toInt := congrArg Int32.toInt (K137 123 12 rfl)
                have w139 : (m134 123 13).toInt = (m1 123 13).toInt := congrArg Int32.toInt (K137 123 13 rfl)
                have w140 : (m134 123 17).toInt = (m1 123 17).toInt := congrArg Int32.toInt (K137 123 17 rfl)
                have K137 := K4.trans (K137.sub (wl_sub (by decide)))
                show PV _ _ _ _ _ _ _ 46 [.ref 123, .int x0] [] _
                have kN := rm134
                refine pv_aload_n (M := mX12_closesSums) 0 dX12_closesSums_46 47 rfl rfl rfl ?_
                refine pv_aload_n (M := mX12_closesSums) 0 dX12_closesSums_47 48 rfl rfl rfl ?_
                refine iv_get (M := mX12_closesSums) (l1 := 0) (l2 := 180) dX12_closesSums_48 FX12 17 wd1190 (by decide) (tl123 hT) rfl I136 rfl 51 rfl (fun v142 ev142 pv142 qv142 => ?_)
                have wv142 : v142.toInt = (m134 123 17).toInt := congrArg Int32.toInt ev142
                refine pv_iconst (M := mX12_closesSums) (v := 1) dX12_closesSums_51 52 rfl (by decide) ?_
                refine iv_isub (M := mX12_closesSums) (X := v142.toInt) (Y := 1) dX12_closesSums_52 53 rfl rfl (by decide) (by omega) (by omega) (fun v143 ev143 => ?_)
                refine iv_put (M := mX12_closesSums) (l1 := 0) (l2 := 180) dX12_closesSums_53 FX12 17 wd1190 (by decide) rfl (tl123 hT) rfl rfl rfl I136 rfl (by omega) (by omega) 56 rfl (fun m144 e147 I145 => ?_)
                have K146 := K137.set e147 rfl
                have w148 : (m144 123 12).toInt = (m134 123 12).toInt := by rw [e147, up2_ne (by omega)]
                have w149 : (m144 123 13).toInt = (m134 123 13).toInt := by rw [e147, up2_ne (by omega)]
                have w150 : (m144 123 16).toInt = (m134 123 16).toInt := by rw [e147, up2_ne (by omega)]
                have w151 : (m144 123 17).toInt = v143.toInt := by rw [e147, up2_eq]
                refine pv_goto (M := mX12_closesSums) (tgt := 0) dX12_closesSums_56 (by decide) ?_
                have kcs := CSI.step kg hp1 (by omega) (by omega) (by omega) (by omega) kN e147 (by omega)
                exact ih7  m144 n135 kcs I145 K146 (by omega)
  exact lp6 ((((m 123 17).toInt) : Int).toNat + 1)  m n (CSI.start hp0 (by have := (I 123 17).1; exact this)) I Kp (by omega)

set_option maxHeartbeats 2000000 in
set_option maxRecDepth 20000 in
theorem s_X12_readsFactor (g : pv_G) {T : List mv_T} {m : Nat → Nat → Int32} {n : Nat → Nat → Int64} {r : Nat → Value} (hT : TX T) (I : IV BB m) (cb : Int) (c : Int) (hp0 : HW cb c m) (hp1 : 0 ≤ SLK m) (hp2 : (m 123 12).toInt ≤ (m 123 13).toInt) (hp3 : (m 123 17).toInt ≤ (m 123 12).toInt) : PM g mX12_readsFactor yX12_readsFactor (sqI T BB (wl [(123, 123, some 12), (123, 123, some 14), (123, 123, some 15), (123, 123, some 16), (123, 123, some 17), (123, 123, some 19), (130, 130, none), (131, 131, none)]) r m 0 1 (fun m' v => v.toInt = 0 ∨ RLs cb (c + 1) m m')) 4 0 0 [.ref 123] (mk T m n r) := by
  have Kp : fr (wl [(123, 123, some 12), (123, 123, some 14), (123, 123, some 15), (123, 123, some 16), (123, 123, some 17), (123, 123, some 19), (130, 130, none), (131, 131, none)]) m m := fr.rf
  have z108 : 0 ≤ (m 123 12).toInt ∧ (m 123 12).toInt ≤ 160 := I 123 12
  have z109 : 0 ≤ (m 123 13).toInt ∧ (m 123 13).toInt ≤ 160 := I 123 13
  have z110 : 0 ≤ (m 123 16).toInt ∧ (m 123 16).toInt ≤ 180 := I 123 16
  have z111 : 0 ≤ (m 123 17).toInt ∧ (m 123 17).toInt ≤ 180 := I 123 17
  refine PM.of 1 (lo := [.ref 123, pv_U]) rfl (by decide) rfl rfl (Nat.le_of_ble_eq_true rfl) ?_
  have lp6 : ∀ (fuel5 : Nat)  (m1 : Nat → Nat → Int32) (n2 : Nat → Nat → Int64), (RLs cb c m m1) → IV BB m1 → fr (wl [(123, 123, some 12), (123, 123, some 14), (123, 123, some 15), (123, 123, some 16), (123, 123, some 17), (123, 123, some 19), (130, 130, none), (131, 131, none)]) m m1 → ((160 - (m1 123 12).toInt) : Int).toNat < fuel5 → PV none g mX12_readsFactor (sqI T BB (wl [(123, 123, some 12), (123, 123, some 14), (123, 123, some 15), (123, 123, some 16), (123, 123, some 17), (123, 123, some 19), (130, 130, none), (131, 131, none)]) r m 0 1 (fun m' v => v.toInt = 0 ∨ RLs cb (c + 1) m m')) 4 0 0 0 [.ref 123, pv_U] [] (mk T m1 n2 r) := by
    intro fuel5
    induction fuel5 with
    | zero => intro  m1 n2 b8 I3 K4 z9; omega
    | succ fuel5 ih7 =>
      intro  m1 n2 b8 I3 K4 z9
      have z10 : 0 ≤ (m1 123 12).toInt ∧ (m1 123 12).toInt ≤ 160 := I3 123 12
      have z11 : 0 ≤ (m1 123 13).toInt ∧ (m1 123 13).toInt ≤ 160 := I3 123 13
      have z12 : 0 ≤ (m1 123 16).toInt ∧ (m1 123 16).toInt ≤ 180 := I3 123 16
      have z13 : 0 ≤ (m1 123 17).toInt ∧ (m1 123 17).toInt ≤ 180 := I3 123 17
      have kg := (show RLs cb c m m1 by assumption)
      have kg2 := kg.2.2.2.2.1
      have kg3 := kg.2.2.2.2.2.2.2.2.1
      have kg4 := kg.2.2.2.2.2.2.2.2.2
      have kg5 : (m1 123 16).toInt ≤ (m1 123 12).toInt := SLK_cm (m := m1) (by have := kg.2.1; omega)
      have kg6 := kg.2.2.2.1
      have kg7 := kg.2.1
      have kg8 := kg.2.2.2.2.2.2.2.1
      refine pv_aload_n (M := mX12_readsFactor) 0 dX12_readsFactor_0 1 rfl rfl rfl ?_
      refine pv_callv (M := mX12_readsFactor) (as := []) (st := []) (kc2 := 0) (ks2 := 0) dX12_readsFactor_1 wd1417 YX12_here ⟨wd1419, wd60⟩ (mk_get (tl123 hT)) rfl rfl (s_X12_here g hT I3) rfl rfl (Nat.le_of_ble_eq_true rfl) (by decide) rfl rfl 4 rfl (fun rv h1 q22 => ?_)
      obtain ⟨v23, rfl, rfl, pv23, qv23, rv23⟩ := q22
      replace rv23 : v23.toInt = hereV m1 ∧ (v23.toInt = -1 ∨ (m1 123 12).toInt < (m1 123 13).toInt) := rv23
      show PV _ _ _ _ _ _ _ 4 [.ref 123, pv_U] [.int v23] _
      refine pv_bipush (M := mX12_readsFactor) (v := 91) dX12_readsFactor_4 6 rfl (by decide) ?_
      refine pv_icmp_ne (M := mX12_readsFactor) (tgt := 20) dX12_readsFactor_6 9 rfl (by decide) (fun c24 => ?_) (fun c24 => ?_)
      · have c24 := iv_ne (X := v23.toInt) (Y := 91) c24 rfl (by decide)
        refine pv_aload_n (M := mX12_readsFactor) 0 dX12_readsFactor_20 21 rfl rfl rfl ?_
        refine pv_callv (M := mX12_readsFactor) (as := []) (st := []) (kc2 := 0) (ks2 := 0) dX12_readsFactor_21 wd1438 YX12_isDigit ⟨wd1440, wd65⟩ (mk_get (tl123 hT)) rfl rfl (s_X12_isDigit g hT I3) rfl rfl (Nat.le_of_ble_eq_true rfl) (by decide) rfl rfl 24 rfl (fun rv h1 q25 => ?_)
        obtain ⟨v26, rfl, rfl, pv26, qv26, rv26⟩ := q25
        replace rv26 : (v26.toInt = 0 ∧ ¬ (48 ≤ hereV m1 ∧ hereV m1 ≤ 57)) ∨ (v26.toInt = 1 ∧ 48 ≤ hereV m1 ∧ hereV m1 ≤ 57 ∧ (m1 123 12).toInt < (m1 123 13).toInt) := rv26
        show PV _ _ _ _ _ _ _ 24 [.ref 123, pv_U] [.int v26] _
        refine pv_if_eq (M := mX12_readsFactor) (tgt := 47) dX12_readsFactor_24 27 rfl (by decide) (fun c27 => ?_) (fun c27 => ?_)
        · have c27 := iv_eq (X := v26.toInt) (Y := 0) c27 rfl (by decide)
          refine pv_aload_n (M := mX12_readsFactor) 0 dX12_readsFactor_47 48 rfl rfl rfl ?_
          refine pv_callv (M := mX12_readsFactor) (as := []) (st := []) (kc2 := 0) (ks2 := 0) dX12_readsFactor_48 wd1417 YX12_here ⟨wd1419, wd60⟩ (mk_get (tl123 hT)) rfl rfl (s_X12_here g hT I3) rfl rfl (Nat.le_of_ble_eq_true rfl) (by decide) rfl rfl 51 rfl (fun rv h1 q28 => ?_)
          obtain ⟨v29, rfl, rfl, pv29, qv29, rv29⟩ := q28
          replace rv29 : v29.toInt = hereV m1 ∧ (v29.toInt = -1 ∨ (m1 123 12).toInt < (m1 123 13).toInt) := rv29
          show PV _ _ _ _ _ _ _ 51 [.ref 123, pv_U] [.int v29] _
          refine pv_calls (M := mX12_readsFactor) (as := [.int v29]) (st := []) (kc2 := 0) (ks2 := 0) dX12_readsFactor_51 wd1450 YX12_factOf wd1451 (s_X12_factOf g hT I3 v29) rfl rfl (Nat.le_of_ble_eq_true rfl) (by decide) rfl rfl 54 rfl (fun rv h1 q30 => ?_)
          obtain ⟨v31, rfl, rfl, pv31, qv31, rv31⟩ := q30
          replace rv31 : v31.toInt = -1 ∨ 0 ≤ v29.toInt := rv31
          show PV _ _ _ _ _ _ _ 54 [.ref 123, pv_U] [.int v31] _
          refine pv_istore_n (M := mX12_readsFactor) 1 (lo2 := [.ref 123, .int v31]) dX12_readsFactor_54 55 rfl rfl (by decide) rfl rfl ?_
          refine pv_iload_n (M := mX12_readsFactor) 1 dX12_readsFactor_55 56 rfl rfl rfl ?_
          refine pv_iconst (M := mX12_readsFactor) (v := (-1)) dX12_readsFactor_56 57 rfl (by decide) ?_
          refine pv_icmp_ne (M := mX12_readsFactor) (tgt := 70) dX12_readsFactor_57 60 rfl (by decide) (fun c32 => ?_) (fun c32 => ?_)
          · have c32 := iv_ne (X := v31.toInt) (Y := (-1)) c32 rfl (by decide)
            refine pv_aload_n (M := mX12_readsFactor) 0 dX12_readsFactor_70 71 rfl rfl rfl ?_
            refine pv_iconst (M := mX12_readsFactor) (v := 1) dX12_readsFactor_71 72 rfl (by decide) ?_
            refine pv_iload_n (M := mX12_readsFactor) 1 dX12_readsFactor_72 73 rfl rfl rfl ?_
            have z33 : (1 : Int32).toInt = 1 := by decide
            refine pv_callv (M := mX12_readsFactor) (as := [.int 1, .int v31]) (st := []) (kc2 := 0) (ks2 := 0) dX12_readsFactor_73 wd1446 YX12_notes ⟨wd1448, wd67⟩ (mk_get (tl123 hT)) rfl rfl (s_X12_notes g hT I3 1 (by decide) (by decide) v31 (by omega) (by omega) (by first | omega | assumption | exact (iv_rng _).2 | exact (iv_rng _).1 | decide)) rfl rfl (Nat.le_of_ble_eq_true rfl) (by decide) rfl rfl 76 rfl (fun rv h1 q34 => ?_)
            obtain ⟨m35, n36, rfl, rfl, I37, K38, rm35⟩ := q34
            replace rm35 : NOTE (1 : Int) v31.toInt m1 m35 := by have q_ := rm35; (try rw [z33] at q_); exact q_
            have K38c := K38
            have w39 : (m35 123 12).toInt = (m1 123 12).toInt := congrArg Int32.toInt (K38 123 12 rfl)
            have w40 : (m35 123 13).toInt = (m1 123 13).toInt := congrArg Int32.toInt (K38 123 13 rfl)
            have w41 : (m35 123 17).toInt = (m1 123 17).toInt := congrArg Int32.toInt (K38 123 17 rfl)
            have K38 := K4.trans (K38.sub (wl_sub (by decide)))
            show PV _ _ _ _ _ _ _ 76 [.ref 123, .int v31] [] _
            have kN := rm35
            refine pv_aload_n (M := mX12_readsFactor) 0 dX12_readsFactor_76 77 rfl rfl rfl ?_
            refine pv_aload_n (M := mX12_readsFactor) 0 dX12_readsFactor_77 78 rfl rfl rfl ?_
            refine iv_get (M := mX12_readsFactor) (l1 := 0) (l2 := 160) dX12_readsFactor_78 FX12 12 wd1185 (by decide) (tl123 hT) rfl I37 rfl 81 rfl (fun v43 ev43 pv43 qv43 => ?_)
            have wv43 : v43.toInt = (m35 123 12).toInt := congrArg Int32.toInt ev43
            refine pv_iconst (M := mX12_readsFactor) (v := 1) dX12_readsFactor_81 82 rfl (by decide) ?_
            refine iv_iadd (M := mX12_readsFactor) (X := v43.toInt) (Y := 1) dX12_readsFactor_82 83 rfl rfl (by decide) (by omega) (by omega) (fun v44 ev44 => ?_)
            refine iv_put (M := mX12_readsFactor) (l1 := 0) (l2 := 160) dX12_readsFactor_83 FX12 12 wd1185 (by decide) rfl (tl123 hT) rfl rfl rfl I37 rfl (by omega) (by omega) 86 rfl (fun m45 e48 I46 => ?_)
            have K47 := K38.set e48 rfl
            have w49 : (m45 123 12).toInt = v44.toInt := by rw [e48, up2_eq]
            have w50 : (m45 123 13).toInt = (m35 123 13).toInt := by rw [e48, up2_ne (by omega)]
            have w51 : (m45 123 16).toInt = (m35 123 16).toInt := by rw [e48, up2_ne (by omega)]
            have w52 : (m45 123 17).toInt = (m35 123 17).toInt := by rw [e48, up2_ne (by omega)]
            refine pv_iconst (M := mX12_readsFactor) (v := 1) dX12_readsFactor_86 87 rfl (by decide) ?_
            have z53 : (1 : Int32).toInt = 1 := by decide
            exact pv_iret (M := mX12_readsFactor) dX12_readsFactor_87 rfl rfl ⟨_, _, _, rfl, rfl, I46, K47, by decide, by decide, (Or.inr (RLs.nam kg kN (by omega) (by omega) e48 (by omega) (by omega)))⟩
          · have c32 := iv_eq (X := v31.toInt) (Y := (-1)) c32 rfl (by decide)
            refine pv_aload_n (M := mX12_readsFactor) 0 dX12_readsFactor_60 61 rfl rfl rfl ?_
            refine pv_iconst (M := mX12_readsFactor) (v := 1) dX12_readsFactor_61 62 rfl (by decide) ?_
            refine pv_aload_n (M := mX12_readsFactor) 0 dX12_readsFactor_62 63 rfl rfl rfl ?_
            refine iv_get (M := mX12_readsFactor) (l1 := 0) (l2 := 160) dX12_readsFactor_63 FX12 12 wd1185 (by decide) (tl123 hT) rfl I3 rfl 66 rfl (fun v54 ev54 pv54 qv54 => ?_)
            have wv54 : v54.toInt = (m1 123 12).toInt := congrArg Int32.toInt ev54
            refine pv_callv (M := mX12_readsFactor) (as := [.int 1, .int v54]) (st := []) (kc2 := 0) (ks2 := 0) dX12_readsFactor_66 wd1421 YX12_wrongAt ⟨wd1423, wd61⟩ (mk_get (tl123 hT)) rfl rfl (s_X12_wrongAt g hT I3 1 (by decide) (by decide) v54 (by omega) (by omega)) rfl rfl (Nat.le_of_ble_eq_true rfl) (by decide) rfl rfl 69 rfl (fun rv h1 q55 => ?_)
            obtain ⟨m56, n57, v60, rfl, rfl, I58, K59, pv60, qv60, rv60⟩ := q55
            have K59c := K59
            have w61 : (m56 123 12).toInt = (m1 123 12).toInt := congrArg Int32.toInt (K59 123 12 rfl)
            have w62 : (m56 123 13).toInt = (m1 123 13).toInt := congrArg Int32.toInt (K59 123 13 rfl)
            have w63 : (m56 123 16).toInt = (m1 123 16).toInt := congrArg Int32.toInt (K59 123 16 rfl)
            have w64 : (m56 123 17).toInt = (m1 123 17).toInt := congrArg Int32.toInt (K59 123 17 rfl)
            have K59 := K4.trans (K59.sub (wl_sub (by decide)))
            show PV _ _ _ _ _ _ _ 69 [.ref 123, .int v31] [.int v60] _
            exact pv_iret (M := mX12_readsFactor) dX12_readsFactor_69 rfl (iv_nz (by omega) (by omega)) ⟨_, _, _, rfl, rfl, I58, K59, by omega, by omega, (Or.inl (by omega))⟩
        · have c27 := iv_ne (X := v26.toInt) (Y := 0) c27 rfl (by decide)
          refine pv_aload_n (M := mX12_readsFactor) 0 dX12_readsFactor_27 28 rfl rfl rfl ?_
          refine pv_callv (M := mX12_readsFactor) (as := []) (st := []) (kc2 := 0) (ks2 := 0) dX12_readsFactor_28 wd1442 YX12_readsNumber ⟨wd1444, wd66⟩ (mk_get (tl123 hT)) rfl rfl (s_X12_readsNumber g hT I3 (by first | omega | assumption | exact (iv_rng _).2 | exact (iv_rng _).1 | decide)) rfl rfl (Nat.le_of_ble_eq_true rfl) (by decide) rfl rfl 31 rfl (fun rv h1 q65 => ?_)
          obtain ⟨m66, n67, v70, rfl, rfl, I68, K69, pv70, qv70, rv70⟩ := q65
          replace rv70 : (v70.toInt = 0 ∨ (48 ≤ hereV m1 ∧ hereV m1 ≤ 57 → (m1 123 12).toInt + 1 ≤ (m66 123 12).toInt)) ∧ (m1 123 12).toInt ≤ (m66 123 12).toInt ∧ (m66 123 12).toInt ≤ (m66 123 13).toInt ∧ (m66 123 13).toInt = (m1 123 13).toInt := rv70
          have K69c := K69
          have w71 : (m66 123 13).toInt = (m1 123 13).toInt := congrArg Int32.toInt (K69 123 13 rfl)
          have w72 : (m66 123 16).toInt = (m1 123 16).toInt := congrArg Int32.toInt (K69 123 16 rfl)
          have w73 : (m66 123 17).toInt = (m1 123 17).toInt := congrArg Int32.toInt (K69 123 17 rfl)
          have K69 := K4.trans (K69.sub (wl_sub (by decide)))
          show PV _ _ _ _ _ _ _ 31 [.ref 123, pv_U] [.int v70] _
          have kR := rv70
          refine pv_if_ne (M := mX12_readsFactor) (tgt := 36) dX12_readsFactor_31 34 rfl (by decide) (fun c75 => ?_) (fun c75 => ?_)
          · have c75 := iv_ne (X := v70.toInt) (Y := 0) c75 rfl (by decide)
            have kF := K69c
            refine pv_aload_n (M := mX12_readsFactor) 0 dX12_readsFactor_36 37 rfl rfl rfl ?_
            refine pv_iconst (M := mX12_readsFactor) (v := 0) dX12_readsFactor_37 38 rfl (by decide) ?_
            refine pv_aload_n (M := mX12_readsFactor) 0 dX12_readsFactor_38 39 rfl rfl rfl ?_
            refine iv_get (M := mX12_readsFactor) (l1 := 0) (l2 := 99999) dX12_readsFactor_39 FX12 19 wd1192 (by decide) (tl123 hT) rfl I68 rfl 42 rfl (fun v77 ev77 pv77 qv77 => ?_)
            have z78 : (0 : Int32).toInt = 0 := by decide
            refine pv_callv (M := mX12_readsFactor) (as := [.int 0, .int v77]) (st := []) (kc2 := 0) (ks2 := 0) dX12_readsFactor_42 wd1446 YX12_notes ⟨wd1448, wd67⟩ (mk_get (tl123 hT)) rfl rfl (s_X12_notes g hT I68 0 (by decide) (by decide) v77 (by omega) (by omega) (by first | omega | assumption | exact (iv_rng _).2 | exact (iv_rng _).1 | decide)) rfl rfl (Nat.le_of_ble_eq_true rfl) (by decide) rfl rfl 45 rfl (fun rv h1 q79 => ?_)
            obtain ⟨m80, n81, rfl, rfl, I82, K83, rm80⟩ := q79
            replace rm80 : NOTE (0 : Int) v77.toInt m66 m80 := by have q_ := rm80; (try rw [z78] at q_); exact q_
            have K83c := K83
            have w84 : (m80 123 12).toInt = (m66 123 12).toInt := congrArg Int32.toInt (K83 123 12 rfl)
            have w85 : (m80 123 13).toInt = (m66 123 13).toInt := congrArg Int32.toInt (K83 123 13 rfl)
            have w86 : (m80 123 17).toInt = (m66 123 17).toInt := congrArg Int32.toInt (K83 123 17 rfl)
            have K83 := K69.trans (K83.sub (wl_sub (by decide)))
            show PV _ _ _ _ _ _ _ 45 [.ref 123, pv_U] [] _
            have kN := rm80
            refine pv_iconst (M := mX12_readsFactor) (v := 1) dX12_readsFactor_45 46 rfl (by decide) ?_
            have z88 : (1 : Int32).toInt = 1 := by decide
            exact pv_iret (M := mX12_readsFactor) dX12_readsFactor_46 rfl rfl ⟨_, _, _, rfl, rfl, I82, K83, by decide, by decide, (Or.inr (RLs.num kg (kF 123 16 rfl) (kF 123 17 rfl) (fun j => kF 130 j rfl) (fun j => kF 131 j rfl) (by omega) (by omega) (by omega) kN (by omega) (by omega)))⟩
          · have c75 := iv_eq (X := v70.toInt) (Y := 0) c75 rfl (by decide)
            refine pv_iconst (M := mX12_readsFactor) (v := 0) dX12_readsFactor_34 35 rfl (by decide) ?_
            have z89 : (0 : Int32).toInt = 0 := by decide
            exact pv_iret (M := mX12_readsFactor) dX12_readsFactor_35 rfl rfl ⟨_, _, _, rfl, rfl, I68, K69, by decide, by decide, (Or.inl (by decide))⟩
      · have c24 := iv_eq (X := v23.toInt) (Y := 91) c24 rfl (by decide)
        refine pv_aload_n (M := mX12_readsFactor) 0 dX12_readsFactor_9 10 rfl rfl rfl ?_
        refine pv_bipush (M := mX12_readsFactor) (v := 14) dX12_readsFactor_10 12 rfl (by decide) ?_
        have z90 : (14 : Int32).toInt = 14 := by decide
        refine pv_callv (M := mX12_readsFactor) (as := [.int 14]) (st := []) (kc2 := 0) (ks2 := 0) dX12_readsFactor_12 wd1433 YX12_opens ⟨wd1435, wd64⟩ (mk_get (tl123 hT)) rfl rfl (s_X12_opens g hT I3 14 (by decide) (by decide) (by first | omega | assumption | exact (iv_rng _).2 | exact (iv_rng _).1 | decide) (by first | omega | assumption | exact (iv_rng _).2 | exact (iv_rng _).1 | decide)) rfl rfl (Nat.le_of_ble_eq_true rfl) (by decide) rfl rfl 15 rfl (fun rv h1 q91 => ?_)
        obtain ⟨m92, n93, v96, rfl, rfl, I94, K95, pv96, qv96, rv96⟩ := q91
        replace rv96 : (v96.toInt = 0 ∧ (m92 123 12).toInt = (m1 123 12).toInt) ∨ (v96.toInt = 1 ∧ ∃ o u w z : Int32, m92 = up2 (up2 (up2 (up2 m1 123 15 o) 131 (m1 123 17).toInt.toNat u) 123 17 w) 123 12 z ∧ u.toInt = 1048576 * (14 : Int) ∧ w.toInt = (m1 123 17).toInt + 1 ∧ z.toInt = (m1 123 12).toInt + 1) := by have q_ := rv96; (try rw [z90] at q_); exact q_
        have K95c := K95
        have w97 : (m92 123 13).toInt = (m1 123 13).toInt := congrArg Int32.toInt (K95 123 13 rfl)
        have w98 : (m92 123 16).toInt = (m1 123 16).toInt := congrArg Int32.toInt (K95 123 16 rfl)
        have K95 := K4.trans (K95.sub (wl_sub (by decide)))
        show PV _ _ _ _ _ _ _ 15 [.ref 123, pv_U] [.int v96] _
        have kO := rv96
        clear rv96
        refine pv_if_ne (M := mX12_readsFactor) (tgt := 0) dX12_readsFactor_15 18 rfl (by decide) (fun c101 => ?_) (fun c101 => ?_)
        · have c101 := iv_ne (X := v96.toInt) (Y := 0) c101 rfl (by decide)
          have krl := RLs.opn kg (by omega) (by omega) ((kO.resolve_left (fun q => by have := q.1; omega)).2)
          have krw := (kO.resolve_left (fun q => by have := q.1; omega)).2
          obtain ⟨o1, o2, o3, o4, o5, o6, o7, o8⟩ := krw
          have krz : (m92 123 12).toInt = (m1 123 12).toInt + 1 := by rw [o5, up2_f]; exact o8
          clear kO
          exact ih7  m92 n93 krl I94 K95 (by omega)
        · have c101 := iv_eq (X := v96.toInt) (Y := 0) c101 rfl (by decide)
          refine pv_iconst (M := mX12_readsFactor) (v := 0) dX12_readsFactor_18 19 rfl (by decide) ?_
          have z107 : (0 : Int32).toInt = 0 := by decide
          exact pv_iret (M := mX12_readsFactor) dX12_readsFactor_19 rfl rfl ⟨_, _, _, rfl, rfl, I94, K95, by decide, by decide, (Or.inl (by decide))⟩
  exact lp6 (((160 - (m 123 12).toInt) : Int).toNat + 1)  m n (RLs.start hp0 (by omega) (by omega)) I Kp (by omega)

set_option maxHeartbeats 2000000 in
set_option maxRecDepth 20000 in
theorem s_X12_hasOpenSum (g : pv_G) {T : List mv_T} {m : Nat → Nat → Int32} {n : Nat → Nat → Int64} {r : Nat → Value} (hT : TX T) (I : IV BB m) (x0 : Int32) (hl0 : 0 ≤ x0.toInt) (hh0 : x0.toInt ≤ 180) : PM g mX12_hasOpenSum yX12_hasOpenSum (sqP (mk T m n r) 0 1 (fun v => (v.toInt = 1 ∧ ∃ j : Nat, x0.toInt ≤ j ∧ (j : Int) < (m 123 17).toInt ∧ opv (m 131 j) = 14) ∨ (v.toInt = 0 ∧ ∀ j : Nat, x0.toInt ≤ j → (j : Int) < (m 123 17).toInt → opv (m 131 j) ≠ 14))) 1 0 0 [.ref 123, .int x0] (mk T m n r) := by
  have Kp : fr (wl []) m m := fr.rf
  have z26 : 0 ≤ (m 123 12).toInt ∧ (m 123 12).toInt ≤ 160 := I 123 12
  have z27 : 0 ≤ (m 123 13).toInt ∧ (m 123 13).toInt ≤ 160 := I 123 13
  have z28 : 0 ≤ (m 123 16).toInt ∧ (m 123 16).toInt ≤ 180 := I 123 16
  have z29 : 0 ≤ (m 123 17).toInt ∧ (m 123 17).toInt ≤ 180 := I 123 17
  refine PM.of 1 (lo := [.ref 123, .int x0, pv_U]) rfl (by decide) rfl rfl (Nat.le_of_ble_eq_true rfl) ?_
  refine pv_iload_n (M := mX12_hasOpenSum) 1 dX12_hasOpenSum_0 1 rfl rfl rfl ?_
  refine pv_istore_n (M := mX12_hasOpenSum) 2 (lo2 := [.ref 123, .int x0, .int x0]) dX12_hasOpenSum_1 2 rfl rfl (by decide) rfl rfl ?_
  have lp7 : ∀ (fuel6 : Nat) (y1 : Int32), (0 ≤ y1.toInt) → (y1.toInt ≤ 180) → (x0.toInt ≤ y1.toInt) → (∀ j : Nat, x0.toInt ≤ j → (j : Int) < y1.toInt → opv (m 131 j) ≠ 14) → ((180 - y1.toInt) : Int).toNat < fuel6 → PV none g mX12_hasOpenSum (sqP (mk T m n r) 0 1 (fun v => (v.toInt = 1 ∧ ∃ j : Nat, x0.toInt ≤ j ∧ (j : Int) < (m 123 17).toInt ∧ opv (m 131 j) = 14) ∨ (v.toInt = 0 ∧ ∀ j : Nat, x0.toInt ≤ j → (j : Int) < (m 123 17).toInt → opv (m 131 j) ≠ 14))) 1 0 0 2 [.ref 123, .int x0, .int y1] [] (mk T m n r) := by
    intro fuel6
    induction fuel6 with
    | zero => intro y1 b9 b10 b11 b12 z13; omega
    | succ fuel6 ih8 =>
      intro y1 b9 b10 b11 b12 z13
      have kg := (show ∀ j : Nat, x0.toInt ≤ j → (j : Int) < y1.toInt → opv (m 131 j) ≠ 14 by assumption)
      refine pv_iload_n (M := mX12_hasOpenSum) 2 dX12_hasOpenSum_2 3 rfl rfl rfl ?_
      refine pv_aload_n (M := mX12_hasOpenSum) 0 dX12_hasOpenSum_3 4 rfl rfl rfl ?_
      refine iv_get (M := mX12_hasOpenSum) (l1 := 0) (l2 := 180) dX12_hasOpenSum_4 FX12 17 wd1190 (by decide) (tl123 hT) rfl I rfl 7 rfl (fun v15 ev15 pv15 qv15 => ?_)
      have wv15 : v15.toInt = (m 123 17).toInt := congrArg Int32.toInt ev15
      refine pv_icmp_ge (M := mX12_hasOpenSum) (tgt := 32) dX12_hasOpenSum_7 10 rfl (by decide) (fun c16 => ?_) (fun c16 => ?_)
      · have c16 := iv_le (X := v15.toInt) (Y := y1.toInt) c16 rfl rfl
        refine pv_iconst (M := mX12_hasOpenSum) (v := 0) dX12_hasOpenSum_32 33 rfl (by decide) ?_
        have z17 : (0 : Int32).toInt = 0 := by decide
        exact pv_iret (M := mX12_hasOpenSum) dX12_hasOpenSum_33 rfl rfl ⟨_, rfl, rfl, by decide, by decide, (Or.inr ⟨by decide, fun j a b => kg j a (by omega)⟩)⟩
      · have c16 := iv_nle (X := v15.toInt) (Y := y1.toInt) c16 rfl rfl
        refine pv_aload_n (M := mX12_hasOpenSum) 0 dX12_hasOpenSum_10 11 rfl rfl rfl ?_
        refine mv_get (M := mX12_hasOpenSum) (v := .ref 131) dX12_hasOpenSum_11 FX12 22 wd1195 (by decide) (tl123 hT) rfl rfl 14 rfl ?_
        refine pv_iload_n (M := mX12_hasOpenSum) 2 dX12_hasOpenSum_14 15 rfl rfl rfl ?_
        refine iv_iald (M := mX12_hasOpenSum) (X := y1.toInt) (l1 := 0) (l2 := 15728639) dX12_hasOpenSum_15 (tl131 hT) rfl (by omega) (by omega) I (fun _ => rfl) 16 rfl (fun v18 ev18 pv18 qv18 => ?_)
        have k16 : v18.toInt = (m 131 y1.toInt.toNat).toInt := congrArg Int32.toInt ev18
        refine pv_ldc (M := mX12_hasOpenSum) (v := 1048576) dX12_hasOpenSum_16 18 rfl wd1437 ?_
        refine iv_idiv (M := mX12_hasOpenSum) (X := v18.toInt) (Y := 1048576) dX12_hasOpenSum_18 19 rfl rfl (by decide) (by omega) (by omega) (fun v20 ev20 => ?_)
        have k19 : v20.toInt = opv (m 131 y1.toInt.toNat) := by unfold opv; omega
        refine pv_bipush (M := mX12_hasOpenSum) (v := 14) dX12_hasOpenSum_19 21 rfl (by decide) ?_
        refine pv_icmp_ne (M := mX12_hasOpenSum) (tgt := 26) dX12_hasOpenSum_21 24 rfl (by decide) (fun c22 => ?_) (fun c22 => ?_)
        · have c22 := iv_ne (X := v20.toInt) (Y := 14) c22 rfl (by decide)
          refine iv_inc (M := mX12_hasOpenSum) (C := 1) dX12_hasOpenSum_26 29 rfl rfl (by decide) rfl rfl (by decide) (by omega) (by omega) (fun v23 ev23 => ?_)
          show PV _ _ _ _ _ _ _ 29 [.ref 123, .int x0, .int v23] [] _
          refine pv_goto (M := mX12_hasOpenSum) (tgt := 2) dX12_hasOpenSum_29 (by decide) ?_
          have khs : ∀ j : Nat, x0.toInt ≤ j → (j : Int) < v23.toInt → opv (m 131 j) ≠ 14 := fun j a b => if q : (j : Int) = y1.toInt then (by rw [show j = (y1.toInt).toNat by omega]; omega) else kg j a (by omega)
          exact ih8 v23 (by first | omega | assumption | exact (iv_rng _).2 | exact (iv_rng _).1 | decide) (by first | omega | assumption | exact (iv_rng _).2 | exact (iv_rng _).1 | decide) (by first | omega | assumption | (show x0.toInt ≤ v23.toInt; omega) | decide) khs (by omega)
        · have c22 := iv_eq (X := v20.toInt) (Y := 14) c22 rfl (by decide)
          refine pv_iconst (M := mX12_hasOpenSum) (v := 1) dX12_hasOpenSum_24 25 rfl (by decide) ?_
          have z25 : (1 : Int32).toInt = 1 := by decide
          exact pv_iret (M := mX12_hasOpenSum) dX12_hasOpenSum_25 rfl rfl ⟨_, rfl, rfl, by decide, by decide, (Or.inl ⟨by decide, y1.toInt.toNat, by omega, by omega, by omega⟩)⟩
  exact lp7 (((180 - x0.toInt) : Int).toNat + 1) x0 (by first | omega | assumption | exact (iv_rng _).2 | exact (iv_rng _).1 | decide) (by first | omega | assumption | exact (iv_rng _).2 | exact (iv_rng _).1 | decide) (by first | omega | assumption | (show x0.toInt ≤ x0.toInt; omega) | decide) (fun j a b => by omega) (by omega)

set_option maxHeartbeats 2000000 in
set_option maxRecDepth 20000 in
theorem s_X12_readsSum (g : pv_G) {T : List mv_T} {m : Nat → Nat → Int32} {n : Nat → Nat → Int64} {r : Nat → Value} (hT : TX T) (I : IV BB m) (cb : Int) (c : Int) (hp0 : HW cb c m) (hp1 : 0 ≤ c) (hp2 : 0 ≤ SLK m) (hp3 : (m 123 12).toInt ≤ (m 123 13).toInt) (hp4 : (m 123 17).toInt ≤ (m 123 12).toInt) (hp5 : NS m) : PM g mX12_readsSum yX12_readsSum (sqI T BB (wl [(123, 123, some 12), (123, 123, some 14), (123, 123, some 15), (123, 123, some 16), (123, 123, some 17), (123, 123, some 19), (130, 130, none), (131, 131, none)]) r m 0 1 (fun m' v => v.toInt = 0 ∨ RS cb (c + 1) m m')) 5 0 0 [.ref 123] (mk T m n r) := by
  have Kp : fr (wl [(123, 123, some 12), (123, 123, some 14), (123, 123, some 15), (123, 123, some 16), (123, 123, some 17), (123, 123, some 19), (130, 130, none), (131, 131, none)]) m m := fr.rf
  have z272 : 0 ≤ (m 123 12).toInt ∧ (m 123 12).toInt ≤ 160 := I 123 12
  have z273 : 0 ≤ (m 123 13).toInt ∧ (m 123 13).toInt ≤ 160 := I 123 13
  have z274 : 0 ≤ (m 123 16).toInt ∧ (m 123 16).toInt ≤ 180 := I 123 16
  have z275 : 0 ≤ (m 123 17).toInt ∧ (m 123 17).toInt ≤ 180 := I 123 17
  refine PM.of 2 (lo := [.ref 123, pv_U, pv_U]) rfl (by decide) rfl rfl (Nat.le_of_ble_eq_true rfl) ?_
  refine pv_aload_n (M := mX12_readsSum) 0 dX12_readsSum_0 1 rfl rfl rfl ?_
  refine iv_get (M := mX12_readsSum) (l1 := 0) (l2 := 180) dX12_readsSum_1 FX12 17 wd1190 (by decide) (tl123 hT) rfl I rfl 4 rfl (fun v1 ev1 pv1 qv1 => ?_)
  have wv1 : v1.toInt = (m 123 17).toInt := congrArg Int32.toInt ev1
  refine pv_istore_n (M := mX12_readsSum) 1 (lo2 := [.ref 123, .int v1, pv_U]) dX12_readsSum_4 5 rfl rfl (by decide) rfl rfl ?_
  refine pv_aload_n (M := mX12_readsSum) 0 dX12_readsSum_5 6 rfl rfl rfl ?_
  refine pv_callv (M := mX12_readsSum) (as := []) (st := []) (kc2 := 0) (ks2 := 0) dX12_readsSum_6 wd1429 YX12_readsFactor ⟨wd1431, wd63⟩ (mk_get (tl123 hT)) rfl rfl (s_X12_readsFactor g hT I cb c hp0 (by first | omega | assumption | exact (iv_rng _).2 | exact (iv_rng _).1 | decide) (by first | omega | assumption | exact (iv_rng _).2 | exact (iv_rng _).1 | decide) (by first | omega | assumption | exact (iv_rng _).2 | exact (iv_rng _).1 | decide)) rfl rfl (Nat.le_of_ble_eq_true rfl) (by decide) rfl rfl 9 rfl (fun rv h1 q2 => ?_)
  obtain ⟨m3, n4, v7, rfl, rfl, I5, K6, pv7, qv7, rv7⟩ := q2
  replace rv7 : v7.toInt = 0 ∨ RLs cb (c + 1) m m3 := rv7
  have K6c := K6
  have w8 : (m3 123 13).toInt = (m 123 13).toInt := congrArg Int32.toInt (K6 123 13 rfl)
  have K6 := Kp.trans (K6.sub (fun _ _ q => q))
  show PV _ _ _ _ _ _ _ 9 [.ref 123, .int v1, pv_U] [.int v7] _
  have kR := rv7
  refine pv_if_ne (M := mX12_readsSum) (tgt := 14) dX12_readsSum_9 12 rfl (by decide) (fun c10 => ?_) (fun c10 => ?_)
  · have c10 := iv_ne (X := v7.toInt) (Y := 0) c10 rfl (by decide)
    have lp16 : ∀ (fuel15 : Nat)  (m11 : Nat → Nat → Int32) (n12 : Nat → Nat → Int64), (v1.toInt = (m 123 17).toInt) → (RLs cb (c + 1) m m11) → IV BB m11 → fr (wl [(123, 123, some 12), (123, 123, some 14), (123, 123, some 15), (123, 123, some 16), (123, 123, some 17), (123, 123, some 19), (130, 130, none), (131, 131, none)]) m m11 → ((160 - (m11 123 12).toInt) : Int).toNat < fuel15 → PV none g mX12_readsSum (sqI T BB (wl [(123, 123, some 12), (123, 123, some 14), (123, 123, some 15), (123, 123, some 16), (123, 123, some 17), (123, 123, some 19), (130, 130, none), (131, 131, none)]) r m 0 1 (fun m' v => v.toInt = 0 ∨ RS cb (c + 1) m m')) 5 0 0 14 [.ref 123, .int v1, pv_U] [] (mk T m11 n12 r) := by
      intro fuel15
      induction fuel15 with
      | zero => intro  m11 n12 b18 b19 I13 K14 z20; omega
      | succ fuel15 ih17 =>
        intro  m11 n12 b18 b19 I13 K14 z20
        have z21 : 0 ≤ (m11 123 12).toInt ∧ (m11 123 12).toInt ≤ 160 := I13 123 12
        have z22 : 0 ≤ (m11 123 13).toInt ∧ (m11 123 13).toInt ≤ 160 := I13 123 13
        have z23 : 0 ≤ (m11 123 16).toInt ∧ (m11 123 16).toInt ≤ 180 := I13 123 16
        have z24 : 0 ≤ (m11 123 17).toInt ∧ (m11 123 17).toInt ≤ 180 := I13 123 17
        have kg := (show RLs cb (c + 1) m m11 by assumption)
        have kg2 := kg.2.2.2.2.1
        have kg3 := kg.2.2.2.2.2.2.2.2.1
        have kg4 := kg.2.2.2.2.2.2.2.2.2
        have kg5 : (m11 123 16).toInt ≤ (m11 123 12).toInt := SLK_cm (m := m11) (by have := kg.2.1; omega)
        have kg6 := kg.2.2.2.1
        have kg7 := kg.2.1
        have kg8 := kg.2.2.2.2.2.2.2.1
        refine pv_aload_n (M := mX12_readsSum) 0 dX12_readsSum_14 15 rfl rfl rfl ?_
        refine pv_callv (M := mX12_readsSum) (as := []) (st := []) (kc2 := 0) (ks2 := 0) dX12_readsSum_15 wd1417 YX12_here ⟨wd1419, wd60⟩ (mk_get (tl123 hT)) rfl rfl (s_X12_here g hT I13) rfl rfl (Nat.le_of_ble_eq_true rfl) (by decide) rfl rfl 18 rfl (fun rv h1 q33 => ?_)
        obtain ⟨v34, rfl, rfl, pv34, qv34, rv34⟩ := q33
        replace rv34 : v34.toInt = hereV m11 ∧ (v34.toInt = -1 ∨ (m11 123 12).toInt < (m11 123 13).toInt) := rv34
        show PV _ _ _ _ _ _ _ 18 [.ref 123, .int v1, pv_U] [.int v34] _
        refine pv_calls (M := mX12_readsSum) (as := [.int v34]) (st := []) (kc2 := 0) (ks2 := 0) dX12_readsSum_18 wd1453 YX12_sumSign wd1454 (s_X12_sumSign g hT I13 v34) rfl rfl (Nat.le_of_ble_eq_true rfl) (by decide) rfl rfl 21 rfl (fun rv h1 q35 => ?_)
        obtain ⟨v36, rfl, rfl, pv36, qv36, rv36⟩ := q35
        replace rv36 : v36.toInt = -1 ∨ (2 ≤ v36.toInt ∧ 0 ≤ v34.toInt) := rv36
        show PV _ _ _ _ _ _ _ 21 [.ref 123, .int v1, pv_U] [.int v36] _
        refine pv_istore_n (M := mX12_readsSum) 2 (lo2 := [.ref 123, .int v1, .int v36]) dX12_readsSum_21 22 rfl rfl (by decide) rfl rfl ?_
        refine pv_iload_n (M := mX12_readsSum) 2 dX12_readsSum_22 23 rfl rfl rfl ?_
        refine pv_iconst (M := mX12_readsSum) (v := (-1)) dX12_readsSum_23 24 rfl (by decide) ?_
        refine pv_icmp_eq (M := mX12_readsSum) (tgt := 83) dX12_readsSum_24 27 rfl (by decide) (fun c37 => ?_) (fun c37 => ?_)
        · have c37 := iv_eq (X := v36.toInt) (Y := (-1)) c37 rfl (by decide)
          refine pv_aload_n (M := mX12_readsSum) 0 dX12_readsSum_83 84 rfl rfl rfl ?_
          refine pv_callv (M := mX12_readsSum) (as := []) (st := []) (kc2 := 0) (ks2 := 0) dX12_readsSum_84 wd1417 YX12_here ⟨wd1419, wd60⟩ (mk_get (tl123 hT)) rfl rfl (s_X12_here g hT I13) rfl rfl (Nat.le_of_ble_eq_true rfl) (by decide) rfl rfl 87 rfl (fun rv h1 q38 => ?_)
          obtain ⟨v39, rfl, rfl, pv39, qv39, rv39⟩ := q38
          replace rv39 : v39.toInt = hereV m11 ∧ (v39.toInt = -1 ∨ (m11 123 12).toInt < (m11 123 13).toInt) := rv39
          show PV _ _ _ _ _ _ _ 87 [.ref 123, .int v1, .int v36] [.int v39] _
          refine pv_bipush (M := mX12_readsSum) (v := 93) dX12_readsSum_87 89 rfl (by decide) ?_
          refine pv_icmp_ne (M := mX12_readsSum) (tgt := 138) dX12_readsSum_89 92 rfl (by decide) (fun c40 => ?_) (fun c40 => ?_)
          · have c40 := iv_ne (X := v39.toInt) (Y := 93) c40 rfl (by decide)
            refine pv_aload_n (M := mX12_readsSum) 0 dX12_readsSum_138 139 rfl rfl rfl ?_
            refine pv_iload_n (M := mX12_readsSum) 1 dX12_readsSum_139 140 rfl rfl rfl ?_
            refine pv_callv (M := mX12_readsSum) (as := [.int v1]) (st := []) (kc2 := 0) (ks2 := 0) dX12_readsSum_140 wd1464 YX12_hasOpenSum ⟨wd1466, wd70⟩ (mk_get (tl123 hT)) rfl rfl (s_X12_hasOpenSum g hT I13 v1 (by omega) (by omega)) rfl rfl (Nat.le_of_ble_eq_true rfl) (by decide) rfl rfl 143 rfl (fun rv h1 q41 => ?_)
            obtain ⟨v42, rfl, rfl, pv42, qv42, rv42⟩ := q41
            replace rv42 : (v42.toInt = 1 ∧ ∃ j : Nat, v1.toInt ≤ j ∧ (j : Int) < (m11 123 17).toInt ∧ opv (m11 131 j) = 14) ∨ (v42.toInt = 0 ∧ ∀ j : Nat, v1.toInt ≤ j → (j : Int) < (m11 123 17).toInt → opv (m11 131 j) ≠ 14) := rv42
            show PV _ _ _ _ _ _ _ 143 [.ref 123, .int v1, .int v36] [.int v42] _
            have kH2 := rv42
            refine pv_if_eq (M := mX12_readsSum) (tgt := 156) dX12_readsSum_143 146 rfl (by decide) (fun c44 => ?_) (fun c44 => ?_)
            · have c44 := iv_eq (X := v42.toInt) (Y := 0) c44 rfl (by decide)
              refine pv_aload_n (M := mX12_readsSum) 0 dX12_readsSum_156 157 rfl rfl rfl ?_
              refine pv_iconst (M := mX12_readsSum) (v := 1) dX12_readsSum_157 158 rfl (by decide) ?_
              have z45 : (1 : Int32).toInt = 1 := by decide
              refine pv_callv (M := mX12_readsSum) (as := [.int 1]) (st := []) (kc2 := 0) (ks2 := 0) dX12_readsSum_158 wd1456 YX12_closesSums ⟨wd1458, wd68⟩ (mk_get (tl123 hT)) rfl rfl (s_X12_closesSums g hT I13 1 (by decide) (by decide) cb (c + 1) kg.1 (by omega) (by have := kg.2.1; omega)) rfl rfl (Nat.le_of_ble_eq_true rfl) (by decide) rfl rfl 161 rfl (fun rv h1 q46 => ?_)
              obtain ⟨m47, n48, rfl, rfl, I49, K50, rm47⟩ := q46
              replace rm47 : CSI cb (c + 1) m11 m47 ∧ ((1 : Int) ≠ 0 → (m47 123 17).toInt = 0 ∨ ¬ (2 ≤ opv (m47 131 ((m47 123 17).toInt - 1).toNat) ∧ opv (m47 131 ((m47 123 17).toInt - 1).toNat) ≤ 6)) := by have q_ := rm47; (try rw [z45] at q_); exact q_
              have K50c := K50
              have w51 : (m47 123 12).toInt = (m11 123 12).toInt := congrArg Int32.toInt (K50 123 12 rfl)
              have w52 : (m47 123 13).toInt = (m11 123 13).toInt := congrArg Int32.toInt (K50 123 13 rfl)
              have K50 := K14.trans (K50.sub (wl_sub (by decide)))
              show PV _ _ _ _ _ _ _ 161 [.ref 123, .int v1, .int v36] [] _
              have kC := rm47
              have kL := RLs.cls kg hp5 (by omega) kC.1 (K50c 123 12 rfl) (K50c 123 13 rfl)
              have kL2 := kL.2.2.2.2.1
              have kL3 := kL.2.2.2.1
              have kL4 := kL.2.1
              have kZ := RLs.fin kg kL (by omega) kC.1 (fun j a b => (kH2.resolve_left (fun q => by have := q.1; omega)).2 j (by omega) b) (kC.2 (by decide))
              refine pv_iconst (M := mX12_readsSum) (v := 1) dX12_readsSum_161 162 rfl (by decide) ?_
              have z59 : (1 : Int32).toInt = 1 := by decide
              exact pv_iret (M := mX12_readsSum) dX12_readsSum_162 rfl rfl ⟨_, _, _, rfl, rfl, I49, K50, by decide, by decide, (Or.inr kZ)⟩
            · have c44 := iv_ne (X := v42.toInt) (Y := 0) c44 rfl (by decide)
              refine pv_aload_n (M := mX12_readsSum) 0 dX12_readsSum_146 147 rfl rfl rfl ?_
              refine pv_iconst (M := mX12_readsSum) (v := 1) dX12_readsSum_147 148 rfl (by decide) ?_
              refine pv_aload_n (M := mX12_readsSum) 0 dX12_readsSum_148 149 rfl rfl rfl ?_
              refine iv_get (M := mX12_readsSum) (l1 := 0) (l2 := 160) dX12_readsSum_149 FX12 12 wd1185 (by decide) (tl123 hT) rfl I13 rfl 152 rfl (fun v60 ev60 pv60 qv60 => ?_)
              have wv60 : v60.toInt = (m11 123 12).toInt := congrArg Int32.toInt ev60
              refine pv_callv (M := mX12_readsSum) (as := [.int 1, .int v60]) (st := []) (kc2 := 0) (ks2 := 0) dX12_readsSum_152 wd1421 YX12_wrongAt ⟨wd1423, wd61⟩ (mk_get (tl123 hT)) rfl rfl (s_X12_wrongAt g hT I13 1 (by decide) (by decide) v60 (by omega) (by omega)) rfl rfl (Nat.le_of_ble_eq_true rfl) (by decide) rfl rfl 155 rfl (fun rv h1 q61 => ?_)
              obtain ⟨m62, n63, v66, rfl, rfl, I64, K65, pv66, qv66, rv66⟩ := q61
              have K65c := K65
              have w67 : (m62 123 12).toInt = (m11 123 12).toInt := congrArg Int32.toInt (K65 123 12 rfl)
              have w68 : (m62 123 13).toInt = (m11 123 13).toInt := congrArg Int32.toInt (K65 123 13 rfl)
              have w69 : (m62 123 16).toInt = (m11 123 16).toInt := congrArg Int32.toInt (K65 123 16 rfl)
              have w70 : (m62 123 17).toInt = (m11 123 17).toInt := congrArg Int32.toInt (K65 123 17 rfl)
              have K65 := K14.trans (K65.sub (wl_sub (by decide)))
              show PV _ _ _ _ _ _ _ 155 [.ref 123, .int v1, .int v36] [.int v66] _
              exact pv_iret (M := mX12_readsSum) dX12_readsSum_155 rfl (iv_nz (by omega) (by omega)) ⟨_, _, _, rfl, rfl, I64, K65, by omega, by omega, (Or.inl (by omega))⟩
          · have c40 := iv_eq (X := v39.toInt) (Y := 93) c40 rfl (by decide)
            refine pv_aload_n (M := mX12_readsSum) 0 dX12_readsSum_92 93 rfl rfl rfl ?_
            refine pv_iload_n (M := mX12_readsSum) 1 dX12_readsSum_93 94 rfl rfl rfl ?_
            refine pv_callv (M := mX12_readsSum) (as := [.int v1]) (st := []) (kc2 := 0) (ks2 := 0) dX12_readsSum_94 wd1464 YX12_hasOpenSum ⟨wd1466, wd70⟩ (mk_get (tl123 hT)) rfl rfl (s_X12_hasOpenSum g hT I13 v1 (by omega) (by omega)) rfl rfl (Nat.le_of_ble_eq_true rfl) (by decide) rfl rfl 97 rfl (fun rv h1 q71 => ?_)
            obtain ⟨v72, rfl, rfl, pv72, qv72, rv72⟩ := q71
            replace rv72 : (v72.toInt = 1 ∧ ∃ j : Nat, v1.toInt ≤ j ∧ (j : Int) < (m11 123 17).toInt ∧ opv (m11 131 j) = 14) ∨ (v72.toInt = 0 ∧ ∀ j : Nat, v1.toInt ≤ j → (j : Int) < (m11 123 17).toInt → opv (m11 131 j) ≠ 14) := rv72
            show PV _ _ _ _ _ _ _ 97 [.ref 123, .int v1, .int v36] [.int v72] _
            have kH := rv72
            refine pv_if_eq (M := mX12_readsSum) (tgt := 138) dX12_readsSum_97 100 rfl (by decide) (fun c74 => ?_) (fun c74 => ?_)
            · have c74 := iv_eq (X := v72.toInt) (Y := 0) c74 rfl (by decide)
              refine pv_aload_n (M := mX12_readsSum) 0 dX12_readsSum_138 139 rfl rfl rfl ?_
              refine pv_iload_n (M := mX12_readsSum) 1 dX12_readsSum_139 140 rfl rfl rfl ?_
              refine pv_callv (M := mX12_readsSum) (as := [.int v1]) (st := []) (kc2 := 0) (ks2 := 0) dX12_readsSum_140 wd1464 YX12_hasOpenSum ⟨wd1466, wd70⟩ (mk_get (tl123 hT)) rfl rfl (s_X12_hasOpenSum g hT I13 v1 (by omega) (by omega)) rfl rfl (Nat.le_of_ble_eq_true rfl) (by decide) rfl rfl 143 rfl (fun rv h1 q75 => ?_)
              obtain ⟨v76, rfl, rfl, pv76, qv76, rv76⟩ := q75
              replace rv76 : (v76.toInt = 1 ∧ ∃ j : Nat, v1.toInt ≤ j ∧ (j : Int) < (m11 123 17).toInt ∧ opv (m11 131 j) = 14) ∨ (v76.toInt = 0 ∧ ∀ j : Nat, v1.toInt ≤ j → (j : Int) < (m11 123 17).toInt → opv (m11 131 j) ≠ 14) := rv76
              show PV _ _ _ _ _ _ _ 143 [.ref 123, .int v1, .int v36] [.int v76] _
              have kH2 := rv76
              refine pv_if_eq (M := mX12_readsSum) (tgt := 156) dX12_readsSum_143 146 rfl (by decide) (fun c78 => ?_) (fun c78 => ?_)
              · have c78 := iv_eq (X := v76.toInt) (Y := 0) c78 rfl (by decide)
                refine pv_aload_n (M := mX12_readsSum) 0 dX12_readsSum_156 157 rfl rfl rfl ?_
                refine pv_iconst (M := mX12_readsSum) (v := 1) dX12_readsSum_157 158 rfl (by decide) ?_
                have z79 : (1 : Int32).toInt = 1 := by decide
                refine pv_callv (M := mX12_readsSum) (as := [.int 1]) (st := []) (kc2 := 0) (ks2 := 0) dX12_readsSum_158 wd1456 YX12_closesSums ⟨wd1458, wd68⟩ (mk_get (tl123 hT)) rfl rfl (s_X12_closesSums g hT I13 1 (by decide) (by decide) cb (c + 1) kg.1 (by omega) (by have := kg.2.1; omega)) rfl rfl (Nat.le_of_ble_eq_true rfl) (by decide) rfl rfl 161 rfl (fun rv h1 q80 => ?_)
                obtain ⟨m81, n82, rfl, rfl, I83, K84, rm81⟩ := q80
                replace rm81 : CSI cb (c + 1) m11 m81 ∧ ((1 : Int) ≠ 0 → (m81 123 17).toInt = 0 ∨ ¬ (2 ≤ opv (m81 131 ((m81 123 17).toInt - 1).toNat) ∧ opv (m81 131 ((m81 123 17).toInt - 1).toNat) ≤ 6)) := by have q_ := rm81; (try rw [z79] at q_); exact q_
                have K84c := K84
                have w85 : (m81 123 12).toInt = (m11 123 12).toInt := congrArg Int32.toInt (K84 123 12 rfl)
                have w86 : (m81 123 13).toInt = (m11 123 13).toInt := congrArg Int32.toInt (K84 123 13 rfl)
                have K84 := K14.trans (K84.sub (wl_sub (by decide)))
                show PV _ _ _ _ _ _ _ 161 [.ref 123, .int v1, .int v36] [] _
                have kC := rm81
                have kL := RLs.cls kg hp5 (by omega) kC.1 (K84c 123 12 rfl) (K84c 123 13 rfl)
                have kL2 := kL.2.2.2.2.1
                have kL3 := kL.2.2.2.1
                have kL4 := kL.2.1
                have kZ := RLs.fin kg kL (by omega) kC.1 (fun j a b => (kH2.resolve_left (fun q => by have := q.1; omega)).2 j (by omega) b) (kC.2 (by decide))
                refine pv_iconst (M := mX12_readsSum) (v := 1) dX12_readsSum_161 162 rfl (by decide) ?_
                have z93 : (1 : Int32).toInt = 1 := by decide
                exact pv_iret (M := mX12_readsSum) dX12_readsSum_162 rfl rfl ⟨_, _, _, rfl, rfl, I83, K84, by decide, by decide, (Or.inr kZ)⟩
              · have c78 := iv_ne (X := v76.toInt) (Y := 0) c78 rfl (by decide)
                refine pv_aload_n (M := mX12_readsSum) 0 dX12_readsSum_146 147 rfl rfl rfl ?_
                refine pv_iconst (M := mX12_readsSum) (v := 1) dX12_readsSum_147 148 rfl (by decide) ?_
                refine pv_aload_n (M := mX12_readsSum) 0 dX12_readsSum_148 149 rfl rfl rfl ?_
                refine iv_get (M := mX12_readsSum) (l1 := 0) (l2 := 160) dX12_readsSum_149 FX12 12 wd1185 (by decide) (tl123 hT) rfl I13 rfl 152 rfl (fun v94 ev94 pv94 qv94 => ?_)
                have wv94 : v94.toInt = (m11 123 12).toInt := congrArg Int32.toInt ev94
                refine pv_callv (M := mX12_readsSum) (as := [.int 1, .int v94]) (st := []) (kc2 := 0) (ks2 := 0) dX12_readsSum_152 wd1421 YX12_wrongAt ⟨wd1423, wd61⟩ (mk_get (tl123 hT)) rfl rfl (s_X12_wrongAt g hT I13 1 (by decide) (by decide) v94 (by omega) (by omega)) rfl rfl (Nat.le_of_ble_eq_true rfl) (by decide) rfl rfl 155 rfl (fun rv h1 q95 => ?_)
                obtain ⟨m96, n97, v100, rfl, rfl, I98, K99, pv100, qv100, rv100⟩ := q95
                have K99c := K99
                have w101 : (m96 123 12).toInt = (m11 123 12).toInt := congrArg Int32.toInt (K99 123 12 rfl)
                have w102 : (m96 123 13).toInt = (m11 123 13).toInt := congrArg Int32.toInt (K99 123 13 rfl)
                have w103 : (m96 123 16).toInt = (m11 123 16).toInt := congrArg Int32.toInt (K99 123 16 rfl)
                have w104 : (m96 123 17).toInt = (m11 123 17).toInt := congrArg Int32.toInt (K99 123 17 rfl)
                have K99 := K14.trans (K99.sub (wl_sub (by decide)))
                show PV _ _ _ _ _ _ _ 155 [.ref 123, .int v1, .int v36] [.int v100] _
                exact pv_iret (M := mX12_readsSum) dX12_readsSum_155 rfl (iv_nz (by omega) (by omega)) ⟨_, _, _, rfl, rfl, I98, K99, by omega, by omega, (Or.inl (by omega))⟩
            · have c74 := iv_ne (X := v72.toInt) (Y := 0) c74 rfl (by decide)
              refine pv_aload_n (M := mX12_readsSum) 0 dX12_readsSum_100 101 rfl rfl rfl ?_
              refine pv_iconst (M := mX12_readsSum) (v := 1) dX12_readsSum_101 102 rfl (by decide) ?_
              have z105 : (1 : Int32).toInt = 1 := by decide
              refine pv_callv (M := mX12_readsSum) (as := [.int 1]) (st := []) (kc2 := 0) (ks2 := 0) dX12_readsSum_102 wd1456 YX12_closesSums ⟨wd1458, wd68⟩ (mk_get (tl123 hT)) rfl rfl (s_X12_closesSums g hT I13 1 (by decide) (by decide) cb (c + 1) kg.1 (by omega) (by have := kg.2.1; omega)) rfl rfl (Nat.le_of_ble_eq_true rfl) (by decide) rfl rfl 105 rfl (fun rv h1 q106 => ?_)
              obtain ⟨m107, n108, rfl, rfl, I109, K110, rm107⟩ := q106
              replace rm107 : CSI cb (c + 1) m11 m107 ∧ ((1 : Int) ≠ 0 → (m107 123 17).toInt = 0 ∨ ¬ (2 ≤ opv (m107 131 ((m107 123 17).toInt - 1).toNat) ∧ opv (m107 131 ((m107 123 17).toInt - 1).toNat) ≤ 6)) := by have q_ := rm107; (try rw [z105] at q_); exact q_
              have K110c := K110
              have w111 : (m107 123 12).toInt = (m11 123 12).toInt := congrArg Int32.toInt (K110 123 12 rfl)
              have w112 : (m107 123 13).toInt = (m11 123 13).toInt := congrArg Int32.toInt (K110 123 13 rfl)
              have K110 := K14.trans (K110.sub (wl_sub (by decide)))
              show PV _ _ _ _ _ _ _ 105 [.ref 123, .int v1, .int v36] [] _
              have kC := rm107
              have kL := RLs.cls kg hp5 (by omega) kC.1 (K110c 123 12 rfl) (K110c 123 13 rfl)
              have kL2 := kL.2.2.2.2.1
              have kL3 := kL.2.2.2.1
              have kL4 := kL.2.1
              have kj := (kH.resolve_right (fun q => by have := q.1; omega)).2
              have kw : 1 ≤ (m107 123 17).toInt := by obtain ⟨j, j1, j2, j3⟩ := kj; have := kC.1.wt1 (j := j) (by omega) (by omega); omega
              refine pv_aload_n (M := mX12_readsSum) 0 dX12_readsSum_105 106 rfl rfl rfl ?_
              refine pv_aload_n (M := mX12_readsSum) 0 dX12_readsSum_106 107 rfl rfl rfl ?_
              refine iv_get (M := mX12_readsSum) (l1 := 0) (l2 := 180) dX12_readsSum_107 FX12 17 wd1190 (by decide) (tl123 hT) rfl I109 rfl 110 rfl (fun v120 ev120 pv120 qv120 => ?_)
              have wv120 : v120.toInt = (m107 123 17).toInt := congrArg Int32.toInt ev120
              refine pv_iconst (M := mX12_readsSum) (v := 1) dX12_readsSum_110 111 rfl (by decide) ?_
              refine iv_isub (M := mX12_readsSum) (X := v120.toInt) (Y := 1) dX12_readsSum_111 112 rfl rfl (by decide) (by omega) (by omega) (fun v121 ev121 => ?_)
              refine iv_put (M := mX12_readsSum) (l1 := 0) (l2 := 180) dX12_readsSum_112 FX12 17 wd1190 (by decide) rfl (tl123 hT) rfl rfl rfl I109 rfl (by omega) (by omega) 115 rfl (fun m122 e125 I123 => ?_)
              have K124 := K110.set e125 rfl
              have w126 : (m122 123 12).toInt = (m107 123 12).toInt := by rw [e125, up2_ne (by omega)]
              have w127 : (m122 123 13).toInt = (m107 123 13).toInt := by rw [e125, up2_ne (by omega)]
              have w128 : (m122 123 16).toInt = (m107 123 16).toInt := by rw [e125, up2_ne (by omega)]
              have w129 : (m122 123 17).toInt = v121.toInt := by rw [e125, up2_eq]
              refine pv_aload_n (M := mX12_readsSum) 0 dX12_readsSum_115 116 rfl rfl rfl ?_
              refine pv_aload_n (M := mX12_readsSum) 0 dX12_readsSum_116 117 rfl rfl rfl ?_
              refine iv_get (M := mX12_readsSum) (l1 := (-2147483648)) (l2 := 2147483647) dX12_readsSum_117 FX12 15 wd1188 (by decide) (tl123 hT) rfl I123 rfl 120 rfl (fun v130 ev130 pv130 qv130 => ?_)
              refine pv_iconst (M := mX12_readsSum) (v := 1) dX12_readsSum_120 121 rfl (by decide) ?_
              refine iv_subU (M := mX12_readsSum) dX12_readsSum_121 122 rfl (fun v131 ev131 => ?_)
              refine iv_put (M := mX12_readsSum) (l1 := (-2147483648)) (l2 := 2147483647) dX12_readsSum_122 FX12 15 wd1188 (by decide) rfl (tl123 hT) rfl rfl rfl I123 rfl (iv_rng v131).1 (iv_rng v131).2 125 rfl (fun m132 e135 I133 => ?_)
              have K134 := K124.set e135 rfl
              have w136 : (m132 123 12).toInt = (m122 123 12).toInt := by rw [e135, up2_ne (by omega)]
              have w137 : (m132 123 13).toInt = (m122 123 13).toInt := by rw [e135, up2_ne (by omega)]
              have w138 : (m132 123 16).toInt = (m122 123 16).toInt := by rw [e135, up2_ne (by omega)]
              have w139 : (m132 123 17).toInt = (m122 123 17).toInt := by rw [e135, up2_ne (by omega)]
              refine pv_aload_n (M := mX12_readsSum) 0 dX12_readsSum_125 126 rfl rfl rfl ?_
              refine pv_aload_n (M := mX12_readsSum) 0 dX12_readsSum_126 127 rfl rfl rfl ?_
              refine iv_get (M := mX12_readsSum) (l1 := 0) (l2 := 160) dX12_readsSum_127 FX12 12 wd1185 (by decide) (tl123 hT) rfl I133 rfl 130 rfl (fun v140 ev140 pv140 qv140 => ?_)
              have wv140 : v140.toInt = (m132 123 12).toInt := congrArg Int32.toInt ev140
              refine pv_iconst (M := mX12_readsSum) (v := 1) dX12_readsSum_130 131 rfl (by decide) ?_
              refine iv_iadd (M := mX12_readsSum) (X := v140.toInt) (Y := 1) dX12_readsSum_131 132 rfl rfl (by decide) (by omega) (by omega) (fun v141 ev141 => ?_)
              refine iv_put (M := mX12_readsSum) (l1 := 0) (l2 := 160) dX12_readsSum_132 FX12 12 wd1185 (by decide) rfl (tl123 hT) rfl rfl rfl I133 rfl (by omega) (by omega) 135 rfl (fun m142 e145 I143 => ?_)
              have K144 := K134.set e145 rfl
              have w146 : (m142 123 12).toInt = v141.toInt := by rw [e145, up2_eq]
              have w147 : (m142 123 13).toInt = (m132 123 13).toInt := by rw [e145, up2_ne (by omega)]
              have w148 : (m142 123 16).toInt = (m132 123 16).toInt := by rw [e145, up2_ne (by omega)]
              have w149 : (m142 123 17).toInt = (m132 123 17).toInt := by rw [e145, up2_ne (by omega)]
              have kX := (RLs.close kg kL (by omega) kC.1 (by obtain ⟨j, j1, j2, j3⟩ := kj; exact ⟨j, by omega, j2, j3⟩) (kC.2 (by decide)) e125 (by omega) e135 e145 (by omega) (by omega)).1
              refine pv_goto (M := mX12_readsSum) (tgt := 163) dX12_readsSum_135 (by decide) ?_
              refine pv_goto (M := mX12_readsSum) (tgt := 14) dX12_readsSum_163 (by decide) ?_
              refine pv_fg (lo2 := [.ref 123, .int v1, pv_U]) ⟨Or.inr rfl, ⟨Or.inr rfl, ⟨Or.inl rfl, trivial⟩⟩⟩ ?_
              have krl : RLs cb (c + 1) m m142 := by first | exact kX | exact kS.trans (kR2.resolve_left (by omega))
              have kbk : (m11 123 12).toInt + 1 ≤ (m142 123 12).toInt := by first | omega | (have := (kR2.resolve_left (by omega)).2.2.2.2.2.2.2.1; omega)
              exact ih17  m142 n108 (by first | omega | assumption | (show v1.toInt = (m 123 17).toInt; omega) | decide) krl I143 K144 (by omega)
        · have c37 := iv_ne (X := v36.toInt) (Y := (-1)) c37 rfl (by decide)
          refine pv_aload_n (M := mX12_readsSum) 0 dX12_readsSum_27 28 rfl rfl rfl ?_
          refine pv_iload_n (M := mX12_readsSum) 2 dX12_readsSum_28 29 rfl rfl rfl ?_
          refine pv_iconst (M := mX12_readsSum) (v := 4) dX12_readsSum_29 30 rfl (by decide) ?_
          refine pv_icmp_ge (M := mX12_readsSum) (tgt := 37) dX12_readsSum_30 33 rfl (by decide) (fun c153 => ?_) (fun c153 => ?_)
          · have c153 := iv_le (X := 4) (Y := v36.toInt) c153 (by decide) rfl
            refine pv_iconst (M := mX12_readsSum) (v := 0) dX12_readsSum_37 38 rfl (by decide) ?_
            have z154 : (0 : Int32).toInt = 0 := by decide
            refine pv_callv (M := mX12_readsSum) (as := [.int 0]) (st := []) (kc2 := 0) (ks2 := 0) dX12_readsSum_38 wd1456 YX12_closesSums ⟨wd1458, wd68⟩ (mk_get (tl123 hT)) rfl rfl (s_X12_closesSums g hT I13 0 (by decide) (by decide) cb (c + 1) kg.1 (by omega) (by have := kg.2.1; omega)) rfl rfl (Nat.le_of_ble_eq_true rfl) (by decide) rfl rfl 41 rfl (fun rv h1 q155 => ?_)
            obtain ⟨m156, n157, rfl, rfl, I158, K159, rm156⟩ := q155
            replace rm156 : CSI cb (c + 1) m11 m156 ∧ ((0 : Int) ≠ 0 → (m156 123 17).toInt = 0 ∨ ¬ (2 ≤ opv (m156 131 ((m156 123 17).toInt - 1).toNat) ∧ opv (m156 131 ((m156 123 17).toInt - 1).toNat) ≤ 6)) := by have q_ := rm156; (try rw [z154] at q_); exact q_
            have K159c := K159
            have w160 : (m156 123 12).toInt = (m11 123 12).toInt := congrArg Int32.toInt (K159 123 12 rfl)
            have w161 : (m156 123 13).toInt = (m11 123 13).toInt := congrArg Int32.toInt (K159 123 13 rfl)
            have K159 := K14.trans (K159.sub (wl_sub (by decide)))
            show PV _ _ _ _ _ _ _ 41 [.ref 123, .int v1, .int v36] [] _
            have kC := rm156
            have kL := RLs.cls kg hp5 (by omega) kC.1 (K159c 123 12 rfl) (K159c 123 13 rfl)
            have kL2 := kL.2.2.2.2.1
            have kL3 := kL.2.2.2.1
            have kL4 := kL.2.1
            refine pv_aload_n (M := mX12_readsSum) 0 dX12_readsSum_41 42 rfl rfl rfl ?_
            refine mv_get (M := mX12_readsSum) (v := .ref 131) dX12_readsSum_42 FX12 22 wd1195 (by decide) (tl123 hT) rfl rfl 45 rfl ?_
            refine pv_aload_n (M := mX12_readsSum) 0 dX12_readsSum_45 46 rfl rfl rfl ?_
            refine iv_get (M := mX12_readsSum) (l1 := 0) (l2 := 180) dX12_readsSum_46 FX12 17 wd1190 (by decide) (tl123 hT) rfl I158 rfl 49 rfl (fun v167 ev167 pv167 qv167 => ?_)
            have wv167 : v167.toInt = (m156 123 17).toInt := congrArg Int32.toInt ev167
            refine pv_ldc (M := mX12_readsSum) (v := 1048576) dX12_readsSum_49 51 rfl wd1437 ?_
            refine pv_iload_n (M := mX12_readsSum) 2 dX12_readsSum_51 52 rfl rfl rfl ?_
            refine iv_imul (M := mX12_readsSum) (X := 1048576) (Y := v36.toInt) dX12_readsSum_52 53 rfl (by decide) rfl (by omega) (by omega) (fun v168 ev168 => ?_)
            refine iv_iast (M := mX12_readsSum) (X := v167.toInt) (l1 := 0) (l2 := 15728639) dX12_readsSum_53 (tl131 hT) rfl (by omega) (by omega) I158 (fun _ => rfl) (by omega) (by omega) 54 rfl (fun m169 e172 I170 => ?_)
            have K171 := K159.set e172 rfl
            have w173 : (m169 123 12).toInt = (m156 123 12).toInt := by rw [e172, up2_ne (by omega)]
            have w174 : (m169 123 13).toInt = (m156 123 13).toInt := by rw [e172, up2_ne (by omega)]
            have w175 : (m169 123 16).toInt = (m156 123 16).toInt := by rw [e172, up2_ne (by omega)]
            have w176 : (m169 123 17).toInt = (m156 123 17).toInt := by rw [e172, up2_ne (by omega)]
            have k54 := (e172).trans (up2_ix (j := (m156 123 17).toInt.toNat) (by omega))
            refine pv_aload_n (M := mX12_readsSum) 0 dX12_readsSum_54 55 rfl rfl rfl ?_
            refine pv_aload_n (M := mX12_readsSum) 0 dX12_readsSum_55 56 rfl rfl rfl ?_
            refine iv_get (M := mX12_readsSum) (l1 := 0) (l2 := 180) dX12_readsSum_56 FX12 17 wd1190 (by decide) (tl123 hT) rfl I170 rfl 59 rfl (fun v178 ev178 pv178 qv178 => ?_)
            have wv178 : v178.toInt = (m169 123 17).toInt := congrArg Int32.toInt ev178
            refine pv_iconst (M := mX12_readsSum) (v := 1) dX12_readsSum_59 60 rfl (by decide) ?_
            refine iv_iadd (M := mX12_readsSum) (X := v178.toInt) (Y := 1) dX12_readsSum_60 61 rfl rfl (by decide) (by omega) (by omega) (fun v179 ev179 => ?_)
            refine iv_put (M := mX12_readsSum) (l1 := 0) (l2 := 180) dX12_readsSum_61 FX12 17 wd1190 (by decide) rfl (tl123 hT) rfl rfl rfl I170 rfl (by omega) (by omega) 64 rfl (fun m180 e183 I181 => ?_)
            have K182 := K171.set e183 rfl
            have w184 : (m180 123 12).toInt = (m169 123 12).toInt := by rw [e183, up2_ne (by omega)]
            have w185 : (m180 123 13).toInt = (m169 123 13).toInt := by rw [e183, up2_ne (by omega)]
            have w186 : (m180 123 16).toInt = (m169 123 16).toInt := by rw [e183, up2_ne (by omega)]
            have w187 : (m180 123 17).toInt = v179.toInt := by rw [e183, up2_eq]
            refine pv_aload_n (M := mX12_readsSum) 0 dX12_readsSum_64 65 rfl rfl rfl ?_
            refine pv_aload_n (M := mX12_readsSum) 0 dX12_readsSum_65 66 rfl rfl rfl ?_
            refine iv_get (M := mX12_readsSum) (l1 := 0) (l2 := 160) dX12_readsSum_66 FX12 12 wd1185 (by decide) (tl123 hT) rfl I181 rfl 69 rfl (fun v188 ev188 pv188 qv188 => ?_)
            have wv188 : v188.toInt = (m180 123 12).toInt := congrArg Int32.toInt ev188
            refine pv_iconst (M := mX12_readsSum) (v := 1) dX12_readsSum_69 70 rfl (by decide) ?_
            refine iv_iadd (M := mX12_readsSum) (X := v188.toInt) (Y := 1) dX12_readsSum_70 71 rfl rfl (by decide) (by omega) (by omega) (fun v189 ev189 => ?_)
            refine iv_put (M := mX12_readsSum) (l1 := 0) (l2 := 160) dX12_readsSum_71 FX12 12 wd1185 (by decide) rfl (tl123 hT) rfl rfl rfl I181 rfl (by omega) (by omega) 74 rfl (fun m190 e193 I191 => ?_)
            have K192 := K182.set e193 rfl
            have w194 : (m190 123 12).toInt = v189.toInt := by rw [e193, up2_eq]
            have w195 : (m190 123 13).toInt = (m180 123 13).toInt := by rw [e193, up2_ne (by omega)]
            have w196 : (m190 123 16).toInt = (m180 123 16).toInt := by rw [e193, up2_ne (by omega)]
            have w197 : (m190 123 17).toInt = (m180 123 17).toInt := by rw [e193, up2_ne (by omega)]
            have kS := RLs.sign (s := v36.toInt) kL (by omega) (by omega) (by omega) k54 (by omega) e183 (by omega) e193 (by omega) (by omega)
            have kS1 : HW cb c m190 := by have q := kS.1; rw [show c + 1 - 1 = c by omega] at q; exact q
            refine pv_aload_n (M := mX12_readsSum) 0 dX12_readsSum_74 75 rfl rfl rfl ?_
            refine pv_callv (M := mX12_readsSum) (as := []) (st := []) (kc2 := 0) (ks2 := 0) dX12_readsSum_75 wd1429 YX12_readsFactor ⟨wd1431, wd63⟩ (mk_get (tl123 hT)) rfl rfl (s_X12_readsFactor g hT I191 cb c kS1 (by have := kS.2.1; omega) (by omega) (by omega)) rfl rfl (Nat.le_of_ble_eq_true rfl) (by decide) rfl rfl 78 rfl (fun rv h1 q200 => ?_)
            obtain ⟨m201, n202, v205, rfl, rfl, I203, K204, pv205, qv205, rv205⟩ := q200
            replace rv205 : v205.toInt = 0 ∨ RLs cb (c + 1) m190 m201 := rv205
            have K204c := K204
            have w206 : (m201 123 13).toInt = (m190 123 13).toInt := congrArg Int32.toInt (K204 123 13 rfl)
            have K204 := K192.trans (K204.sub (fun _ _ q => q))
            show PV _ _ _ _ _ _ _ 78 [.ref 123, .int v1, .int v36] [.int v205] _
            have kR2 := rv205
            refine pv_if_ne (M := mX12_readsSum) (tgt := 163) dX12_readsSum_78 81 rfl (by decide) (fun c208 => ?_) (fun c208 => ?_)
            · have c208 := iv_ne (X := v205.toInt) (Y := 0) c208 rfl (by decide)
              refine pv_goto (M := mX12_readsSum) (tgt := 14) dX12_readsSum_163 (by decide) ?_
              refine pv_fg (lo2 := [.ref 123, .int v1, pv_U]) ⟨Or.inr rfl, ⟨Or.inr rfl, ⟨Or.inl rfl, trivial⟩⟩⟩ ?_
              have krl : RLs cb (c + 1) m m201 := by first | exact kX | exact kS.trans (kR2.resolve_left (by omega))
              have kbk : (m11 123 12).toInt + 1 ≤ (m201 123 12).toInt := by first | omega | (have := (kR2.resolve_left (by omega)).2.2.2.2.2.2.2.1; omega)
              exact ih17  m201 n202 (by first | omega | assumption | (show v1.toInt = (m 123 17).toInt; omega) | decide) krl I203 K204 (by omega)
            · have c208 := iv_eq (X := v205.toInt) (Y := 0) c208 rfl (by decide)
              refine pv_iconst (M := mX12_readsSum) (v := 0) dX12_readsSum_81 82 rfl (by decide) ?_
              have z211 : (0 : Int32).toInt = 0 := by decide
              exact pv_iret (M := mX12_readsSum) dX12_readsSum_82 rfl rfl ⟨_, _, _, rfl, rfl, I203, K204, by decide, by decide, (Or.inl (by decide))⟩
          · have c153 := iv_nle (X := 4) (Y := v36.toInt) c153 (by decide) rfl
            refine pv_iconst (M := mX12_readsSum) (v := 1) dX12_readsSum_33 34 rfl (by decide) ?_
            refine pv_goto (M := mX12_readsSum) (tgt := 38) dX12_readsSum_34 (by decide) ?_
            have z212 : (1 : Int32).toInt = 1 := by decide
            refine pv_callv (M := mX12_readsSum) (as := [.int 1]) (st := []) (kc2 := 0) (ks2 := 0) dX12_readsSum_38 wd1456 YX12_closesSums ⟨wd1458, wd68⟩ (mk_get (tl123 hT)) rfl rfl (s_X12_closesSums g hT I13 1 (by decide) (by decide) cb (c + 1) kg.1 (by omega) (by have := kg.2.1; omega)) rfl rfl (Nat.le_of_ble_eq_true rfl) (by decide) rfl rfl 41 rfl (fun rv h1 q213 => ?_)
            obtain ⟨m214, n215, rfl, rfl, I216, K217, rm214⟩ := q213
            replace rm214 : CSI cb (c + 1) m11 m214 ∧ ((1 : Int) ≠ 0 → (m214 123 17).toInt = 0 ∨ ¬ (2 ≤ opv (m214 131 ((m214 123 17).toInt - 1).toNat) ∧ opv (m214 131 ((m214 123 17).toInt - 1).toNat) ≤ 6)) := by have q_ := rm214; (try rw [z212] at q_); exact q_
            have K217c := K217
            have w218 : (m214 123 12).toInt = (m11 123 12).toInt := congrArg Int32.toInt (K217 123 12 rfl)
            have w219 : (m214 123 13).toInt = (m11 123 13).toInt := congrArg Int32.toInt (K217 123 13 rfl)
            have K217 := K14.trans (K217.sub (wl_sub (by decide)))
            show PV _ _ _ _ _ _ _ 41 [.ref 123, .int v1, .int v36] [] _
            have kC := rm214
            have kL := RLs.cls kg hp5 (by omega) kC.1 (K217c 123 12 rfl) (K217c 123 13 rfl)
            have kL2 := kL.2.2.2.2.1
            have kL3 := kL.2.2.2.1
            have kL4 := kL.2.1
            refine pv_aload_n (M := mX12_readsSum) 0 dX12_readsSum_41 42 rfl rfl rfl ?_
            refine mv_get (M := mX12_readsSum) (v := .ref 131) dX12_readsSum_42 FX12 22 wd1195 (by decide) (tl123 hT) rfl rfl 45 rfl ?_
            refine pv_aload_n (M := mX12_readsSum) 0 dX12_readsSum_45 46 rfl rfl rfl ?_
            refine iv_get (M := mX12_readsSum) (l1 := 0) (l2 := 180) dX12_readsSum_46 FX12 17 wd1190 (by decide) (tl123 hT) rfl I216 rfl 49 rfl (fun v225 ev225 pv225 qv225 => ?_)
            have wv225 : v225.toInt = (m214 123 17).toInt := congrArg Int32.toInt ev225
            refine pv_ldc (M := mX12_readsSum) (v := 1048576) dX12_readsSum_49 51 rfl wd1437 ?_
            refine pv_iload_n (M := mX12_readsSum) 2 dX12_readsSum_51 52 rfl rfl rfl ?_
            refine iv_imul (M := mX12_readsSum) (X := 1048576) (Y := v36.toInt) dX12_readsSum_52 53 rfl (by decide) rfl (by omega) (by omega) (fun v226 ev226 => ?_)
            refine iv_iast (M := mX12_readsSum) (X := v225.toInt) (l1 := 0) (l2 := 15728639) dX12_readsSum_53 (tl131 hT) rfl (by omega) (by omega) I216 (fun _ => rfl) (by omega) (by omega) 54 rfl (fun m227 e230 I228 => ?_)
            have K229 := K217.set e230 rfl
            have w231 : (m227 123 12).toInt = (m214 123 12).toInt := by rw [e230, up2_ne (by omega)]
            have w232 : (m227 123 13).toInt = (m214 123 13).toInt := by rw [e230, up2_ne (by omega)]
            have w233 : (m227 123 16).toInt = (m214 123 16).toInt := by rw [e230, up2_ne (by omega)]
            have w234 : (m227 123 17).toInt = (m214 123 17).toInt := by rw [e230, up2_ne (by omega)]
            have k54 := (e230).trans (up2_ix (j := (m214 123 17).toInt.toNat) (by omega))
            refine pv_aload_n (M := mX12_readsSum) 0 dX12_readsSum_54 55 rfl rfl rfl ?_
            refine pv_aload_n (M := mX12_readsSum) 0 dX12_readsSum_55 56 rfl rfl rfl ?_
            refine iv_get (M := mX12_readsSum) (l1 := 0) (l2 := 180) dX12_readsSum_56 FX12 17 wd1190 (by decide) (tl123 hT) rfl I228 rfl 59 rfl (fun v236 ev236 pv236 qv236 => ?_)
            have wv236 : v236.toInt = (m227 123 17).toInt := congrArg Int32.toInt ev236
            refine pv_iconst (M := mX12_readsSum) (v := 1) dX12_readsSum_59 60 rfl (by decide) ?_
            refine iv_iadd (M := mX12_readsSum) (X := v236.toInt) (Y := 1) dX12_readsSum_60 61 rfl rfl (by decide) (by omega) (by omega) (fun v237 ev237 => ?_)
            refine iv_put (M := mX12_readsSum) (l1 := 0) (l2 := 180) dX12_readsSum_61 FX12 17 wd1190 (by decide) rfl (tl123 hT) rfl rfl rfl I228 rfl (by omega) (by omega) 64 rfl (fun m238 e241 I239 => ?_)
            have K240 := K229.set e241 rfl
            have w242 : (m238 123 12).toInt = (m227 123 12).toInt := by rw [e241, up2_ne (by omega)]
            have w243 : (m238 123 13).toInt = (m227 123 13).toInt := by rw [e241, up2_ne (by omega)]
            have w244 : (m238 123 16).toInt = (m227 123 16).toInt := by rw [e241, up2_ne (by omega)]
            have w245 : (m238 123 17).toInt = v237.toInt := by rw [e241, up2_eq]
            refine pv_aload_n (M := mX12_readsSum) 0 dX12_readsSum_64 65 rfl rfl rfl ?_
            refine pv_aload_n (M := mX12_readsSum) 0 dX12_readsSum_65 66 rfl rfl rfl ?_
            refine iv_get (M := mX12_readsSum) (l1 := 0) (l2 := 160) dX12_readsSum_66 FX12 12 wd1185 (by decide) (tl123 hT) rfl I239 rfl 69 rfl (fun v246 ev246 pv246 qv246 => ?_)
            have wv246 : v246.toInt = (m238 123 12).toInt := congrArg Int32.toInt ev246
            refine pv_iconst (M := mX12_readsSum) (v := 1) dX12_readsSum_69 70 rfl (by decide) ?_
            refine iv_iadd (M := mX12_readsSum) (X := v246.toInt) (Y := 1) dX12_readsSum_70 71 rfl rfl (by decide) (by omega) (by omega) (fun v247 ev247 => ?_)
            refine iv_put (M := mX12_readsSum) (l1 := 0) (l2 := 160) dX12_readsSum_71 FX12 12 wd1185 (by decide) rfl (tl123 hT) rfl rfl rfl I239 rfl (by omega) (by omega) 74 rfl (fun m248 e251 I249 => ?_)
            have K250 := K240.set e251 rfl
            have w252 : (m248 123 12).toInt = v247.toInt := by rw [e251, up2_eq]
            have w253 : (m248 123 13).toInt = (m238 123 13).toInt := by rw [e251, up2_ne (by omega)]
            have w254 : (m248 123 16).toInt = (m238 123 16).toInt := by rw [e251, up2_ne (by omega)]
            have w255 : (m248 123 17).toInt = (m238 123 17).toInt := by rw [e251, up2_ne (by omega)]
            have kS := RLs.sign (s := v36.toInt) kL (by omega) (by omega) (by omega) k54 (by omega) e241 (by omega) e251 (by omega) (by omega)
            have kS1 : HW cb c m248 := by have q := kS.1; rw [show c + 1 - 1 = c by omega] at q; exact q
            refine pv_aload_n (M := mX12_readsSum) 0 dX12_readsSum_74 75 rfl rfl rfl ?_
            refine pv_callv (M := mX12_readsSum) (as := []) (st := []) (kc2 := 0) (ks2 := 0) dX12_readsSum_75 wd1429 YX12_readsFactor ⟨wd1431, wd63⟩ (mk_get (tl123 hT)) rfl rfl (s_X12_readsFactor g hT I249 cb c kS1 (by have := kS.2.1; omega) (by omega) (by omega)) rfl rfl (Nat.le_of_ble_eq_true rfl) (by decide) rfl rfl 78 rfl (fun rv h1 q258 => ?_)
            obtain ⟨m259, n260, v263, rfl, rfl, I261, K262, pv263, qv263, rv263⟩ := q258
            replace rv263 : v263.toInt = 0 ∨ RLs cb (c + 1) m248 m259 := rv263
            have K262c := K262
            have w264 : (m259 123 13).toInt = (m248 123 13).toInt := congrArg Int32.toInt (K262 123 13 rfl)
            have K262 := K250.trans (K262.sub (fun _ _ q => q))
            show PV _ _ _ _ _ _ _ 78 [.ref 123, .int v1, .int v36] [.int v263] _
            have kR2 := rv263
            refine pv_if_ne (M := mX12_readsSum) (tgt := 163) dX12_readsSum_78 81 rfl (by decide) (fun c266 => ?_) (fun c266 => ?_)
            · have c266 := iv_ne (X := v263.toInt) (Y := 0) c266 rfl (by decide)
              refine pv_goto (M := mX12_readsSum) (tgt := 14) dX12_readsSum_163 (by decide) ?_
              refine pv_fg (lo2 := [.ref 123, .int v1, pv_U]) ⟨Or.inr rfl, ⟨Or.inr rfl, ⟨Or.inl rfl, trivial⟩⟩⟩ ?_
              have krl : RLs cb (c + 1) m m259 := by first | exact kX | exact kS.trans (kR2.resolve_left (by omega))
              have kbk : (m11 123 12).toInt + 1 ≤ (m259 123 12).toInt := by first | omega | (have := (kR2.resolve_left (by omega)).2.2.2.2.2.2.2.1; omega)
              exact ih17  m259 n260 (by first | omega | assumption | (show v1.toInt = (m 123 17).toInt; omega) | decide) krl I261 K262 (by omega)
            · have c266 := iv_eq (X := v263.toInt) (Y := 0) c266 rfl (by decide)
              refine pv_iconst (M := mX12_readsSum) (v := 0) dX12_readsSum_81 82 rfl (by decide) ?_
              have z269 : (0 : Int32).toInt = 0 := by decide
              exact pv_iret (M := mX12_readsSum) dX12_readsSum_82 rfl rfl ⟨_, _, _, rfl, rfl, I261, K262, by decide, by decide, (Or.inl (by decide))⟩
    have kr0 := kR.resolve_left (by omega)
    exact lp16 (((160 - (m3 123 12).toInt) : Int).toNat + 1)  m3 n4 (by first | omega | assumption | (show v1.toInt = (m 123 17).toInt; omega) | decide) kr0 I5 K6 (by omega)
  · have c10 := iv_eq (X := v7.toInt) (Y := 0) c10 rfl (by decide)
    refine pv_iconst (M := mX12_readsSum) (v := 0) dX12_readsSum_12 13 rfl (by decide) ?_
    have z271 : (0 : Int32).toInt = 0 := by decide
    exact pv_iret (M := mX12_readsSum) dX12_readsSum_13 rfl rfl ⟨_, _, _, rfl, rfl, I5, K6, by decide, by decide, (Or.inl (by decide))⟩

set_option maxHeartbeats 2000000 in
set_option maxRecDepth 20000 in
theorem s_X12_endsPiece (g : pv_G) {T : List mv_T} {m : Nat → Nat → Int32} {n : Nat → Nat → Int64} {r : Nat → Value} (hT : TX T) (I : IV BB m) (cb : Int) (c : Int) (hp0 : HW cb c m) (hp1 : 1 ≤ c) (hp2 : 0 ≤ SLK m) : PM g mX12_endsPiece yX12_endsPiece (sqV T BB (wl [(123, 123, some 15), (123, 123, some 16), (123, 123, some 17), (130, 130, none)]) r m (fun m' => EPI cb c m m' ∧ ((m' 123 17).toInt = 0 ∨ opv (m' 131 ((m' 123 17).toInt - 1).toNat) ≠ 10))) 2 0 0 [.ref 123] (mk T m n r) := by
  have Kp : fr (wl [(123, 123, some 15), (123, 123, some 16), (123, 123, some 17), (130, 130, none)]) m m := fr.rf
  have z53 : 0 ≤ (m 123 12).toInt ∧ (m 123 12).toInt ≤ 160 := I 123 12
  have z54 : 0 ≤ (m 123 13).toInt ∧ (m 123 13).toInt ≤ 160 := I 123 13
  have z55 : 0 ≤ (m 123 16).toInt ∧ (m 123 16).toInt ≤ 180 := I 123 16
  have z56 : 0 ≤ (m 123 17).toInt ∧ (m 123 17).toInt ≤ 180 := I 123 17
  refine PM.of 0 (lo := [.ref 123]) rfl (by decide) rfl rfl (Nat.le_of_ble_eq_true rfl) ?_
  have lp6 : ∀ (fuel5 : Nat)  (m1 : Nat → Nat → Int32) (n2 : Nat → Nat → Int64), (EPI cb c m m1) → IV BB m1 → fr (wl [(123, 123, some 15), (123, 123, some 16), (123, 123, some 17), (130, 130, none)]) m m1 → (((m1 123 17).toInt) : Int).toNat < fuel5 → PV none g mX12_endsPiece (sqV T BB (wl [(123, 123, some 15), (123, 123, some 16), (123, 123, some 17), (130, 130, none)]) r m (fun m' => EPI cb c m m' ∧ ((m' 123 17).toInt = 0 ∨ opv (m' 131 ((m' 123 17).toInt - 1).toNat) ≠ 10))) 2 0 0 0 [.ref 123] [] (mk T m1 n2 r) := by
    intro fuel5
    induction fuel5 with
    | zero => intro  m1 n2 b8 I3 K4 z9; omega
    | succ fuel5 ih7 =>
      intro  m1 n2 b8 I3 K4 z9
      have z10 : 0 ≤ (m1 123 12).toInt ∧ (m1 123 12).toInt ≤ 160 := I3 123 12
      have z11 : 0 ≤ (m1 123 13).toInt ∧ (m1 123 13).toInt ≤ 160 := I3 123 13
      have z12 : 0 ≤ (m1 123 16).toInt ∧ (m1 123 16).toInt ≤ 180 := I3 123 16
      have z13 : 0 ≤ (m1 123 17).toInt ∧ (m1 123 17).toInt ≤ 180 := I3 123 17
      have kg := (show EPI cb c m m1 by assumption)
      have kg2 : (m1 123 16).toInt ≤ (m1 123 12).toInt := SLK_cm (m := m1) (by rw [kg.2.1]; exact hp2)
      have kg3 : 0 ≤ (m1 123 17).toInt := kg.2.2.2.2.1
      have kg4 : (m1 123 12).toInt ≤ 160 := (I3 123 12).2
      refine pv_aload_n (M := mX12_endsPiece) 0 dX12_endsPiece_0 1 rfl rfl rfl ?_
      refine pv_callv (M := mX12_endsPiece) (as := []) (st := []) (kc2 := 0) (ks2 := 0) dX12_endsPiece_1 wd1460 YX12_top ⟨wd1462, wd69⟩ (mk_get (tl123 hT)) rfl rfl (s_X12_top g hT I3) rfl rfl (Nat.le_of_ble_eq_true rfl) (by decide) rfl rfl 4 rfl (fun rv h1 q18 => ?_)
      obtain ⟨v19, rfl, rfl, pv19, qv19, rv19⟩ := q18
      replace rv19 : (v19.toInt = -1 ∧ (m1 123 17).toInt = 0) ∨ (1 ≤ (m1 123 17).toInt ∧ v19.toInt = opv (m1 131 ((m1 123 17).toInt - 1).toNat)) := rv19
      show PV _ _ _ _ _ _ _ 4 [.ref 123] [.int v19] _
      refine pv_bipush (M := mX12_endsPiece) (v := 10) dX12_endsPiece_4 6 rfl (by decide) ?_
      refine pv_icmp_ne (M := mX12_endsPiece) (tgt := 39) dX12_endsPiece_6 9 rfl (by decide) (fun c20 => ?_) (fun c20 => ?_)
      · have c20 := iv_ne (X := v19.toInt) (Y := 10) c20 rfl (by decide)
        exact pv_vret (M := mX12_endsPiece) dX12_endsPiece_39 rfl ⟨_, _, rfl, rfl, I3, K4, ⟨kg, by omega⟩⟩
      · have c20 := iv_eq (X := v19.toInt) (Y := 10) c20 rfl (by decide)
        refine pv_aload_n (M := mX12_endsPiece) 0 dX12_endsPiece_9 10 rfl rfl rfl ?_
        refine pv_bipush (M := mX12_endsPiece) (v := 10) dX12_endsPiece_10 12 rfl (by decide) ?_
        refine pv_iconst (M := mX12_endsPiece) (v := 0) dX12_endsPiece_12 13 rfl (by decide) ?_
        have z21 : (10 : Int32).toInt = 10 := by decide
        have z22 : (0 : Int32).toInt = 0 := by decide
        refine pv_callv (M := mX12_endsPiece) (as := [.int 10, .int 0]) (st := []) (kc2 := 0) (ks2 := 0) dX12_endsPiece_13 wd1446 YX12_notes ⟨wd1448, wd67⟩ (mk_get (tl123 hT)) rfl rfl (s_X12_notes g hT I3 10 (by decide) (by decide) 0 (by decide) (by decide) (by first | omega | assumption | exact (iv_rng _).2 | exact (iv_rng _).1 | decide)) rfl rfl (Nat.le_of_ble_eq_true rfl) (by decide) rfl rfl 16 rfl (fun rv h1 q23 => ?_)
        obtain ⟨m24, n25, rfl, rfl, I26, K27, rm24⟩ := q23
        replace rm24 : NOTE (10 : Int) (0 : Int) m1 m24 := by have q_ := rm24; (try rw [z21] at q_); (try rw [z22] at q_); exact q_
        have K27c := K27
        have w28 : (m24 123 12).toInt = (m1 123 12).toInt := congrArg Int32.toInt (K27 123 12 rfl)
        have w29 : (m24 123 13).toInt = (m1 123 13).toInt := congrArg Int32.toInt (K27 123 13 rfl)
        have w30 : (m24 123 17).toInt = (m1 123 17).toInt := congrArg Int32.toInt (K27 123 17 rfl)
        have K27 := K4.trans (K27.sub (wl_sub (by decide)))
        show PV _ _ _ _ _ _ _ 16 [.ref 123] [] _
        have kN := rm24
        refine pv_aload_n (M := mX12_endsPiece) 0 dX12_endsPiece_16 17 rfl rfl rfl ?_
        refine pv_aload_n (M := mX12_endsPiece) 0 dX12_endsPiece_17 18 rfl rfl rfl ?_
        refine iv_get (M := mX12_endsPiece) (l1 := 0) (l2 := 180) dX12_endsPiece_18 FX12 17 wd1190 (by decide) (tl123 hT) rfl I26 rfl 21 rfl (fun v32 ev32 pv32 qv32 => ?_)
        have wv32 : v32.toInt = (m24 123 17).toInt := congrArg Int32.toInt ev32
        refine pv_iconst (M := mX12_endsPiece) (v := 1) dX12_endsPiece_21 22 rfl (by decide) ?_
        refine iv_isub (M := mX12_endsPiece) (X := v32.toInt) (Y := 1) dX12_endsPiece_22 23 rfl rfl (by decide) (by omega) (by omega) (fun v33 ev33 => ?_)
        refine iv_put (M := mX12_endsPiece) (l1 := 0) (l2 := 180) dX12_endsPiece_23 FX12 17 wd1190 (by decide) rfl (tl123 hT) rfl rfl rfl I26 rfl (by omega) (by omega) 26 rfl (fun m34 e37 I35 => ?_)
        have K36 := K27.set e37 rfl
        have w38 : (m34 123 12).toInt = (m24 123 12).toInt := by rw [e37, up2_ne (by omega)]
        have w39 : (m34 123 13).toInt = (m24 123 13).toInt := by rw [e37, up2_ne (by omega)]
        have w40 : (m34 123 16).toInt = (m24 123 16).toInt := by rw [e37, up2_ne (by omega)]
        have w41 : (m34 123 17).toInt = v33.toInt := by rw [e37, up2_eq]
        refine pv_aload_n (M := mX12_endsPiece) 0 dX12_endsPiece_26 27 rfl rfl rfl ?_
        refine pv_aload_n (M := mX12_endsPiece) 0 dX12_endsPiece_27 28 rfl rfl rfl ?_
        refine iv_get (M := mX12_endsPiece) (l1 := (-2147483648)) (l2 := 2147483647) dX12_endsPiece_28 FX12 15 wd1188 (by decide) (tl123 hT) rfl I35 rfl 31 rfl (fun v42 ev42 pv42 qv42 => ?_)
        refine pv_iconst (M := mX12_endsPiece) (v := 1) dX12_endsPiece_31 32 rfl (by decide) ?_
        refine iv_subU (M := mX12_endsPiece) dX12_endsPiece_32 33 rfl (fun v43 ev43 => ?_)
        refine iv_put (M := mX12_endsPiece) (l1 := (-2147483648)) (l2 := 2147483647) dX12_endsPiece_33 FX12 15 wd1188 (by decide) rfl (tl123 hT) rfl rfl rfl I35 rfl (iv_rng v43).1 (iv_rng v43).2 36 rfl (fun m44 e47 I45 => ?_)
        have K46 := K36.set e47 rfl
        have w48 : (m44 123 12).toInt = (m34 123 12).toInt := by rw [e47, up2_ne (by omega)]
        have w49 : (m44 123 13).toInt = (m34 123 13).toInt := by rw [e47, up2_ne (by omega)]
        have w50 : (m44 123 16).toInt = (m34 123 16).toInt := by rw [e47, up2_ne (by omega)]
        have w51 : (m44 123 17).toInt = (m34 123 17).toInt := by rw [e47, up2_ne (by omega)]
        refine pv_goto (M := mX12_endsPiece) (tgt := 0) dX12_endsPiece_36 (by decide) ?_
        have kes := EPI.step kg hp1 (by omega) (by omega) kN e37 (by omega) e47
        exact ih7  m44 n25 kes I45 K46 (by omega)
  exact lp6 ((((m 123 17).toInt) : Int).toNat + 1)  m n (EPI.start hp0 (by omega)) I Kp (by omega)

set_option maxHeartbeats 2000000 in
set_option maxRecDepth 20000 in
theorem s_X12_lands (g : pv_G) {T : List mv_T} {m : Nat → Nat → Int32} {n : Nat → Nat → Int64} {r : Nat → Value} (hT : TX T) (I : IV BB m) (x0 : Int32) (hl0 : 0 ≤ x0.toInt) (hh0 : x0.toInt ≤ 1) (cb : Int) (c : Int) (hp0 : HW cb c m) (hp1 : c + OPS m ≤ 1) (hp2 : 0 ≤ SLK m) : PM g mX12_lands yX12_lands (sqV T BB (wl [(123, 123, some 17), (130, 130, none)]) r m (fun m' => LDI cb c m m' ∧ (x0.toInt ≠ 0 → (m' 123 17).toInt = 0 ∨ (opv (m' 131 ((m' 123 17).toInt - 1).toNat) ≠ 11 ∧ opv (m' 131 ((m' 123 17).toInt - 1).toNat) ≠ 12)))) 2 0 0 [.ref 123, .int x0] (mk T m n r) := by
  have Kp : fr (wl [(123, 123, some 17), (130, 130, none)]) m m := fr.rf
  have z93 : 0 ≤ (m 123 12).toInt ∧ (m 123 12).toInt ≤ 160 := I 123 12
  have z94 : 0 ≤ (m 123 13).toInt ∧ (m 123 13).toInt ≤ 160 := I 123 13
  have z95 : 0 ≤ (m 123 16).toInt ∧ (m 123 16).toInt ≤ 180 := I 123 16
  have z96 : 0 ≤ (m 123 17).toInt ∧ (m 123 17).toInt ≤ 180 := I 123 17
  refine PM.of 1 (lo := [.ref 123, .int x0, pv_U]) rfl (by decide) rfl rfl (Nat.le_of_ble_eq_true rfl) ?_
  have lp6 : ∀ (fuel5 : Nat)  (m1 : Nat → Nat → Int32) (n2 : Nat → Nat → Int64), (LDI cb c m m1) → IV BB m1 → fr (wl [(123, 123, some 17), (130, 130, none)]) m m1 → (((m1 123 17).toInt) : Int).toNat < fuel5 → PV none g mX12_lands (sqV T BB (wl [(123, 123, some 17), (130, 130, none)]) r m (fun m' => LDI cb c m m' ∧ (x0.toInt ≠ 0 → (m' 123 17).toInt = 0 ∨ (opv (m' 131 ((m' 123 17).toInt - 1).toNat) ≠ 11 ∧ opv (m' 131 ((m' 123 17).toInt - 1).toNat) ≠ 12)))) 2 0 0 0 [.ref 123, .int x0, pv_U] [] (mk T m1 n2 r) := by
    intro fuel5
    induction fuel5 with
    | zero => intro  m1 n2 b8 I3 K4 z9; omega
    | succ fuel5 ih7 =>
      intro  m1 n2 b8 I3 K4 z9
      have z10 : 0 ≤ (m1 123 12).toInt ∧ (m1 123 12).toInt ≤ 160 := I3 123 12
      have z11 : 0 ≤ (m1 123 13).toInt ∧ (m1 123 13).toInt ≤ 160 := I3 123 13
      have z12 : 0 ≤ (m1 123 16).toInt ∧ (m1 123 16).toInt ≤ 180 := I3 123 16
      have z13 : 0 ≤ (m1 123 17).toInt ∧ (m1 123 17).toInt ≤ 180 := I3 123 17
      have kg := (show LDI cb c m m1 by assumption)
      have kg2 : (m1 123 16).toInt ≤ (m1 123 12).toInt := SLK_cm (m := m1) (by rw [kg.2.1]; exact hp2)
      have kg3 : 0 ≤ (m1 123 17).toInt := kg.2.2.2.2.1
      have kg4 : (m1 123 12).toInt ≤ 160 := (I3 123 12).2
      refine pv_aload_n (M := mX12_lands) 0 dX12_lands_0 1 rfl rfl rfl ?_
      refine pv_callv (M := mX12_lands) (as := []) (st := []) (kc2 := 0) (ks2 := 0) dX12_lands_1 wd1460 YX12_top ⟨wd1462, wd69⟩ (mk_get (tl123 hT)) rfl rfl (s_X12_top g hT I3) rfl rfl (Nat.le_of_ble_eq_true rfl) (by decide) rfl rfl 4 rfl (fun rv h1 q18 => ?_)
      obtain ⟨v19, rfl, rfl, pv19, qv19, rv19⟩ := q18
      replace rv19 : (v19.toInt = -1 ∧ (m1 123 17).toInt = 0) ∨ (1 ≤ (m1 123 17).toInt ∧ v19.toInt = opv (m1 131 ((m1 123 17).toInt - 1).toNat)) := rv19
      show PV _ _ _ _ _ _ _ 4 [.ref 123, .int x0, pv_U] [.int v19] _
      refine pv_bipush (M := mX12_lands) (v := 11) dX12_lands_4 6 rfl (by decide) ?_
      refine pv_icmp_eq (M := mX12_lands) (tgt := 22) dX12_lands_6 9 rfl (by decide) (fun c20 => ?_) (fun c20 => ?_)
      · have c20 := iv_eq (X := v19.toInt) (Y := 11) c20 rfl (by decide)
        have kf : ifv (m1 131 ((m1 123 17).toInt - 1).toNat) := by unfold ifv; omega
        have k38 := kg.1.2 ((m1 123 17).toInt - 1).toNat (by show _ < ((m1 123 17).toInt).toNat; omega) kf
        have k38b : agv (m1 131 ((m1 123 17).toInt - 1).toNat) < (m1 123 16).toInt := k38.2.1
        refine pv_aload_n (M := mX12_lands) 0 dX12_lands_22 23 rfl rfl rfl ?_
        refine mv_get (M := mX12_lands) (v := .ref 131) dX12_lands_23 FX12 22 wd1195 (by decide) (tl123 hT) rfl rfl 26 rfl ?_
        refine pv_aload_n (M := mX12_lands) 0 dX12_lands_26 27 rfl rfl rfl ?_
        refine iv_get (M := mX12_lands) (l1 := 0) (l2 := 180) dX12_lands_27 FX12 17 wd1190 (by decide) (tl123 hT) rfl I3 rfl 30 rfl (fun v24 ev24 pv24 qv24 => ?_)
        have wv24 : v24.toInt = (m1 123 17).toInt := congrArg Int32.toInt ev24
        refine pv_iconst (M := mX12_lands) (v := 1) dX12_lands_30 31 rfl (by decide) ?_
        refine iv_isub (M := mX12_lands) (X := v24.toInt) (Y := 1) dX12_lands_31 32 rfl rfl (by decide) (by omega) (by omega) (fun v25 ev25 => ?_)
        refine iv_iald (M := mX12_lands) (X := v25.toInt) (l1 := 0) (l2 := 15728639) dX12_lands_32 (tl131 hT) rfl (by omega) (by omega) I3 (fun _ => rfl) 33 rfl (fun v26 ev26 pv26 qv26 => ?_)
        have k33 : v26.toInt = (m1 131 ((m1 123 17).toInt - 1).toNat).toInt := (congrArg Int32.toInt ev26).trans (congrArg (fun z => (m1 131 z).toInt) (by omega))
        refine pv_ldc (M := mX12_lands) (v := 1048576) dX12_lands_33 35 rfl wd1437 ?_
        refine iv_irem (M := mX12_lands) (X := v26.toInt) (Y := 1048576) dX12_lands_35 36 rfl rfl (by decide) (by omega) (by omega) (fun v28 ev28 => ?_)
        refine pv_istore_n (M := mX12_lands) 2 (lo2 := [.ref 123, .int x0, .int v28]) dX12_lands_36 37 rfl rfl (by decide) rfl rfl ?_
        have k37 : v28.toInt = agv (m1 131 ((m1 123 17).toInt - 1).toNat) := by unfold agv; omega
        refine pv_aload_n (M := mX12_lands) 0 dX12_lands_37 38 rfl rfl rfl ?_
        refine mv_get (M := mX12_lands) (v := .ref 130) dX12_lands_38 FX12 21 wd1194 (by decide) (tl123 hT) rfl rfl 41 rfl ?_
        refine pv_iload_n (M := mX12_lands) 2 dX12_lands_41 42 rfl rfl rfl ?_
        refine pv_ldc (M := mX12_lands) (v := 1048576) dX12_lands_42 44 rfl wd1437 ?_
        refine pv_aload_n (M := mX12_lands) 0 dX12_lands_44 45 rfl rfl rfl ?_
        refine mv_get (M := mX12_lands) (v := .ref 130) dX12_lands_45 FX12 21 wd1194 (by decide) (tl123 hT) rfl rfl 48 rfl ?_
        refine pv_iload_n (M := mX12_lands) 2 dX12_lands_48 49 rfl rfl rfl ?_
        refine iv_iald (M := mX12_lands) (X := v28.toInt) (l1 := 0) (l2 := 13631487) dX12_lands_49 (tl130 hT) rfl (by omega) (by omega) I3 (fun _ => rfl) 50 rfl (fun v30 ev30 pv30 qv30 => ?_)
        have k50 : v30.toInt = (m1 130 v28.toInt.toNat).toInt := congrArg Int32.toInt ev30
        refine pv_ldc (M := mX12_lands) (v := 1048576) dX12_lands_50 52 rfl wd1437 ?_
        refine iv_idiv (M := mX12_lands) (X := v30.toInt) (Y := 1048576) dX12_lands_52 53 rfl rfl (by decide) (by omega) (by omega) (fun v32 ev32 => ?_)
        refine iv_imul (M := mX12_lands) (X := 1048576) (Y := v32.toInt) dX12_lands_53 54 rfl (by decide) rfl (by omega) (by omega) (fun v33 ev33 => ?_)
        refine pv_aload_n (M := mX12_lands) 0 dX12_lands_54 55 rfl rfl rfl ?_
        refine iv_get (M := mX12_lands) (l1 := 0) (l2 := 180) dX12_lands_55 FX12 16 wd1189 (by decide) (tl123 hT) rfl I3 rfl 58 rfl (fun v34 ev34 pv34 qv34 => ?_)
        have wv34 : v34.toInt = (m1 123 16).toInt := congrArg Int32.toInt ev34
        refine iv_iadd (M := mX12_lands) (X := v33.toInt) (Y := v34.toInt) dX12_lands_58 59 rfl rfl rfl (by omega) (by omega) (fun v35 ev35 => ?_)
        refine iv_iast (M := mX12_lands) (X := v28.toInt) (l1 := 0) (l2 := 13631487) dX12_lands_59 (tl130 hT) rfl (by omega) (by omega) I3 (fun _ => rfl) (by omega) (by omega) 60 rfl (fun m36 e39 I37 => ?_)
        have K38 := K4.set e39 rfl
        have w40 : (m36 123 12).toInt = (m1 123 12).toInt := by rw [e39, up2_ne (by omega)]
        have w41 : (m36 123 13).toInt = (m1 123 13).toInt := by rw [e39, up2_ne (by omega)]
        have w42 : (m36 123 16).toInt = (m1 123 16).toInt := by rw [e39, up2_ne (by omega)]
        have w43 : (m36 123 17).toInt = (m1 123 17).toInt := by rw [e39, up2_ne (by omega)]
        refine pv_aload_n (M := mX12_lands) 0 dX12_lands_60 61 rfl rfl rfl ?_
        refine pv_aload_n (M := mX12_lands) 0 dX12_lands_61 62 rfl rfl rfl ?_
        refine iv_get (M := mX12_lands) (l1 := 0) (l2 := 180) dX12_lands_62 FX12 17 wd1190 (by decide) (tl123 hT) rfl I37 rfl 65 rfl (fun v44 ev44 pv44 qv44 => ?_)
        have wv44 : v44.toInt = (m36 123 17).toInt := congrArg Int32.toInt ev44
        refine pv_iconst (M := mX12_lands) (v := 1) dX12_lands_65 66 rfl (by decide) ?_
        refine iv_isub (M := mX12_lands) (X := v44.toInt) (Y := 1) dX12_lands_66 67 rfl rfl (by decide) (by omega) (by omega) (fun v45 ev45 => ?_)
        refine iv_put (M := mX12_lands) (l1 := 0) (l2 := 180) dX12_lands_67 FX12 17 wd1190 (by decide) rfl (tl123 hT) rfl rfl rfl I37 rfl (by omega) (by omega) 70 rfl (fun m46 e49 I47 => ?_)
        have K48 := K38.set e49 rfl
        have w50 : (m46 123 12).toInt = (m36 123 12).toInt := by rw [e49, up2_ne (by omega)]
        have w51 : (m46 123 13).toInt = (m36 123 13).toInt := by rw [e49, up2_ne (by omega)]
        have w52 : (m46 123 16).toInt = (m36 123 16).toInt := by rw [e49, up2_ne (by omega)]
        have w53 : (m46 123 17).toInt = v45.toInt := by rw [e49, up2_eq]
        refine pv_goto (M := mX12_lands) (tgt := 0) dX12_lands_70 (by decide) ?_
        refine pv_fg (lo2 := [.ref 123, .int x0, pv_U]) ⟨Or.inr rfl, ⟨Or.inr rfl, ⟨Or.inl rfl, trivial⟩⟩⟩ ?_
        have kld := LDI.step (p := v28.toInt) kg hp1 (by omega) kf k37 e39 (by omega) (by omega) (by omega) e49 (by omega)
        exact ih7  m46 n2 kld I47 K48 (by omega)
      · have c20 := iv_ne (X := v19.toInt) (Y := 11) c20 rfl (by decide)
        refine pv_iload_n (M := mX12_lands) 1 dX12_lands_9 10 rfl rfl rfl ?_
        refine pv_if_eq (M := mX12_lands) (tgt := 73) dX12_lands_10 13 rfl (by decide) (fun c55 => ?_) (fun c55 => ?_)
        · have c55 := iv_eq (X := x0.toInt) (Y := 0) c55 rfl (by decide)
          exact pv_vret (M := mX12_lands) dX12_lands_73 rfl ⟨_, _, rfl, rfl, I3, K4, ⟨kg, fun q => by omega⟩⟩
        · have c55 := iv_ne (X := x0.toInt) (Y := 0) c55 rfl (by decide)
          refine pv_aload_n (M := mX12_lands) 0 dX12_lands_13 14 rfl rfl rfl ?_
          refine pv_callv (M := mX12_lands) (as := []) (st := []) (kc2 := 0) (ks2 := 0) dX12_lands_14 wd1460 YX12_top ⟨wd1462, wd69⟩ (mk_get (tl123 hT)) rfl rfl (s_X12_top g hT I3) rfl rfl (Nat.le_of_ble_eq_true rfl) (by decide) rfl rfl 17 rfl (fun rv h1 q56 => ?_)
          obtain ⟨v57, rfl, rfl, pv57, qv57, rv57⟩ := q56
          replace rv57 : (v57.toInt = -1 ∧ (m1 123 17).toInt = 0) ∨ (1 ≤ (m1 123 17).toInt ∧ v57.toInt = opv (m1 131 ((m1 123 17).toInt - 1).toNat)) := rv57
          show PV _ _ _ _ _ _ _ 17 [.ref 123, .int x0, pv_U] [.int v57] _
          refine pv_bipush (M := mX12_lands) (v := 12) dX12_lands_17 19 rfl (by decide) ?_
          refine pv_icmp_ne (M := mX12_lands) (tgt := 73) dX12_lands_19 22 rfl (by decide) (fun c58 => ?_) (fun c58 => ?_)
          · have c58 := iv_ne (X := v57.toInt) (Y := 12) c58 rfl (by decide)
            exact pv_vret (M := mX12_lands) dX12_lands_73 rfl ⟨_, _, rfl, rfl, I3, K4, ⟨kg, fun q => by omega⟩⟩
          · have c58 := iv_eq (X := v57.toInt) (Y := 12) c58 rfl (by decide)
            have kf : ifv (m1 131 ((m1 123 17).toInt - 1).toNat) := by unfold ifv; omega
            have k38 := kg.1.2 ((m1 123 17).toInt - 1).toNat (by show _ < ((m1 123 17).toInt).toNat; omega) kf
            have k38b : agv (m1 131 ((m1 123 17).toInt - 1).toNat) < (m1 123 16).toInt := k38.2.1
            refine pv_aload_n (M := mX12_lands) 0 dX12_lands_22 23 rfl rfl rfl ?_
            refine mv_get (M := mX12_lands) (v := .ref 131) dX12_lands_23 FX12 22 wd1195 (by decide) (tl123 hT) rfl rfl 26 rfl ?_
            refine pv_aload_n (M := mX12_lands) 0 dX12_lands_26 27 rfl rfl rfl ?_
            refine iv_get (M := mX12_lands) (l1 := 0) (l2 := 180) dX12_lands_27 FX12 17 wd1190 (by decide) (tl123 hT) rfl I3 rfl 30 rfl (fun v62 ev62 pv62 qv62 => ?_)
            have wv62 : v62.toInt = (m1 123 17).toInt := congrArg Int32.toInt ev62
            refine pv_iconst (M := mX12_lands) (v := 1) dX12_lands_30 31 rfl (by decide) ?_
            refine iv_isub (M := mX12_lands) (X := v62.toInt) (Y := 1) dX12_lands_31 32 rfl rfl (by decide) (by omega) (by omega) (fun v63 ev63 => ?_)
            refine iv_iald (M := mX12_lands) (X := v63.toInt) (l1 := 0) (l2 := 15728639) dX12_lands_32 (tl131 hT) rfl (by omega) (by omega) I3 (fun _ => rfl) 33 rfl (fun v64 ev64 pv64 qv64 => ?_)
            have k33 : v64.toInt = (m1 131 ((m1 123 17).toInt - 1).toNat).toInt := (congrArg Int32.toInt ev64).trans (congrArg (fun z => (m1 131 z).toInt) (by omega))
            refine pv_ldc (M := mX12_lands) (v := 1048576) dX12_lands_33 35 rfl wd1437 ?_
            refine iv_irem (M := mX12_lands) (X := v64.toInt) (Y := 1048576) dX12_lands_35 36 rfl rfl (by decide) (by omega) (by omega) (fun v66 ev66 => ?_)
            refine pv_istore_n (M := mX12_lands) 2 (lo2 := [.ref 123, .int x0, .int v66]) dX12_lands_36 37 rfl rfl (by decide) rfl rfl ?_
            have k37 : v66.toInt = agv (m1 131 ((m1 123 17).toInt - 1).toNat) := by unfold agv; omega
            refine pv_aload_n (M := mX12_lands) 0 dX12_lands_37 38 rfl rfl rfl ?_
            refine mv_get (M := mX12_lands) (v := .ref 130) dX12_lands_38 FX12 21 wd1194 (by decide) (tl123 hT) rfl rfl 41 rfl ?_
            refine pv_iload_n (M := mX12_lands) 2 dX12_lands_41 42 rfl rfl rfl ?_
            refine pv_ldc (M := mX12_lands) (v := 1048576) dX12_lands_42 44 rfl wd1437 ?_
            refine pv_aload_n (M := mX12_lands) 0 dX12_lands_44 45 rfl rfl rfl ?_
            refine mv_get (M := mX12_lands) (v := .ref 130) dX12_lands_45 FX12 21 wd1194 (by decide) (tl123 hT) rfl rfl 48 rfl ?_
            refine pv_iload_n (M := mX12_lands) 2 dX12_lands_48 49 rfl rfl rfl ?_
            refine iv_iald (M := mX12_lands) (X := v66.toInt) (l1 := 0) (l2 := 13631487) dX12_lands_49 (tl130 hT) rfl (by omega) (by omega) I3 (fun _ => rfl) 50 rfl (fun v68 ev68 pv68 qv68 => ?_)
            have k50 : v68.toInt = (m1 130 v66.toInt.toNat).toInt := congrArg Int32.toInt ev68
            refine pv_ldc (M := mX12_lands) (v := 1048576) dX12_lands_50 52 rfl wd1437 ?_
            refine iv_idiv (M := mX12_lands) (X := v68.toInt) (Y := 1048576) dX12_lands_52 53 rfl rfl (by decide) (by omega) (by omega) (fun v70 ev70 => ?_)
            refine iv_imul (M := mX12_lands) (X := 1048576) (Y := v70.toInt) dX12_lands_53 54 rfl (by decide) rfl (by omega) (by omega) (fun v71 ev71 => ?_)
            refine pv_aload_n (M := mX12_lands) 0 dX12_lands_54 55 rfl rfl rfl ?_
            refine iv_get (M := mX12_lands) (l1 := 0) (l2 := 180) dX12_lands_55 FX12 16 wd1189 (by decide) (tl123 hT) rfl I3 rfl 58 rfl (fun v72 ev72 pv72 qv72 => ?_)
            have wv72 : v72.toInt = (m1 123 16).toInt := congrArg Int32.toInt ev72
            refine iv_iadd (M := mX12_lands) (X := v71.toInt) (Y := v72.toInt) dX12_lands_58 59 rfl rfl rfl (by omega) (by omega) (fun v73 ev73 => ?_)
            refine iv_iast (M := mX12_lands) (X := v66.toInt) (l1 := 0) (l2 := 13631487) dX12_lands_59 (tl130 hT) rfl (by omega) (by omega) I3 (fun _ => rfl) (by omega) (by omega) 60 rfl (fun m74 e77 I75 => ?_)
            have K76 := K4.set e77 rfl
            have w78 : (m74 123 12).toInt = (m1 123 12).toInt := by rw [e77, up2_ne (by omega)]
            have w79 : (m74 123 13).toInt = (m1 123 13).toInt := by rw [e77, up2_ne (by omega)]
            have w80 : (m74 123 16).toInt = (m1 123 16).toInt := by rw [e77, up2_ne (by omega)]
            have w81 : (m74 123 17).toInt = (m1 123 17).toInt := by rw [e77, up2_ne (by omega)]
            refine pv_aload_n (M := mX12_lands) 0 dX12_lands_60 61 rfl rfl rfl ?_
            refine pv_aload_n (M := mX12_lands) 0 dX12_lands_61 62 rfl rfl rfl ?_
            refine iv_get (M := mX12_lands) (l1 := 0) (l2 := 180) dX12_lands_62 FX12 17 wd1190 (by decide) (tl123 hT) rfl I75 rfl 65 rfl (fun v82 ev82 pv82 qv82 => ?_)
            have wv82 : v82.toInt = (m74 123 17).toInt := congrArg Int32.toInt ev82
            refine pv_iconst (M := mX12_lands) (v := 1) dX12_lands_65 66 rfl (by decide) ?_
            refine iv_isub (M := mX12_lands) (X := v82.toInt) (Y := 1) dX12_lands_66 67 rfl rfl (by decide) (by omega) (by omega) (fun v83 ev83 => ?_)
            refine iv_put (M := mX12_lands) (l1 := 0) (l2 := 180) dX12_lands_67 FX12 17 wd1190 (by decide) rfl (tl123 hT) rfl rfl rfl I75 rfl (by omega) (by omega) 70 rfl (fun m84 e87 I85 => ?_)
            have K86 := K76.set e87 rfl
            have w88 : (m84 123 12).toInt = (m74 123 12).toInt := by rw [e87, up2_ne (by omega)]
            have w89 : (m84 123 13).toInt = (m74 123 13).toInt := by rw [e87, up2_ne (by omega)]
            have w90 : (m84 123 16).toInt = (m74 123 16).toInt := by rw [e87, up2_ne (by omega)]
            have w91 : (m84 123 17).toInt = v83.toInt := by rw [e87, up2_eq]
            refine pv_goto (M := mX12_lands) (tgt := 0) dX12_lands_70 (by decide) ?_
            refine pv_fg (lo2 := [.ref 123, .int x0, pv_U]) ⟨Or.inr rfl, ⟨Or.inr rfl, ⟨Or.inl rfl, trivial⟩⟩⟩ ?_
            have kld := LDI.step (p := v66.toInt) kg hp1 (by omega) kf k37 e77 (by omega) (by omega) (by omega) e87 (by omega)
            exact ih7  m84 n2 kld I85 K86 (by omega)
  exact lp6 ((((m 123 17).toInt) : Int).toNat + 1)  m n (LDI.start hp0 (by omega)) I Kp (by omega)

set_option maxHeartbeats 2000000 in
set_option maxRecDepth 20000 in
theorem s_X12_jumps (g : pv_G) {T : List mv_T} {m : Nat → Nat → Int32} {n : Nat → Nat → Int64} {r : Nat → Value} (hT : TX T) (I : IV BB m) (x0 : Int32) (hl0 : 11 ≤ x0.toInt) (hh0 : x0.toInt ≤ 12) (cb : Int) (c : Int) (hp0 : HW cb c m) (hp1 : 1 ≤ c) (hp2 : 0 ≤ SLK m) (hp3 : (m 123 12).toInt < (m 123 13).toInt) (hp4 : (m 123 17).toInt ≤ (m 123 12).toInt) : PM g mX12_jumps yX12_jumps (sqV T BB (wl [(123, 123, some 12), (123, 123, some 16), (123, 123, some 17), (130, 130, none), (131, 131, none)]) r m (fun m' => JPI cb (c - 1) m m')) 2 0 0 [.ref 123, .int x0] (mk T m n r) := by
  have Kp : fr (wl [(123, 123, some 12), (123, 123, some 16), (123, 123, some 17), (130, 130, none), (131, 131, none)]) m m := fr.rf
  have z46 : 0 ≤ (m 123 12).toInt ∧ (m 123 12).toInt ≤ 160 := I 123 12
  have z47 : 0 ≤ (m 123 13).toInt ∧ (m 123 13).toInt ≤ 160 := I 123 13
  have z48 : 0 ≤ (m 123 16).toInt ∧ (m 123 16).toInt ≤ 180 := I 123 16
  have z49 : 0 ≤ (m 123 17).toInt ∧ (m 123 17).toInt ≤ 180 := I 123 17
  refine PM.of 0 (lo := [.ref 123, .int x0]) rfl (by decide) rfl rfl (Nat.le_of_ble_eq_true rfl) ?_
  have kg2 : (m 123 16).toInt ≤ (m 123 12).toInt := SLK_cm (m := m) hp2
  refine pv_aload_n (M := mX12_jumps) 0 dX12_jumps_0 1 rfl rfl rfl ?_
  refine mv_get (M := mX12_jumps) (v := .ref 131) dX12_jumps_1 FX12 22 wd1195 (by decide) (tl123 hT) rfl rfl 4 rfl ?_
  refine pv_aload_n (M := mX12_jumps) 0 dX12_jumps_4 5 rfl rfl rfl ?_
  refine iv_get (M := mX12_jumps) (l1 := 0) (l2 := 180) dX12_jumps_5 FX12 17 wd1190 (by decide) (tl123 hT) rfl I rfl 8 rfl (fun v2 ev2 pv2 qv2 => ?_)
  have wv2 : v2.toInt = (m 123 17).toInt := congrArg Int32.toInt ev2
  refine pv_ldc (M := mX12_jumps) (v := 1048576) dX12_jumps_8 10 rfl wd1437 ?_
  refine pv_iload_n (M := mX12_jumps) 1 dX12_jumps_10 11 rfl rfl rfl ?_
  refine iv_imul (M := mX12_jumps) (X := 1048576) (Y := x0.toInt) dX12_jumps_11 12 rfl (by decide) rfl (by omega) (by omega) (fun v3 ev3 => ?_)
  refine pv_aload_n (M := mX12_jumps) 0 dX12_jumps_12 13 rfl rfl rfl ?_
  refine iv_get (M := mX12_jumps) (l1 := 0) (l2 := 180) dX12_jumps_13 FX12 16 wd1189 (by decide) (tl123 hT) rfl I rfl 16 rfl (fun v4 ev4 pv4 qv4 => ?_)
  have wv4 : v4.toInt = (m 123 16).toInt := congrArg Int32.toInt ev4
  refine iv_iadd (M := mX12_jumps) (X := v3.toInt) (Y := v4.toInt) dX12_jumps_16 17 rfl rfl rfl (by omega) (by omega) (fun v5 ev5 => ?_)
  refine iv_iast (M := mX12_jumps) (X := v2.toInt) (l1 := 0) (l2 := 15728639) dX12_jumps_17 (tl131 hT) rfl (by omega) (by omega) I (fun _ => rfl) (by omega) (by omega) 18 rfl (fun m6 e9 I7 => ?_)
  have K8 := Kp.set e9 rfl
  have w10 : (m6 123 12).toInt = (m 123 12).toInt := by rw [e9, up2_ne (by omega)]
  have w11 : (m6 123 13).toInt = (m 123 13).toInt := by rw [e9, up2_ne (by omega)]
  have w12 : (m6 123 16).toInt = (m 123 16).toInt := by rw [e9, up2_ne (by omega)]
  have w13 : (m6 123 17).toInt = (m 123 17).toInt := by rw [e9, up2_ne (by omega)]
  have k18 := (e9).trans (up2_ix (j := (m 123 17).toInt.toNat) (by omega))
  refine pv_aload_n (M := mX12_jumps) 0 dX12_jumps_18 19 rfl rfl rfl ?_
  refine pv_aload_n (M := mX12_jumps) 0 dX12_jumps_19 20 rfl rfl rfl ?_
  refine iv_get (M := mX12_jumps) (l1 := 0) (l2 := 180) dX12_jumps_20 FX12 17 wd1190 (by decide) (tl123 hT) rfl I7 rfl 23 rfl (fun v15 ev15 pv15 qv15 => ?_)
  have wv15 : v15.toInt = (m6 123 17).toInt := congrArg Int32.toInt ev15
  refine pv_iconst (M := mX12_jumps) (v := 1) dX12_jumps_23 24 rfl (by decide) ?_
  refine iv_iadd (M := mX12_jumps) (X := v15.toInt) (Y := 1) dX12_jumps_24 25 rfl rfl (by decide) (by omega) (by omega) (fun v16 ev16 => ?_)
  refine iv_put (M := mX12_jumps) (l1 := 0) (l2 := 180) dX12_jumps_25 FX12 17 wd1190 (by decide) rfl (tl123 hT) rfl rfl rfl I7 rfl (by omega) (by omega) 28 rfl (fun m17 e20 I18 => ?_)
  have K19 := K8.set e20 rfl
  have w21 : (m17 123 12).toInt = (m6 123 12).toInt := by rw [e20, up2_ne (by omega)]
  have w22 : (m17 123 13).toInt = (m6 123 13).toInt := by rw [e20, up2_ne (by omega)]
  have w23 : (m17 123 16).toInt = (m6 123 16).toInt := by rw [e20, up2_ne (by omega)]
  have w24 : (m17 123 17).toInt = v16.toInt := by rw [e20, up2_eq]
  have k26 := e20
  refine pv_aload_n (M := mX12_jumps) 0 dX12_jumps_28 29 rfl rfl rfl ?_
  refine pv_iload_n (M := mX12_jumps) 1 dX12_jumps_29 30 rfl rfl rfl ?_
  refine pv_iconst (M := mX12_jumps) (v := 0) dX12_jumps_30 31 rfl (by decide) ?_
  have z26 : (0 : Int32).toInt = 0 := by decide
  refine pv_callv (M := mX12_jumps) (as := [.int x0, .int 0]) (st := []) (kc2 := 0) (ks2 := 0) dX12_jumps_31 wd1446 YX12_notes ⟨wd1448, wd67⟩ (mk_get (tl123 hT)) rfl rfl (s_X12_notes g hT I18 x0 (by omega) (by omega) 0 (by decide) (by decide) (by first | omega | assumption | exact (iv_rng _).2 | exact (iv_rng _).1 | decide)) rfl rfl (Nat.le_of_ble_eq_true rfl) (by decide) rfl rfl 34 rfl (fun rv h1 q27 => ?_)
  obtain ⟨m28, n29, rfl, rfl, I30, K31, rm28⟩ := q27
  replace rm28 : NOTE x0.toInt (0 : Int) m17 m28 := by have q_ := rm28; (try rw [z26] at q_); exact q_
  have K31c := K31
  have w32 : (m28 123 12).toInt = (m17 123 12).toInt := congrArg Int32.toInt (K31 123 12 rfl)
  have w33 : (m28 123 13).toInt = (m17 123 13).toInt := congrArg Int32.toInt (K31 123 13 rfl)
  have w34 : (m28 123 17).toInt = (m17 123 17).toInt := congrArg Int32.toInt (K31 123 17 rfl)
  have K31 := K19.trans (K31.sub (wl_sub (by decide)))
  show PV _ _ _ _ _ _ _ 34 [.ref 123, .int x0] [] _
  have kN := rm28
  refine pv_aload_n (M := mX12_jumps) 0 dX12_jumps_34 35 rfl rfl rfl ?_
  refine pv_aload_n (M := mX12_jumps) 0 dX12_jumps_35 36 rfl rfl rfl ?_
  refine iv_get (M := mX12_jumps) (l1 := 0) (l2 := 160) dX12_jumps_36 FX12 12 wd1185 (by decide) (tl123 hT) rfl I30 rfl 39 rfl (fun v36 ev36 pv36 qv36 => ?_)
  have wv36 : v36.toInt = (m28 123 12).toInt := congrArg Int32.toInt ev36
  refine pv_iconst (M := mX12_jumps) (v := 1) dX12_jumps_39 40 rfl (by decide) ?_
  refine iv_iadd (M := mX12_jumps) (X := v36.toInt) (Y := 1) dX12_jumps_40 41 rfl rfl (by decide) (by omega) (by omega) (fun v37 ev37 => ?_)
  refine iv_put (M := mX12_jumps) (l1 := 0) (l2 := 160) dX12_jumps_41 FX12 12 wd1185 (by decide) rfl (tl123 hT) rfl rfl rfl I30 rfl (by omega) (by omega) 44 rfl (fun m38 e41 I39 => ?_)
  have K40 := K31.set e41 rfl
  have w42 : (m38 123 12).toInt = v37.toInt := by rw [e41, up2_eq]
  have w43 : (m38 123 13).toInt = (m28 123 13).toInt := by rw [e41, up2_ne (by omega)]
  have w44 : (m38 123 16).toInt = (m28 123 16).toInt := by rw [e41, up2_ne (by omega)]
  have w45 : (m38 123 17).toInt = (m28 123 17).toInt := by rw [e41, up2_ne (by omega)]
  exact pv_vret (M := mX12_jumps) dX12_jumps_44 rfl ⟨_, _, rfl, rfl, I39, K40, (JPI.of hp0 hp1 (by omega) (by omega) k18 (by omega) (by omega) (by omega) k26 (by omega) kN e41 (by omega))⟩
