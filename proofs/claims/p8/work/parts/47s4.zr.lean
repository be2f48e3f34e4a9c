set_option maxHeartbeats 2000000 in
set_option maxRecDepth 20000 in
theorem s_X12_closesSums_vz (g : pv_G) {T : List mv_T} {m : Nat → Nat → Int32} {n : Nat → Nat → Int64} {r : Nat → Value} (hT : TX T) (I : IV BB m) (x0 : Int32) (hl0 : 0 ≤ x0.toInt) (hh0 : x0.toInt ≤ 1) (cb : Int) (c : Int) (hp0 : HW cb c m) (hp1 : 1 ≤ c) (hp2 : 0 ≤ SLK m) : PM g mX12_closesSums yX12_closesSums (sqV T BB (wl [(123, 123, some 16), (123, 123, some 17), (130, 130, none)]) r m (fun m' => (CSI cb c m m' ∧ (x0.toInt ≠ 0 → (m' 123 17).toInt = 0 ∨ ¬ (2 ≤ opv (m' 131 ((m' 123 17).toInt - 1).toNat) ∧ opv (m' 131 ((m' 123 17).toInt - 1).toNat) ≤ 6))) ∧ CSX m m' ∧ ((m' 123 17).toInt = 0 ∨ ¬ (4 ≤ opv (m' 131 ((m' 123 17).toInt - 1).toNat) ∧ opv (m' 131 ((m' 123 17).toInt - 1).toNat) ≤ 6)) ∧ CTZ x0.toInt m m')) 2 0 0 [.ref 123, .int x0] (mk T m n r) := by
  have Kp : fr (wl [(123, 123, some 16), (123, 123, some 17), (130, 130, none)]) m m := fr.rf
  have z173 : 0 ≤ (m 123 12).toInt ∧ (m 123 12).toInt ≤ 160 := I 123 12
  have z174 : 0 ≤ (m 123 13).toInt ∧ (m 123 13).toInt ≤ 160 := I 123 13
  have z175 : 0 ≤ (m 123 16).toInt ∧ (m 123 16).toInt ≤ 180 := I 123 16
  have z176 : 0 ≤ (m 123 17).toInt ∧ (m 123 17).toInt ≤ 180 := I 123 17
  refine PM.of 0 (lo := [.ref 123, .int x0]) rfl (by decide) rfl rfl (Nat.le_of_ble_eq_true rfl) ?_
  have lp6 : ∀ (fuel5 : Nat)  (m1 : Nat → Nat → Int32) (n2 : Nat → Nat → Int64), (CSI cb c m m1) → (CSX m m1) → (CTZ x0.toInt m m1) → IV BB m1 → fr (wl [(123, 123, some 16), (123, 123, some 17), (130, 130, none)]) m m1 → (((m1 123 17).toInt) : Int).toNat < fuel5 → PV none g mX12_closesSums (sqV T BB (wl [(123, 123, some 16), (123, 123, some 17), (130, 130, none)]) r m (fun m' => (CSI cb c m m' ∧ (x0.toInt ≠ 0 → (m' 123 17).toInt = 0 ∨ ¬ (2 ≤ opv (m' 131 ((m' 123 17).toInt - 1).toNat) ∧ opv (m' 131 ((m' 123 17).toInt - 1).toNat) ≤ 6))) ∧ CSX m m' ∧ ((m' 123 17).toInt = 0 ∨ ¬ (4 ≤ opv (m' 131 ((m' 123 17).toInt - 1).toNat) ∧ opv (m' 131 ((m' 123 17).toInt - 1).toNat) ≤ 6)) ∧ CTZ x0.toInt m m')) 2 0 0 0 [.ref 123, .int x0] [] (mk T m1 n2 r) := by
    intro fuel5
    induction fuel5 with
    | zero => intro  m1 n2 b8 b9 b10 I3 K4 z11; omega
    | succ fuel5 ih7 =>
      intro  m1 n2 b8 b9 b10 I3 K4 z11
      have z12 : 0 ≤ (m1 123 12).toInt ∧ (m1 123 12).toInt ≤ 160 := I3 123 12
      have z13 : 0 ≤ (m1 123 13).toInt ∧ (m1 123 13).toInt ≤ 160 := I3 123 13
      have z14 : 0 ≤ (m1 123 16).toInt ∧ (m1 123 16).toInt ≤ 180 := I3 123 16
      have z15 : 0 ≤ (m1 123 17).toInt ∧ (m1 123 17).toInt ≤ 180 := I3 123 17
      have kg := (show CSI cb c m m1 by assumption)
      have kg2 : (m1 123 16).toInt ≤ (m1 123 12).toInt := SLK_cm (m := m1) (by rw [kg.2.1]; exact hp2)
      have kg3 : 0 ≤ (m1 123 17).toInt := kg.2.2.2.2.1
      have kg4 : (m1 123 12).toInt ≤ 160 := (I3 123 12).2
      have kgx := (show CSX m m1 by assumption)
      have kgt := (show CTZ x0.toInt m m1 by assumption)
      have kg131 := kg.2.2.2.2.2.1
      refine pv_aload_n (M := mX12_closesSums) 0 dX12_closesSums_0 1 rfl rfl rfl ?_
      refine pv_callv (M := mX12_closesSums) (as := []) (st := []) (kc2 := 0) (ks2 := 0) dX12_closesSums_1 wd1460 YX12_top ⟨wd1462, wd69⟩ (mk_get (tl123 hT)) rfl rfl (s_X12_top g hT I3) rfl rfl (Nat.le_of_ble_eq_true rfl) (by decide) rfl rfl 4 rfl (fun rv h1 q23 => ?_)
      obtain ⟨v24, rfl, rfl, pv24, qv24, rv24⟩ := q23
      replace rv24 : (v24.toInt = -1 ∧ (m1 123 17).toInt = 0) ∨ (1 ≤ (m1 123 17).toInt ∧ v24.toInt = opv (m1 131 ((m1 123 17).toInt - 1).toNat)) := rv24
      show PV _ _ _ _ _ _ _ 4 [.ref 123, .int x0] [.int v24] _
      refine pv_iconst (M := mX12_closesSums) (v := 4) dX12_closesSums_4 5 rfl (by decide) ?_
      refine pv_icmp_lt (M := mX12_closesSums) (tgt := 17) dX12_closesSums_5 8 rfl (by decide) (fun c25 => ?_) (fun c25 => ?_)
      · have c25 := iv_lt (X := v24.toInt) (Y := 4) c25 rfl (by decide)
        refine pv_iload_n (M := mX12_closesSums) 1 dX12_closesSums_17 18 rfl rfl rfl ?_
        refine pv_if_eq (M := mX12_closesSums) (tgt := 59) dX12_closesSums_18 21 rfl (by decide) (fun c26 => ?_) (fun c26 => ?_)
        · have c26 := iv_eq (X := x0.toInt) (Y := 0) c26 rfl (by decide)
          exact pv_vret (M := mX12_closesSums) dX12_closesSums_59 rfl ⟨_, _, rfl, rfl, I3, K4, ⟨⟨kg, fun q => by omega⟩, kgx, by omega, kgt⟩⟩
        · have c26 := iv_ne (X := x0.toInt) (Y := 0) c26 rfl (by decide)
          refine pv_aload_n (M := mX12_closesSums) 0 dX12_closesSums_21 22 rfl rfl rfl ?_
          refine pv_callv (M := mX12_closesSums) (as := []) (st := []) (kc2 := 0) (ks2 := 0) dX12_closesSums_22 wd1460 YX12_top ⟨wd1462, wd69⟩ (mk_get (tl123 hT)) rfl rfl (s_X12_top g hT I3) rfl rfl (Nat.le_of_ble_eq_true rfl) (by decide) rfl rfl 25 rfl (fun rv h1 q27 => ?_)
          obtain ⟨v28, rfl, rfl, pv28, qv28, rv28⟩ := q27
          replace rv28 : (v28.toInt = -1 ∧ (m1 123 17).toInt = 0) ∨ (1 ≤ (m1 123 17).toInt ∧ v28.toInt = opv (m1 131 ((m1 123 17).toInt - 1).toNat)) := rv28
          show PV _ _ _ _ _ _ _ 25 [.ref 123, .int x0] [.int v28] _
          refine pv_iconst (M := mX12_closesSums) (v := 2) dX12_closesSums_25 26 rfl (by decide) ?_
          refine pv_icmp_eq (M := mX12_closesSums) (tgt := 37) dX12_closesSums_26 29 rfl (by decide) (fun c29 => ?_) (fun c29 => ?_)
          · have c29 := iv_eq (X := v28.toInt) (Y := 2) c29 rfl (by decide)
            refine pv_aload_n (M := mX12_closesSums) 0 dX12_closesSums_37 38 rfl rfl rfl ?_
            refine pv_aload_n (M := mX12_closesSums) 0 dX12_closesSums_38 39 rfl rfl rfl ?_
            refine pv_callv (M := mX12_closesSums) (as := []) (st := [.ref 123]) (kc2 := 0) (ks2 := 0) dX12_closesSums_39 wd1460 YX12_top ⟨wd1462, wd69⟩ (mk_get (tl123 hT)) rfl rfl (s_X12_top g hT I3) rfl rfl (Nat.le_of_ble_eq_true rfl) (by decide) rfl rfl 42 rfl (fun rv h1 q30 => ?_)
            obtain ⟨v31, rfl, rfl, pv31, qv31, rv31⟩ := q30
            replace rv31 : (v31.toInt = -1 ∧ (m1 123 17).toInt = 0) ∨ (1 ≤ (m1 123 17).toInt ∧ v31.toInt = opv (m1 131 ((m1 123 17).toInt - 1).toNat)) := rv31
            show PV _ _ _ _ _ _ _ 42 [.ref 123, .int x0] [.int v31, .ref 123] _
            refine pv_iconst (M := mX12_closesSums) (v := 0) dX12_closesSums_42 43 rfl (by decide) ?_
            have z32 : (0 : Int32).toInt = 0 := by decide
            refine pv_callv (M := mX12_closesSums) (as := [.int v31, .int 0]) (st := []) (kc2 := 0) (ks2 := 0) dX12_closesSums_43 wd1446 YX12_notes ⟨wd1448, wd67⟩ (mk_get (tl123 hT)) rfl rfl (s_X12_notes g hT I3 v31 (by omega) (by omega) 0 (by decide) (by decide) (by first | omega | assumption | exact (iv_rng _).2 | exact (iv_rng _).1 | decide)) rfl rfl (Nat.le_of_ble_eq_true rfl) (by decide) rfl rfl 46 rfl (fun rv h1 q33 => ?_)
            obtain ⟨m34, n35, rfl, rfl, I36, K37, rm34⟩ := q33
            replace rm34 : NOTE v31.toInt (0 : Int) m1 m34 := by have q_ := rm34; (try rw [z32] at q_); exact q_
            have K37c := K37
            have w38 : (m34 123 12).toInt = (m1 123 12).toInt := congrArg Int32.toInt (K37 123 12 rfl)
            have w39 : (m34 123 13).toInt = (m1 123 13).toInt := congrArg Int32.toInt (K37 123 13 rfl)
            have w40 : (m34 123 17).toInt = (m1 123 17).toInt := congrArg Int32.toInt (K37 123 17 rfl)
            have K37 := K4.trans (K37.sub (wl_sub (by decide)))
            show PV _ _ _ _ _ _ _ 46 [.ref 123, .int x0] [] _
            have kN := rm34
            refine pv_aload_n (M := mX12_closesSums) 0 dX12_closesSums_46 47 rfl rfl rfl ?_
            refine pv_aload_n (M := mX12_closesSums) 0 dX12_closesSums_47 48 rfl rfl rfl ?_
            refine iv_get (M := mX12_closesSums) (l1 := 0) (l2 := 180) dX12_closesSums_48 FX12 17 wd1190 (by decide) (tl123 hT) rfl I36 rfl 51 rfl (fun v42 ev42 pv42 qv42 => ?_)
            have wv42 : v42.toInt = (m34 123 17).toInt := congrArg Int32.toInt ev42
            refine pv_iconst (M := mX12_closesSums) (v := 1) dX12_closesSums_51 52 rfl (by decide) ?_
            refine iv_isub (M := mX12_closesSums) (X := v42.toInt) (Y := 1) dX12_closesSums_52 53 rfl rfl (by decide) (by omega) (by omega) (fun v43 ev43 => ?_)
            refine iv_put (M := mX12_closesSums) (l1 := 0) (l2 := 180) dX12_closesSums_53 FX12 17 wd1190 (by decide) rfl (tl123 hT) rfl rfl rfl I36 rfl (by omega) (by omega) 56 rfl (fun m44 e47 I45 => ?_)
            have K46 := K37.set e47 rfl
            have w48 : (m44 123 12).toInt = (m34 123 12).toInt := by rw [e47, up2_ne (by omega)]
            have w49 : (m44 123 13).toInt = (m34 123 13).toInt := by rw [e47, up2_ne (by omega)]
            have w50 : (m44 123 16).toInt = (m34 123 16).toInt := by rw [e47, up2_ne (by omega)]
            have w51 : (m44 123 17).toInt = v43.toInt := by rw [e47, up2_eq]
            refine pv_goto (M := mX12_closesSums) (tgt := 0) dX12_closesSums_56 (by decide) ?_
            have kcs := CSI.step kg hp1 (by omega) (by omega) (by omega) (by omega) kN e47 (by omega)
            have k17 : (m44 123 17).toInt = (m1 123 17).toInt - 1 := by omega
            have kcx : CSX m m44 := CSX.step kgx (by omega) (by omega) (by omega) kg131 kN (fun j => by rw [e47, up2_ne (by omega)]) (by rw [e47, up2_ne (by omega)]) k17
            have kct : CTZ x0.toInt m m44 := CTZ.step kgt (by omega) kgx.1 k17 (fun q => by rw [← kg131]; omega)
            exact ih7  m44 n35 kcs kcx kct I45 K46 (by omega)
          · have c29 := iv_ne (X := v28.toInt) (Y := 2) c29 rfl (by decide)
            refine pv_aload_n (M := mX12_closesSums) 0 dX12_closesSums_29 30 rfl rfl rfl ?_
            refine pv_callv (M := mX12_closesSums) (as := []) (st := []) (kc2 := 0) (ks2 := 0) dX12_closesSums_30 wd1460 YX12_top ⟨wd1462, wd69⟩ (mk_get (tl123 hT)) rfl rfl (s_X12_top g hT I3) rfl rfl (Nat.le_of_ble_eq_true rfl) (by decide) rfl rfl 33 rfl (fun rv h1 q56 => ?_)
            obtain ⟨v57, rfl, rfl, pv57, qv57, rv57⟩ := q56
            replace rv57 : (v57.toInt = -1 ∧ (m1 123 17).toInt = 0) ∨ (1 ≤ (m1 123 17).toInt ∧ v57.toInt = opv (m1 131 ((m1 123 17).toInt - 1).toNat)) := rv57
            show PV _ _ _ _ _ _ _ 33 [.ref 123, .int x0] [.int v57] _
            refine pv_iconst (M := mX12_closesSums) (v := 3) dX12_closesSums_33 34 rfl (by decide) ?_
            refine pv_icmp_ne (M := mX12_closesSums) (tgt := 59) dX12_closesSums_34 37 rfl (by decide) (fun c58 => ?_) (fun c58 => ?_)
            · have c58 := iv_ne (X := v57.toInt) (Y := 3) c58 rfl (by decide)
              exact pv_vret (M := mX12_closesSums) dX12_closesSums_59 rfl ⟨_, _, rfl, rfl, I3, K4, ⟨⟨kg, fun q => by omega⟩, kgx, by omega, kgt⟩⟩
            · have c58 := iv_eq (X := v57.toInt) (Y := 3) c58 rfl (by decide)
              refine pv_aload_n (M := mX12_closesSums) 0 dX12_closesSums_37 38 rfl rfl rfl ?_
              refine pv_aload_n (M := mX12_closesSums) 0 dX12_closesSums_38 39 rfl rfl rfl ?_
              refine pv_callv (M := mX12_closesSums) (as := []) (st := [.ref 123]) (kc2 := 0) (ks2 := 0) dX12_closesSums_39 wd1460 YX12_top ⟨wd1462, wd69⟩ (mk_get (tl123 hT)) rfl rfl (s_X12_top g hT I3) rfl rfl (Nat.le_of_ble_eq_true rfl) (by decide) rfl rfl 42 rfl (fun rv h1 q59 => ?_)
              obtain ⟨v60, rfl, rfl, pv60, qv60, rv60⟩ := q59
              replace rv60 : (v60.toInt = -1 ∧ (m1 123 17).toInt = 0) ∨ (1 ≤ (m1 123 17).toInt ∧ v60.toInt = opv (m1 131 ((m1 123 17).toInt - 1).toNat)) := rv60
              show PV _ _ _ _ _ _ _ 42 [.ref 123, .int x0] [.int v60, .ref 123] _
              refine pv_iconst (M := mX12_closesSums) (v := 0) dX12_closesSums_42 43 rfl (by decide) ?_
              have z61 : (0 : Int32).toInt = 0 := by decide
              refine pv_callv (M := mX12_closesSums) (as := [.int v60, .int 0]) (st := []) (kc2 := 0) (ks2 := 0) dX12_closesSums_43 wd1446 YX12_notes ⟨wd1448, wd67⟩ (mk_get (tl123 hT)) rfl rfl (s_X12_notes g hT I3 v60 (by omega) (by omega) 0 (by decide) (by decide) (by first | omega | assumption | exact (iv_rng _).2 | exact (iv_rng _).1 | decide)) rfl rfl (Nat.le_of_ble_eq_true rfl) (by decide) rfl rfl 46 rfl (fun rv h1 q62 => ?_)
              obtain ⟨m63, n64, rfl, rfl, I65, K66, rm63⟩ := q62
              replace rm63 : NOTE v60.toInt (0 : Int) m1 m63 := by have q_ := rm63; (try rw [z61] at q_); exact q_
              have K66c := K66
              have w67 : (m63 123 12).toInt = (m1 123 12).toInt := congrArg Int32.toInt (K66 123 12 rfl)
              have w68 : (m63 123 13).toInt = (m1 123 13).toInt := congrArg Int32.toInt (K66 123 13 rfl)
              have w69 : (m63 123 17).toInt = (m1 123 17).toInt := congrArg Int32.toInt (K66 123 17 rfl)
              have K66 := K4.trans (K66.sub (wl_sub (by decide)))
              show PV _ _ _ _ _ _ _ 46 [.ref 123, .int x0] [] _
              have kN := rm63
              refine pv_aload_n (M := mX12_closesSums) 0 dX12_closesSums_46 47 rfl rfl rfl ?_
              refine pv_aload_n (M := mX12_closesSums) 0 dX12_closesSums_47 48 rfl rfl rfl ?_
              refine iv_get (M := mX12_closesSums) (l1 := 0) (l2 := 180) dX12_closesSums_48 FX12 17 wd1190 (by decide) (tl123 hT) rfl I65 rfl 51 rfl (fun v71 ev71 pv71 qv71 => ?_)
              have wv71 : v71.toInt = (m63 123 17).toInt := congrArg Int32.toInt ev71
              refine pv_iconst (M := mX12_closesSums) (v := 1) dX12_closesSums_51 52 rfl (by decide) ?_
              refine iv_isub (M := mX12_closesSums) (X := v71.toInt) (Y := 1) dX12_closesSums_52 53 rfl rfl (by decide) (by omega) (by omega) (fun v72 ev72 => ?_)
              refine iv_put (M := mX12_closesSums) (l1 := 0) (l2 := 180) dX12_closesSums_53 FX12 17 wd1190 (by decide) rfl (tl123 hT) rfl rfl rfl I65 rfl (by omega) (by omega) 56 rfl (fun m73 e76 I74 => ?_)
              have K75 := K66.set e76 rfl
              have w77 : (m73 123 12).toInt = (m63 123 12).toInt := by rw [e76, up2_ne (by omega)]
              have w78 : (m73 123 13).toInt = (m63 123 13).toInt := by rw [e76, up2_ne (by omega)]
              have w79 : (m73 123 16).toInt = (m63 123 16).toInt := by rw [e76, up2_ne (by omega)]
              have w80 : (m73 123 17).toInt = v72.toInt := by rw [e76, up2_eq]
              refine pv_goto (M := mX12_closesSums) (tgt := 0) dX12_closesSums_56 (by decide) ?_
              have kcs := CSI.step kg hp1 (by omega) (by omega) (by omega) (by omega) kN e76 (by omega)
              have k17 : (m73 123 17).toInt = (m1 123 17).toInt - 1 := by omega
              have kcx : CSX m m73 := CSX.step kgx (by omega) (by omega) (by omega) kg131 kN (fun j => by rw [e76, up2_ne (by omega)]) (by rw [e76, up2_ne (by omega)]) k17
              have kct : CTZ x0.toInt m m73 := CTZ.step kgt (by omega) kgx.1 k17 (fun q => by rw [← kg131]; omega)
              exact ih7  m73 n64 kcs kcx kct I74 K75 (by omega)
      · have c25 := iv_nlt (X := v24.toInt) (Y := 4) c25 rfl (by decide)
        refine pv_aload_n (M := mX12_closesSums) 0 dX12_closesSums_8 9 rfl rfl rfl ?_
        refine pv_callv (M := mX12_closesSums) (as := []) (st := []) (kc2 := 0) (ks2 := 0) dX12_closesSums_9 wd1460 YX12_top ⟨wd1462, wd69⟩ (mk_get (tl123 hT)) rfl rfl (s_X12_top g hT I3) rfl rfl (Nat.le_of_ble_eq_true rfl) (by decide) rfl rfl 12 rfl (fun rv h1 q85 => ?_)
        obtain ⟨v86, rfl, rfl, pv86, qv86, rv86⟩ := q85
        replace rv86 : (v86.toInt = -1 ∧ (m1 123 17).toInt = 0) ∨ (1 ≤ (m1 123 17).toInt ∧ v86.toInt = opv (m1 131 ((m1 123 17).toInt - 1).toNat)) := rv86
        show PV _ _ _ _ _ _ _ 12 [.ref 123, .int x0] [.int v86] _
        refine pv_bipush (M := mX12_closesSums) (v := 6) dX12_closesSums_12 14 rfl (by decide) ?_
        refine pv_icmp_le (M := mX12_closesSums) (tgt := 37) dX12_closesSums_14 17 rfl (by decide) (fun c87 => ?_) (fun c87 => ?_)
        · have c87 := iv_le (X := v86.toInt) (Y := 6) c87 rfl (by decide)
          refine pv_aload_n (M := mX12_closesSums) 0 dX12_closesSums_37 38 rfl rfl rfl ?_
          refine pv_aload_n (M := mX12_closesSums) 0 dX12_closesSums_38 39 rfl rfl rfl ?_
          refine pv_callv (M := mX12_closesSums) (as := []) (st := [.ref 123]) (kc2 := 0) (ks2 := 0) dX12_closesSums_39 wd1460 YX12_top ⟨wd1462, wd69⟩ (mk_get (tl123 hT)) rfl rfl (s_X12_top g hT I3) rfl rfl (Nat.le_of_ble_eq_true rfl) (by decide) rfl rfl 42 rfl (fun rv h1 q88 => ?_)
          obtain ⟨v89, rfl, rfl, pv89, qv89, rv89⟩ := q88
          replace rv89 : (v89.toInt = -1 ∧ (m1 123 17).toInt = 0) ∨ (1 ≤ (m1 123 17).toInt ∧ v89.toInt = opv (m1 131 ((m1 123 17).toInt - 1).toNat)) := rv89
          show PV _ _ _ _ _ _ _ 42 [.ref 123, .int x0] [.int v89, .ref 123] _
          refine pv_iconst (M := mX12_closesSums) (v := 0) dX12_closesSums_42 43 rfl (by decide) ?_
          have z90 : (0 : Int32).toInt = 0 := by decide
          refine pv_callv (M := mX12_closesSums) (as := [.int v89, .int 0]) (st := []) (kc2 := 0) (ks2 := 0) dX12_closesSums_43 wd1446 YX12_notes ⟨wd1448, wd67⟩ (mk_get (tl123 hT)) rfl rfl (s_X12_notes g hT I3 v89 (by omega) (by omega) 0 (by decide) (by decide) (by first | omega | assumption | exact (iv_rng _).2 | exact (iv_rng _).1 | decide)) rfl rfl (Nat.le_of_ble_eq_true rfl) (by decide) rfl rfl 46 rfl (fun rv h1 q91 => ?_)
          obtain ⟨m92, n93, rfl, rfl, I94, K95, rm92⟩ := q91
          replace rm92 : NOTE v89.toInt (0 : Int) m1 m92 := by have q_ := rm92; (try rw [z90] at q_); exact q_
          have K95c := K95
          have w96 : (m92 123 12).toInt = (m1 123 12).toInt := congrArg Int32.toInt (K95 123 12 rfl)
          have w97 : (m92 123 13).toInt = (m1 123 13).toInt := congrArg Int32.toInt (K95 123 13 rfl)
          have w98 : (m92 123 17).toInt = (m1 123 17).toInt := congrArg Int32.toInt (K95 123 17 rfl)
          have K95 := K4.trans (K95.sub (wl_sub (by decide)))
          show PV _ _ _ _ _ _ _ 46 [.ref 123, .int x0] [] _
          have kN := rm92
          refine pv_aload_n (M := mX12_closesSums) 0 dX12_closesSums_46 47 rfl rfl rfl ?_
          refine pv_aload_n (M := mX12_closesSums) 0 dX12_closesSums_47 48 rfl rfl rfl ?_
          refine iv_get (M := mX12_closesSums) (l1 := 0) (l2 := 180) dX12_closesSums_48 FX12 17 wd1190 (by decide) (tl123 hT) rfl I94 rfl 51 rfl (fun v100 ev100 pv100 qv100 => ?_)
          have wv100 : v100.toInt = (m92 123 17).toInt := congrArg Int32.toInt ev100
          refine pv_iconst (M := mX12_closesSums) (v := 1) dX12_closesSums_51 52 rfl (by decide) ?_
          refine iv_isub (M := mX12_closesSums) (X := v100.toInt) (Y := 1) dX12_closesSums_52 53 rfl rfl (by decide) (by omega) (by omega) (fun v101 ev101 => ?_)
          refine iv_put (M := mX12_closesSums) (l1 := 0) (l2 := 180) dX12_closesSums_53 FX12 17 wd1190 (by decide) rfl (tl123 hT) rfl rfl rfl I94 rfl (by omega) (by omega) 56 rfl (fun m102 e105 I103 => ?_)
          have K104 := K95.set e105 rfl
          have w106 : (m102 123 12).toInt = (m92 123 12).toInt := by rw [e105, up2_ne (by omega)]
          have w107 : (m102 123 13).toInt = (m92 123 13).toInt := by rw [e105, up2_ne (by omega)]
          have w108 : (m102 123 16).toInt = (m92 123 16).toInt := by rw [e105, up2_ne (by omega)]
          have w109 : (m102 123 17).toInt = v101.toInt := by rw [e105, up2_eq]
          refine pv_goto (M := mX12_closesSums) (tgt := 0) dX12_closesSums_56 (by decide) ?_
          have kcs := CSI.step kg hp1 (by omega) (by omega) (by omega) (by omega) kN e105 (by omega)
          have k17 : (m102 123 17).toInt = (m1 123 17).toInt - 1 := by omega
          have kcx : CSX m m102 := CSX.step kgx (by omega) (by omega) (by omega) kg131 kN (fun j => by rw [e105, up2_ne (by omega)]) (by rw [e105, up2_ne (by omega)]) k17
          have kct : CTZ x0.toInt m m102 := CTZ.step kgt (by omega) kgx.1 k17 (fun q => by rw [← kg131]; omega)
          exact ih7  m102 n93 kcs kcx kct I103 K104 (by omega)
        · have c87 := iv_nle (X := v86.toInt) (Y := 6) c87 rfl (by decide)
          refine pv_iload_n (M := mX12_closesSums) 1 dX12_closesSums_17 18 rfl rfl rfl ?_
          refine pv_if_eq (M := mX12_closesSums) (tgt := 59) dX12_closesSums_18 21 rfl (by decide) (fun c114 => ?_) (fun c114 => ?_)
          · have c114 := iv_eq (X := x0.toInt) (Y := 0) c114 rfl (by decide)
            exact pv_vret (M := mX12_closesSums) dX12_closesSums_59 rfl ⟨_, _, rfl, rfl, I3, K4, ⟨⟨kg, fun q => by omega⟩, kgx, by omega, kgt⟩⟩
          · have c114 := iv_ne (X := x0.toInt) (Y := 0) c114 rfl (by decide)
            refine pv_aload_n (M := mX12_closesSums) 0 dX12_closesSums_21 22 rfl rfl rfl ?_
            refine pv_callv (M := mX12_closesSums) (as := []) (st := []) (kc2 := 0) (ks2 := 0) dX12_closesSums_22 wd1460 YX12_top ⟨wd1462, wd69⟩ (mk_get (tl123 hT)) rfl rfl (s_X12_top g hT I3) rfl rfl (Nat.le_of_ble_eq_true rfl) (by decide) rfl rfl 25 rfl (fun rv h1 q115 => ?_)
            obtain ⟨v116, rfl, rfl, pv116, qv116, rv116⟩ := q115
            replace rv116 : (v116.toInt = -1 ∧ (m1 123 17).toInt = 0) ∨ (1 ≤ (m1 123 17).toInt ∧ v116.toInt = opv (m1 131 ((m1 123 17).toInt - 1).toNat)) := rv116
            show PV _ _ _ _ _ _ _ 25 [.ref 123, .int x0] [.int v116] _
            refine pv_iconst (M := mX12_closesSums) (v := 2) dX12_closesSums_25 26 rfl (by decide) ?_
            refine pv_icmp_eq (M := mX12_closesSums) (tgt := 37) dX12_closesSums_26 29 rfl (by decide) (fun c117 => ?_) (fun c117 => ?_)
            · have c117 := iv_eq (X := v116.toInt) (Y := 2) c117 rfl (by decide)
              refine pv_aload_n (M := mX12_closesSums) 0 dX12_closesSums_37 38 rfl rfl rfl ?_
              refine pv_aload_n (M := mX12_closesSums) 0 dX12_closesSums_38 39 rfl rfl rfl ?_
              refine pv_callv (M := mX12_closesSums) (as := []) (st := [.ref 123]) (kc2 := 0) (ks2 := 0) dX12_closesSums_39 wd1460 YX12_top ⟨wd1462, wd69⟩ (mk_get (tl123 hT)) rfl rfl (s_X12_top g hT I3) rfl rfl (Nat.le_of_ble_eq_true rfl) (by decide) rfl rfl 42 rfl (fun rv h1 q118 => ?_)
              obtain ⟨v119, rfl, rfl, pv119, qv119, rv119⟩ := q118
              replace rv119 : (v119.toInt = -1 ∧ (m1 123 17).toInt = 0) ∨ (1 ≤ (m1 123 17).toInt ∧ v119.toInt = opv (m1 131 ((m1 123 17).toInt - 1).toNat)) := rv119
              show PV _ _ _ _ _ _ _ 42 [.ref 123, .int x0] [.int v119, .ref 123] _
              refine pv_iconst (M := mX12_closesSums) (v := 0) dX12_closesSums_42 43 rfl (by decide) ?_
              have z120 : (0 : Int32).toInt = 0 := by decide
              refine pv_callv (M := mX12_closesSums) (as := [.int v119, .int 0]) (st := []) (kc2 := 0) (ks2 := 0) dX12_closesSums_43 wd1446 YX12_notes ⟨wd1448, wd67⟩ (mk_get (tl123 hT)) rfl rfl (s_X12_notes g hT I3 v119 (by omega) (by omega) 0 (by decide) (by decide) (by first | omega | assumption | exact (iv_rng _).2 | exact (iv_rng _).1 | decide)) rfl rfl (Nat.le_of_ble_eq_true rfl) (by decide) rfl rfl 46 rfl (fun rv h1 q121 => ?_)
              obtain ⟨m122, n123, rfl, rfl, I124, K125, rm122⟩ := q121
              replace rm122 : NOTE v119.toInt (0 : Int) m1 m122 := by have q_ := rm122; (try rw [z120] at q_); exact q_
              have K125c := K125
              have w126 : (m122 123 12).toInt = (m1 123 12).toInt := congrArg Int32.toInt (K125 123 12 rfl)
              have w127 : (m122 123 13).toInt = (m1 123 13).toInt := congrArg Int32.toInt (K125 123 13 rfl)
              have w128 : (m122 123 17).toInt = (m1 123 17).toInt := congrArg Int32.toInt (K125 123 17 rfl)
              have K125 := K4.trans (K125.sub (wl_sub (by decide)))
              show PV _ _ _ _ _ _ _ 46 [.ref 123, .int x0] [] _
              have kN := rm122
              refine pv_aload_n (M := mX12_closesSums) 0 dX12_closesSums_46 47 rfl rfl rfl ?_
              refine pv_aload_n (M := mX12_closesSums) 0 dX12_closesSums_47 48 rfl rfl rfl ?_
              refine iv_get (M := mX12_closesSums) (l1 := 0) (l2 := 180) dX12_closesSums_48 FX12 17 wd1190 (by decide) (tl123 hT) rfl I124 rfl 51 rfl (fun v130 ev130 pv130 qv130 => ?_)
              have wv130 : v130.toInt = (m122 123 17).toInt := congrArg Int32.toInt ev130
              refine pv_iconst (M := mX12_closesSums) (v := 1) dX12_closesSums_51 52 rfl (by decide) ?_
              refine iv_isub (M := mX12_closesSums) (X := v130.toInt) (Y := 1) dX12_closesSums_52 53 rfl rfl (by decide) (by omega) (by omega) (fun v131 ev131 => ?_)
              refine iv_put (M := mX12_closesSums) (l1 := 0) (l2 := 180) dX12_closesSums_53 FX12 17 wd1190 (by decide) rfl (tl123 hT) rfl rfl rfl I124 rfl (by omega) (by omega) 56 rfl (fun m132 e135 I133 => ?_)
              have K134 := K125.set e135 rfl
              have w136 : (m132 123 12).toInt = (m122 123 12).toInt := by rw [e135, up2_ne (by omega)]
              have w137 : (m132 123 13).toInt = (m122 123 13).toInt := by rw [e135, up2_ne (by omega)]
              have w138 : (m132 123 16).toInt = (m122 123 16).toInt := by rw [e135, up2_ne (by omega)]
              have w139 : (m132 123 17).toInt = v131.toInt := by rw [e135, up2_eq]
              refine pv_goto (M := mX12_closesSums) (tgt := 0) dX12_closesSums_56 (by decide) ?_
              have kcs := CSI.step kg hp1 (by omega) (by omega) (by omega) (by omega) kN e135 (by omega)
              have k17 : (m132 123 17).toInt = (m1 123 17).toInt - 1 := by omega
              have kcx : CSX m m132 := CSX.step kgx (by omega) (by omega) (by omega) kg131 kN (fun j => by rw [e135, up2_ne (by omega)]) (by rw [e135, up2_ne (by omega)]) k17
              have kct : CTZ x0.toInt m m132 := CTZ.step kgt (by omega) kgx.1 k17 (fun q => by rw [← kg131]; omega)
              exact ih7  m132 n123 kcs kcx kct I133 K134 (by omega)
            · have c117 := iv_ne (X := v116.toInt) (Y := 2) c117 rfl (by decide)
              refine pv_aload_n (M := mX12_closesSums) 0 dX12_closesSums_29 30 rfl rfl rfl ?_
              refine pv_callv (M := mX12_closesSums) (as := []) (st := []) (kc2 := 0) (ks2 := 0) dX12_closesSums_30 wd1460 YX12_top ⟨wd1462, wd69⟩ (mk_get (tl123 hT)) rfl rfl (s_X12_top g hT I3) rfl rfl (Nat.le_of_ble_eq_true rfl) (by decide) rfl rfl 33 rfl (fun rv h1 q144 => ?_)
              obtain ⟨v145, rfl, rfl, pv145, qv145, rv145⟩ := q144
              replace rv145 : (v145.toInt = -1 ∧ (m1 123 17).toInt = 0) ∨ (1 ≤ (m1 123 17).toInt ∧ v145.toInt = opv (m1 131 ((m1 123 17).toInt - 1).toNat)) := rv145
              show PV _ _ _ _ _ _ _ 33 [.ref 123, .int x0] [.int v145] _
              refine pv_iconst (M := mX12_closesSums) (v := 3) dX12_closesSums_33 34 rfl (by decide) ?_
              refine pv_icmp_ne (M := mX12_closesSums) (tgt := 59) dX12_closesSums_34 37 rfl (by decide) (fun c146 => ?_) (fun c146 => ?_)
              · have c146 := iv_ne (X := v145.toInt) (Y := 3) c146 rfl (by decide)
                exact pv_vret (M := mX12_closesSums) dX12_closesSums_59 rfl ⟨_, _, rfl, rfl, I3, K4, ⟨⟨kg, fun q => by omega⟩, kgx, by omega, kgt⟩⟩
              · have c146 := iv_eq (X := v145.toInt) (Y := 3) c146 rfl (by decide)
                refine pv_aload_n (M := mX12_closesSums) 0 dX12_closesSums_37 38 rfl rfl rfl ?_
                refine pv_aload_n (M := mX12_closesSums) 0 dX12_closesSums_38 39 rfl rfl rfl ?_
                refine pv_callv (M := mX12_closesSums) (as := []) (st := [.ref 123]) (kc2 := 0) (ks2 := 0) dX12_closesSums_39 wd1460 YX12_top ⟨wd1462, wd69⟩ (mk_get (tl123 hT)) rfl rfl (s_X12_top g hT I3) rfl rfl (Nat.le_of_ble_eq_true rfl) (by decide) rfl rfl 42 rfl (fun rv h1 q147 => ?_)
                obtain ⟨v148, rfl, rfl, pv148, qv148, rv148⟩ := q147
                replace rv148 : (v148.toInt = -1 ∧ (m1 123 17).toInt = 0) ∨ (1 ≤ (m1 123 17).toInt ∧ v148.toInt = opv (m1 131 ((m1 123 17).toInt - 1).toNat)) := rv148
                show PV _ _ _ _ _ _ _ 42 [.ref 123, .int x0] [.int v148, .ref 123] _
                refine pv_iconst (M := mX12_closesSums) (v := 0) dX12_closesSums_42 43 rfl (by decide) ?_
                have z149 : (0 : Int32).toInt = 0 := by decide
                refine pv_callv (M := mX12_closesSums) (as := [.int v148, .int 0]) (st := []) (kc2 := 0) (ks2 := 0) dX12_closesSums_43 wd1446 YX12_notes ⟨wd1448, wd67⟩ (mk_get (tl123 hT)) rfl rfl (s_X12_notes g hT I3 v148 (by omega) (by omega) 0 (by decide) (by decide) (by first | omega | assumption | exact (iv_rng _).2 | exact (iv_rng _).1 | decide)) rfl rfl (Nat.le_of_ble_eq_true rfl) (by decide) rfl rfl 46 rfl (fun rv h1 q150 => ?_)
                obtain ⟨m151, n152, rfl, rfl, I153, K154, rm151⟩ := q150
                replace rm151 : NOTE v148.toInt (0 : Int) m1 m151 := by have q_ := rm151; (try rw [z149] at q_); exact q_
                have K154c := K154
                have w155 : (m151 123 12).toInt = (m1 123 12).toInt := congrArg Int32.toInt (K154 123 12 rfl)
                have w156 : (m151 123 13).toInt = (m1 123 13).toInt := congrArg Int32.toInt (K154 123 13 rfl)
                have w157 : (m151 123 17).toInt = (m1 123 17).toInt := congrArg Int32.toInt (K154 123 17 rfl)
                have K154 := K4.trans (K154.sub (wl_sub (by decide)))
                show PV _ _ _ _ _ _ _ 46 [.ref 123, .int x0] [] _
                have kN := rm151
                refine pv_aload_n (M := mX12_closesSums) 0 dX12_closesSums_46 47 rfl rfl rfl ?_
                refine pv_aload_n (M := mX12_closesSums) 0 dX12_closesSums_47 48 rfl rfl rfl ?_
                refine iv_get (M := mX12_closesSums) (l1 := 0) (l2 := 180) dX12_closesSums_48 FX12 17 wd1190 (by decide) (tl123 hT) rfl I153 rfl 51 rfl (fun v159 ev159 pv159 qv159 => ?_)
                have wv159 : v159.toInt = (m151 123 17).toInt := congrArg Int32.toInt ev159
                refine pv_iconst (M := mX12_closesSums) (v := 1) dX12_closesSums_51 52 rfl (by decide) ?_
                refine iv_isub (M := mX12_closesSums) (X := v159.toInt) (Y := 1) dX12_closesSums_52 53 rfl rfl (by decide) (by omega) (by omega) (fun v160 ev160 => ?_)
                refine iv_put (M := mX12_closesSums) (l1 := 0) (l2 := 180) dX12_closesSums_53 FX12 17 wd1190 (by decide) rfl (tl123 hT) rfl rfl rfl I153 rfl (by omega) (by omega) 56 rfl (fun m161 e164 I162 => ?_)
                have K163 := K154.set e164 rfl
                have w165 : (m161 123 12).toInt = (m151 123 12).toInt := by rw [e164, up2_ne (by omega)]
                have w166 : (m161 123 13).toInt = (m151 123 13).toInt := by rw [e164, up2_ne (by omega)]
                have w167 : (m161 123 16).toInt = (m151 123 16).toInt := by rw [e164, up2_ne (by omega)]
                have w168 : (m161 123 17).toInt = v160.toInt := by rw [e164, up2_eq]
                refine pv_goto (M := mX12_closesSums) (tgt := 0) dX12_closesSums_56 (by decide) ?_
                have kcs := CSI.step kg hp1 (by omega) (by omega) (by omega) (by omega) kN e164 (by omega)
                have k17 : (m161 123 17).toInt = (m1 123 17).toInt - 1 := by omega
                have kcx : CSX m m161 := CSX.step kgx (by omega) (by omega) (by omega) kg131 kN (fun j => by rw [e164, up2_ne (by omega)]) (by rw [e164, up2_ne (by omega)]) k17
                have kct : CTZ x0.toInt m m161 := CTZ.step kgt (by omega) kgx.1 k17 (fun q => by rw [← kg131]; omega)
                exact ih7  m161 n152 kcs kcx kct I162 K163 (by omega)
  exact lp6 ((((m 123 17).toInt) : Int).toNat + 1)  m n (CSI.start hp0 (by have := (I 123 17).1; exact this)) (CSX.start (by omega)) CTZ.start I Kp (by omega)

set_option maxHeartbeats 2000000 in
set_option maxRecDepth 20000 in
theorem s_X12_endsPiece_vz (g : pv_G) {T : List mv_T} {m : Nat → Nat → Int32} {n : Nat → Nat → Int64} {r : Nat → Value} (hT : TX T) (I : IV BB m) (cb : Int) (c : Int) (hp0 : HW cb c m) (hp1 : 1 ≤ c) (hp2 : 0 ≤ SLK m) (hp3 : 0 ≤ (m 123 15).toInt) (hp4 : (m 123 15).toInt ≤ 6) : PM g mX12_endsPiece yX12_endsPiece (sqV T BB (wl [(123, 123, some 15), (123, 123, some 16), (123, 123, some 17), (130, 130, none)]) r m (fun m' => ((EPI cb c m m' ∧ ((m' 123 17).toInt = 0 ∨ opv (m' 131 ((m' 123 17).toInt - 1).toNat) ≠ 10)) ∧ (m' 123 15).toInt - (m' 123 17).toInt = (m 123 15).toInt - (m 123 17).toInt) ∧ CSX m m')) 2 0 0 [.ref 123] (mk T m n r) := by
  have Kp : fr (wl [(123, 123, some 15), (123, 123, some 16), (123, 123, some 17), (130, 130, none)]) m m := fr.rf
  have z64 : 0 ≤ (m 123 12).toInt ∧ (m 123 12).toInt ≤ 160 := I 123 12
  have z65 : 0 ≤ (m 123 13).toInt ∧ (m 123 13).toInt ≤ 160 := I 123 13
  have z66 : 0 ≤ (m 123 16).toInt ∧ (m 123 16).toInt ≤ 180 := I 123 16
  have z67 : 0 ≤ (m 123 17).toInt ∧ (m 123 17).toInt ≤ 180 := I 123 17
  refine PM.of 0 (lo := [.ref 123]) rfl (by decide) rfl rfl (Nat.le_of_ble_eq_true rfl) ?_
  have lp6 : ∀ (fuel5 : Nat)  (m1 : Nat → Nat → Int32) (n2 : Nat → Nat → Int64), (EPI cb c m m1) → ((m1 123 15).toInt - (m1 123 17).toInt = (m 123 15).toInt - (m 123 17).toInt) → (CSX m m1) → IV BB m1 → fr (wl [(123, 123, some 15), (123, 123, some 16), (123, 123, some 17), (130, 130, none)]) m m1 → (((m1 123 17).toInt) : Int).toNat < fuel5 → PV none g mX12_endsPiece (sqV T BB (wl [(123, 123, some 15), (123, 123, some 16), (123, 123, some 17), (130, 130, none)]) r m (fun m' => ((EPI cb c m m' ∧ ((m' 123 17).toInt = 0 ∨ opv (m' 131 ((m' 123 17).toInt - 1).toNat) ≠ 10)) ∧ (m' 123 15).toInt - (m' 123 17).toInt = (m 123 15).toInt - (m 123 17).toInt) ∧ CSX m m')) 2 0 0 0 [.ref 123] [] (mk T m1 n2 r) := by
    intro fuel5
    induction fuel5 with
    | zero => intro  m1 n2 b8 b9 b10 I3 K4 z11; omega
    | succ fuel5 ih7 =>
      intro  m1 n2 b8 b9 b10 I3 K4 z11
      have z12 : 0 ≤ (m1 123 12).toInt ∧ (m1 123 12).toInt ≤ 160 := I3 123 12
      have z13 : 0 ≤ (m1 123 13).toInt ∧ (m1 123 13).toInt ≤ 160 := I3 123 13
      have z14 : 0 ≤ (m1 123 16).toInt ∧ (m1 123 16).toInt ≤ 180 := I3 123 16
      have z15 : 0 ≤ (m1 123 17).toInt ∧ (m1 123 17).toInt ≤ 180 := I3 123 17
      have kg := (show EPI cb c m m1 by assumption)
      have kg2 : (m1 123 16).toInt ≤ (m1 123 12).toInt := SLK_cm (m := m1) (by rw [kg.2.1]; exact hp2)
      have kg3 : 0 ≤ (m1 123 17).toInt := kg.2.2.2.2.1
      have kg4 : (m1 123 12).toInt ≤ 160 := (I3 123 12).2
      have kgx := (show CSX m m1 by assumption)
      have kg131 := kg.2.2.2.2.2.1
      refine pv_aload_n (M := mX12_endsPiece) 0 dX12_endsPiece_0 1 rfl rfl rfl ?_
      refine pv_callv (M := mX12_endsPiece) (as := []) (st := []) (kc2 := 0) (ks2 := 0) dX12_endsPiece_1 wd1460 YX12_top ⟨wd1462, wd69⟩ (mk_get (tl123 hT)) rfl rfl (s_X12_top g hT I3) rfl rfl (Nat.le_of_ble_eq_true rfl) (by decide) rfl rfl 4 rfl (fun rv h1 q22 => ?_)
      obtain ⟨v23, rfl, rfl, pv23, qv23, rv23⟩ := q22
      replace rv23 : (v23.toInt = -1 ∧ (m1 123 17).toInt = 0) ∨ (1 ≤ (m1 123 17).toInt ∧ v23.toInt = opv (m1 131 ((m1 123 17).toInt - 1).toNat)) := rv23
      show PV _ _ _ _ _ _ _ 4 [.ref 123] [.int v23] _
      refine pv_bipush (M := mX12_endsPiece) (v := 10) dX12_endsPiece_4 6 rfl (by decide) ?_
      refine pv_icmp_ne (M := mX12_endsPiece) (tgt := 39) dX12_endsPiece_6 9 rfl (by decide) (fun c24 => ?_) (fun c24 => ?_)
      · have c24 := iv_ne (X := v23.toInt) (Y := 10) c24 rfl (by decide)
        exact pv_vret (M := mX12_endsPiece) dX12_endsPiece_39 rfl ⟨_, _, rfl, rfl, I3, K4, ⟨⟨⟨kg, by omega⟩, by omega⟩, kgx⟩⟩
      · have c24 := iv_eq (X := v23.toInt) (Y := 10) c24 rfl (by decide)
        refine pv_aload_n (M := mX12_endsPiece) 0 dX12_endsPiece_9 10 rfl rfl rfl ?_
        refine pv_bipush (M := mX12_endsPiece) (v := 10) dX12_endsPiece_10 12 rfl (by decide) ?_
        refine pv_iconst (M := mX12_endsPiece) (v := 0) dX12_endsPiece_12 13 rfl (by decide) ?_
        have z25 : (10 : Int32).toInt = 10 := by decide
        have z26 : (0 : Int32).toInt = 0 := by decide
        refine pv_callv (M := mX12_endsPiece) (as := [.int 10, .int 0]) (st := []) (kc2 := 0) (ks2 := 0) dX12_endsPiece_13 wd1446 YX12_notes ⟨wd1448, wd67⟩ (mk_get (tl123 hT)) rfl rfl (s_X12_notes g hT I3 10 (by decide) (by decide) 0 (by decide) (by decide) (by first | omega | assumption | exact (iv_rng _).2 | exact (iv_rng _).1 | decide)) rfl rfl (Nat.le_of_ble_eq_true rfl) (by decide) rfl rfl 16 rfl (fun rv h1 q27 => ?_)
        obtain ⟨m28, n29, rfl, rfl, I30, K31, rm28⟩ := q27
        replace rm28 : NOTE (10 : Int) (0 : Int) m1 m28 := by have q_ := rm28; (try rw [z25] at q_); (try rw [z26] at q_); exact q_
        have K31c := K31
        have w32 : (m28 123 12).toInt = (m1 123 12).toInt := congrArg Int32.toInt (K31 123 12 rfl)
        have w33 : (m28 123 13).toInt = (m1 123 13).toInt := congrArg Int32.toInt (K31 123 13 rfl)
        have w34 : (m28 123 17).toInt = (m1 123 17).toInt := congrArg Int32.toInt (K31 123 17 rfl)
        have w35 : (m28 123 14).toInt = (m1 123 14).toInt := congrArg Int32.toInt (K31 123 14 rfl)
        have w36 : (m28 123 15).toInt = (m1 123 15).toInt := congrArg Int32.toInt (K31 123 15 rfl)
        have K31 := K4.trans (K31.sub (wl_sub (by decide)))
        show PV _ _ _ _ _ _ _ 16 [.ref 123] [] _
        have kN := rm28
        refine pv_aload_n (M := mX12_endsPiece) 0 dX12_endsPiece_16 17 rfl rfl rfl ?_
        refine pv_aload_n (M := mX12_endsPiece) 0 dX12_endsPiece_17 18 rfl rfl rfl ?_
        refine iv_get (M := mX12_endsPiece) (l1 := 0) (l2 := 180) dX12_endsPiece_18 FX12 17 wd1190 (by decide) (tl123 hT) rfl I30 rfl 21 rfl (fun v38 ev38 pv38 qv38 => ?_)
        have wv38 : v38.toInt = (m28 123 17).toInt := congrArg Int32.toInt ev38
        refine pv_iconst (M := mX12_endsPiece) (v := 1) dX12_endsPiece_21 22 rfl (by decide) ?_
        refine iv_isub (M := mX12_endsPiece) (X := v38.toInt) (Y := 1) dX12_endsPiece_22 23 rfl rfl (by decide) (by omega) (by omega) (fun v39 ev39 => ?_)
        refine iv_put (M := mX12_endsPiece) (l1 := 0) (l2 := 180) dX12_endsPiece_23 FX12 17 wd1190 (by decide) rfl (tl123 hT) rfl rfl rfl I30 rfl (by omega) (by omega) 26 rfl (fun m40 e43 I41 => ?_)
        have K42 := K31.set e43 rfl
        have w44 : (m40 123 12).toInt = (m28 123 12).toInt := by rw [e43, up2_ne (by omega)]
        have w45 : (m40 123 13).toInt = (m28 123 13).toInt := by rw [e43, up2_ne (by omega)]
        have w46 : (m40 123 16).toInt = (m28 123 16).toInt := by rw [e43, up2_ne (by omega)]
        have w47 : (m40 123 17).toInt = v39.toInt := by rw [e43, up2_eq]
        have w48 : (m40 123 14).toInt = (m28 123 14).toInt := by rw [e43, up2_ne (by omega)]
        have w49 : (m40 123 15).toInt = (m28 123 15).toInt := by rw [e43, up2_ne (by omega)]
        refine pv_aload_n (M := mX12_endsPiece) 0 dX12_endsPiece_26 27 rfl rfl rfl ?_
        refine pv_aload_n (M := mX12_endsPiece) 0 dX12_endsPiece_27 28 rfl rfl rfl ?_
        refine iv_get (M := mX12_endsPiece) (l1 := (-2147483648)) (l2 := 2147483647) dX12_endsPiece_28 FX12 15 wd1188 (by decide) (tl123 hT) rfl I41 rfl 31 rfl (fun v50 ev50 pv50 qv50 => ?_)
        have wv50 : v50.toInt = (m40 123 15).toInt := congrArg Int32.toInt ev50
        refine pv_iconst (M := mX12_endsPiece) (v := 1) dX12_endsPiece_31 32 rfl (by decide) ?_
        refine iv_isub (M := mX12_endsPiece) (X := v50.toInt) (Y := 1) dX12_endsPiece_32 33 rfl rfl (by decide) (by omega) (by omega) (fun v51 ev51 => ?_)
        refine iv_put (M := mX12_endsPiece) (l1 := (-2147483648)) (l2 := 2147483647) dX12_endsPiece_33 FX12 15 wd1188 (by decide) rfl (tl123 hT) rfl rfl rfl I41 rfl (iv_rng v51).1 (iv_rng v51).2 36 rfl (fun m52 e55 I53 => ?_)
        have K54 := K42.set e55 rfl
        have w56 : (m52 123 12).toInt = (m40 123 12).toInt := by rw [e55, up2_ne (by omega)]
        have w57 : (m52 123 13).toInt = (m40 123 13).toInt := by rw [e55, up2_ne (by omega)]
        have w58 : (m52 123 16).toInt = (m40 123 16).toInt := by rw [e55, up2_ne (by omega)]
        have w59 : (m52 123 17).toInt = (m40 123 17).toInt := by rw [e55, up2_ne (by omega)]
        have w60 : (m52 123 14).toInt = (m40 123 14).toInt := by rw [e55, up2_ne (by omega)]
        have w61 : (m52 123 15).toInt = v51.toInt := by rw [e55, up2_eq]
        refine pv_goto (M := mX12_endsPiece) (tgt := 0) dX12_endsPiece_36 (by decide) ?_
        have kes := EPI.step kg hp1 (by omega) (by omega) kN e43 (by omega) e55
        have kcx : CSX m m52 := CSX.step kgx (by omega) (by omega) (by omega) kg131 kN (fun j => by rw [e55, up2_ne (by omega), e43, up2_ne (by omega)]) (by rw [e55, up2_ne (by omega), e43, up2_ne (by omega)]) (by omega)
        exact ih7  m52 n29 kes (by first | omega | assumption | (show (m52 123 15).toInt - (m52 123 17).toInt = (m 123 15).toInt - (m 123 17).toInt; omega) | decide) kcx I53 K54 (by omega)
  exact lp6 ((((m 123 17).toInt) : Int).toNat + 1)  m n (EPI.start hp0 (by omega)) (by first | omega | assumption | (show (m 123 15).toInt - (m 123 17).toInt = (m 123 15).toInt - (m 123 17).toInt; omega) | decide) (CSX.start (by omega)) I Kp (by omega)

set_option maxHeartbeats 2000000 in
set_option maxRecDepth 20000 in
theorem s_X12_lands_vz (g : pv_G) {T : List mv_T} {m : Nat → Nat → Int32} {n : Nat → Nat → Int64} {r : Nat → Value} (hT : TX T) (I : IV BB m) (x0 : Int32) (hl0 : 0 ≤ x0.toInt) (hh0 : x0.toInt ≤ 1) (cb : Int) (c : Int) (hp0 : HW cb c m) (hp1 : c + OPS m ≤ 1) (hp2 : 0 ≤ SLK m) : PM g mX12_lands yX12_lands (sqV T BB (wl [(123, 123, some 17), (130, 130, none)]) r m (fun m' => (LDI cb c m m' ∧ (x0.toInt ≠ 0 → (m' 123 17).toInt = 0 ∨ (opv (m' 131 ((m' 123 17).toInt - 1).toNat) ≠ 11 ∧ opv (m' 131 ((m' 123 17).toInt - 1).toNat) ≠ 12))) ∧ LDX m m' ∧ ((m' 123 17).toInt = 0 ∨ opv (m' 131 ((m' 123 17).toInt - 1).toNat) ≠ 11) ∧ LTZ x0.toInt m m')) 2 0 0 [.ref 123, .int x0] (mk T m n r) := by
  have Kp : fr (wl [(123, 123, some 17), (130, 130, none)]) m m := fr.rf
  have z102 : 0 ≤ (m 123 12).toInt ∧ (m 123 12).toInt ≤ 160 := I 123 12
  have z103 : 0 ≤ (m 123 13).toInt ∧ (m 123 13).toInt ≤ 160 := I 123 13
  have z104 : 0 ≤ (m 123 16).toInt ∧ (m 123 16).toInt ≤ 180 := I 123 16
  have z105 : 0 ≤ (m 123 17).toInt ∧ (m 123 17).toInt ≤ 180 := I 123 17
  refine PM.of 1 (lo := [.ref 123, .int x0, pv_U]) rfl (by decide) rfl rfl (Nat.le_of_ble_eq_true rfl) ?_
  have lp6 : ∀ (fuel5 : Nat)  (m1 : Nat → Nat → Int32) (n2 : Nat → Nat → Int64), (LDI cb c m m1) → (LDX m m1) → (LTZ x0.toInt m m1) → IV BB m1 → fr (wl [(123, 123, some 17), (130, 130, none)]) m m1 → (((m1 123 17).toInt) : Int).toNat < fuel5 → PV none g mX12_lands (sqV T BB (wl [(123, 123, some 17), (130, 130, none)]) r m (fun m' => (LDI cb c m m' ∧ (x0.toInt ≠ 0 → (m' 123 17).toInt = 0 ∨ (opv (m' 131 ((m' 123 17).toInt - 1).toNat) ≠ 11 ∧ opv (m' 131 ((m' 123 17).toInt - 1).toNat) ≠ 12))) ∧ LDX m m' ∧ ((m' 123 17).toInt = 0 ∨ opv (m' 131 ((m' 123 17).toInt - 1).toNat) ≠ 11) ∧ LTZ x0.toInt m m')) 2 0 0 0 [.ref 123, .int x0, pv_U] [] (mk T m1 n2 r) := by
    intro fuel5
    induction fuel5 with
    | zero => intro  m1 n2 b8 b9 b10 I3 K4 z11; omega
    | succ fuel5 ih7 =>
      intro  m1 n2 b8 b9 b10 I3 K4 z11
      have z12 : 0 ≤ (m1 123 12).toInt ∧ (m1 123 12).toInt ≤ 160 := I3 123 12
      have z13 : 0 ≤ (m1 123 13).toInt ∧ (m1 123 13).toInt ≤ 160 := I3 123 13
      have z14 : 0 ≤ (m1 123 16).toInt ∧ (m1 123 16).toInt ≤ 180 := I3 123 16
      have z15 : 0 ≤ (m1 123 17).toInt ∧ (m1 123 17).toInt ≤ 180 := I3 123 17
      have kg := (show LDI cb c m m1 by assumption)
      have kg2 : (m1 123 16).toInt ≤ (m1 123 12).toInt := SLK_cm (m := m1) (by rw [kg.2.1]; exact hp2)
      have kg3 : 0 ≤ (m1 123 17).toInt := kg.2.2.2.2.1
      have kg4 : (m1 123 12).toInt ≤ 160 := (I3 123 12).2
      have kgx := (show LDX m m1 by assumption)
      have kgt := (show LTZ x0.toInt m m1 by assumption)
      have kg131 := kg.2.2.2.2.2.1
      refine pv_aload_n (M := mX12_lands) 0 dX12_lands_0 1 rfl rfl rfl ?_
      refine pv_callv (M := mX12_lands) (as := []) (st := []) (kc2 := 0) (ks2 := 0) dX12_lands_1 wd1460 YX12_top ⟨wd1462, wd69⟩ (mk_get (tl123 hT)) rfl rfl (s_X12_top g hT I3) rfl rfl (Nat.le_of_ble_eq_true rfl) (by decide) rfl rfl 4 rfl (fun rv h1 q23 => ?_)
      obtain ⟨v24, rfl, rfl, pv24, qv24, rv24⟩ := q23
      replace rv24 : (v24.toInt = -1 ∧ (m1 123 17).toInt = 0) ∨ (1 ≤ (m1 123 17).toInt ∧ v24.toInt = opv (m1 131 ((m1 123 17).toInt - 1).toNat)) := rv24
      show PV _ _ _ _ _ _ _ 4 [.ref 123, .int x0, pv_U] [.int v24] _
      refine pv_bipush (M := mX12_lands) (v := 11) dX12_lands_4 6 rfl (by decide) ?_
      refine pv_icmp_eq (M := mX12_lands) (tgt := 22) dX12_lands_6 9 rfl (by decide) (fun c25 => ?_) (fun c25 => ?_)
      · have c25 := iv_eq (X := v24.toInt) (Y := 11) c25 rfl (by decide)
        have kf : ifv (m1 131 ((m1 123 17).toInt - 1).toNat) := by unfold ifv; omega
        have k38 := kg.1.2 ((m1 123 17).toInt - 1).toNat (by show _ < ((m1 123 17).toInt).toNat; omega) kf
        have k38b : agv (m1 131 ((m1 123 17).toInt - 1).toNat) < (m1 123 16).toInt := k38.2.1
        refine pv_aload_n (M := mX12_lands) 0 dX12_lands_22 23 rfl rfl rfl ?_
        refine mv_get (M := mX12_lands) (v := .ref 131) dX12_lands_23 FX12 22 wd1195 (by decide) (tl123 hT) rfl rfl 26 rfl ?_
        refine pv_aload_n (M := mX12_lands) 0 dX12_lands_26 27 rfl rfl rfl ?_
        refine iv_get (M := mX12_lands) (l1 := 0) (l2 := 180) dX12_lands_27 FX12 17 wd1190 (by decide) (tl123 hT) rfl I3 rfl 30 rfl (fun v29 ev29 pv29 qv29 => ?_)
        have wv29 : v29.toInt = (m1 123 17).toInt := congrArg Int32.toInt ev29
        refine pv_iconst (M := mX12_lands) (v := 1) dX12_lands_30 31 rfl (by decide) ?_
        refine iv_isub (M := mX12_lands) (X := v29.toInt) (Y := 1) dX12_lands_31 32 rfl rfl (by decide) (by omega) (by omega) (fun v30 ev30 => ?_)
        refine iv_iald (M := mX12_lands) (X := v30.toInt) (l1 := 0) (l2 := 15728639) dX12_lands_32 (tl131 hT) rfl (by omega) (by omega) I3 (fun _ => rfl) 33 rfl (fun v31 ev31 pv31 qv31 => ?_)
        have k33 : v31.toInt = (m1 131 ((m1 123 17).toInt - 1).toNat).toInt := (congrArg Int32.toInt ev31).trans (congrArg (fun z => (m1 131 z).toInt) (by omega))
        refine pv_ldc (M := mX12_lands) (v := 1048576) dX12_lands_33 35 rfl wd1437 ?_
        refine iv_irem (M := mX12_lands) (X := v31.toInt) (Y := 1048576) dX12_lands_35 36 rfl rfl (by decide) (by omega) (by omega) (fun v33 ev33 => ?_)
        refine pv_istore_n (M := mX12_lands) 2 (lo2 := [.ref 123, .int x0, .int v33]) dX12_lands_36 37 rfl rfl (by decide) rfl rfl ?_
        have k37 : v33.toInt = agv (m1 131 ((m1 123 17).toInt - 1).toNat) := by unfold agv; omega
        refine pv_aload_n (M := mX12_lands) 0 dX12_lands_37 38 rfl rfl rfl ?_
        refine mv_get (M := mX12_lands) (v := .ref 130) dX12_lands_38 FX12 21 wd1194 (by decide) (tl123 hT) rfl rfl 41 rfl ?_
        refine pv_iload_n (M := mX12_lands) 2 dX12_lands_41 42 rfl rfl rfl ?_
        refine pv_ldc (M := mX12_lands) (v := 1048576) dX12_lands_42 44 rfl wd1437 ?_
        refine pv_aload_n (M := mX12_lands) 0 dX12_lands_44 45 rfl rfl rfl ?_
        refine mv_get (M := mX12_lands) (v := .ref 130) dX12_lands_45 FX12 21 wd1194 (by decide) (tl123 hT) rfl rfl 48 rfl ?_
        refine pv_iload_n (M := mX12_lands) 2 dX12_lands_48 49 rfl rfl rfl ?_
        refine iv_iald (M := mX12_lands) (X := v33.toInt) (l1 := 0) (l2 := 13631487) dX12_lands_49 (tl130 hT) rfl (by omega) (by omega) I3 (fun _ => rfl) 50 rfl (fun v35 ev35 pv35 qv35 => ?_)
        have k50 : v35.toInt = (m1 130 v33.toInt.toNat).toInt := congrArg Int32.toInt ev35
        refine pv_ldc (M := mX12_lands) (v := 1048576) dX12_lands_50 52 rfl wd1437 ?_
        refine iv_idiv (M := mX12_lands) (X := v35.toInt) (Y := 1048576) dX12_lands_52 53 rfl rfl (by decide) (by omega) (by omega) (fun v37 ev37 => ?_)
        refine iv_imul (M := mX12_lands) (X := 1048576) (Y := v37.toInt) dX12_lands_53 54 rfl (by decide) rfl (by omega) (by omega) (fun v38 ev38 => ?_)
        refine pv_aload_n (M := mX12_lands) 0 dX12_lands_54 55 rfl rfl rfl ?_
        refine iv_get (M := mX12_lands) (l1 := 0) (l2 := 180) dX12_lands_55 FX12 16 wd1189 (by decide) (tl123 hT) rfl I3 rfl 58 rfl (fun v39 ev39 pv39 qv39 => ?_)
        have wv39 : v39.toInt = (m1 123 16).toInt := congrArg Int32.toInt ev39
        refine iv_iadd (M := mX12_lands) (X := v38.toInt) (Y := v39.toInt) dX12_lands_58 59 rfl rfl rfl (by omega) (by omega) (fun v40 ev40 => ?_)
        refine iv_iast (M := mX12_lands) (X := v33.toInt) (l1 := 0) (l2 := 13631487) dX12_lands_59 (tl130 hT) rfl (by omega) (by omega) I3 (fun _ => rfl) (by omega) (by omega) 60 rfl (fun m41 e44 I42 => ?_)
        have K43 := K4.set e44 rfl
        have w45 : (m41 123 12).toInt = (m1 123 12).toInt := by rw [e44, up2_ne (by omega)]
        have w46 : (m41 123 13).toInt = (m1 123 13).toInt := by rw [e44, up2_ne (by omega)]
        have w47 : (m41 123 16).toInt = (m1 123 16).toInt := by rw [e44, up2_ne (by omega)]
        have w48 : (m41 123 17).toInt = (m1 123 17).toInt := by rw [e44, up2_ne (by omega)]
        refine pv_aload_n (M := mX12_lands) 0 dX12_lands_60 61 rfl rfl rfl ?_
        refine pv_aload_n (M := mX12_lands) 0 dX12_lands_61 62 rfl rfl rfl ?_
        refine iv_get (M := mX12_lands) (l1 := 0) (l2 := 180) dX12_lands_62 FX12 17 wd1190 (by decide) (tl123 hT) rfl I42 rfl 65 rfl (fun v49 ev49 pv49 qv49 => ?_)
        have wv49 : v49.toInt = (m41 123 17).toInt := congrArg Int32.toInt ev49
        refine pv_iconst (M := mX12_lands) (v := 1) dX12_lands_65 66 rfl (by decide) ?_
        refine iv_isub (M := mX12_lands) (X := v49.toInt) (Y := 1) dX12_lands_66 67 rfl rfl (by decide) (by omega) (by omega) (fun v50 ev50 => ?_)
        refine iv_put (M := mX12_lands) (l1 := 0) (l2 := 180) dX12_lands_67 FX12 17 wd1190 (by decide) rfl (tl123 hT) rfl rfl rfl I42 rfl (by omega) (by omega) 70 rfl (fun m51 e54 I52 => ?_)
        have K53 := K43.set e54 rfl
        have w55 : (m51 123 12).toInt = (m41 123 12).toInt := by rw [e54, up2_ne (by omega)]
        have w56 : (m51 123 13).toInt = (m41 123 13).toInt := by rw [e54, up2_ne (by omega)]
        have w57 : (m51 123 16).toInt = (m41 123 16).toInt := by rw [e54, up2_ne (by omega)]
        have w58 : (m51 123 17).toInt = v50.toInt := by rw [e54, up2_eq]
        refine pv_goto (M := mX12_lands) (tgt := 0) dX12_lands_70 (by decide) ?_
        refine pv_fg (lo2 := [.ref 123, .int x0, pv_U]) ⟨Or.inr rfl, ⟨Or.inr rfl, ⟨Or.inl rfl, trivial⟩⟩⟩ ?_
        have kld := LDI.step (p := v33.toInt) kg hp1 (by omega) kf k37 e44 (by omega) (by omega) (by omega) e54 (by omega)
        have klx : LDX m m51 := LDX.step (p := v33.toInt) kgx (by omega) kf k37 e44 (by omega) (by omega) (by omega) e54 (by omega)
        have klt : LTZ x0.toInt m m51 := LTZ.step kgt (by omega) (by omega) (fun q => by rw [← kg131]; omega)
        exact ih7  m51 n2 kld klx klt I52 K53 (by omega)
      · have c25 := iv_ne (X := v24.toInt) (Y := 11) c25 rfl (by decide)
        refine pv_iload_n (M := mX12_lands) 1 dX12_lands_9 10 rfl rfl rfl ?_
        refine pv_if_eq (M := mX12_lands) (tgt := 73) dX12_lands_10 13 rfl (by decide) (fun c62 => ?_) (fun c62 => ?_)
        · have c62 := iv_eq (X := x0.toInt) (Y := 0) c62 rfl (by decide)
          exact pv_vret (M := mX12_lands) dX12_lands_73 rfl ⟨_, _, rfl, rfl, I3, K4, ⟨⟨kg, fun q => by omega⟩, kgx, by omega, kgt⟩⟩
        · have c62 := iv_ne (X := x0.toInt) (Y := 0) c62 rfl (by decide)
          refine pv_aload_n (M := mX12_lands) 0 dX12_lands_13 14 rfl rfl rfl ?_
          refine pv_callv (M := mX12_lands) (as := []) (st := []) (kc2 := 0) (ks2 := 0) dX12_lands_14 wd1460 YX12_top ⟨wd1462, wd69⟩ (mk_get (tl123 hT)) rfl rfl (s_X12_top g hT I3) rfl rfl (Nat.le_of_ble_eq_true rfl) (by decide) rfl rfl 17 rfl (fun rv h1 q63 => ?_)
          obtain ⟨v64, rfl, rfl, pv64, qv64, rv64⟩ := q63
          replace rv64 : (v64.toInt = -1 ∧ (m1 123 17).toInt = 0) ∨ (1 ≤ (m1 123 17).toInt ∧ v64.toInt = opv (m1 131 ((m1 123 17).toInt - 1).toNat)) := rv64
          show PV _ _ _ _ _ _ _ 17 [.ref 123, .int x0, pv_U] [.int v64] _
          refine pv_bipush (M := mX12_lands) (v := 12) dX12_lands_17 19 rfl (by decide) ?_
          refine pv_icmp_ne (M := mX12_lands) (tgt := 73) dX12_lands_19 22 rfl (by decide) (fun c65 => ?_) (fun c65 => ?_)
          · have c65 := iv_ne (X := v64.toInt) (Y := 12) c65 rfl (by decide)
            exact pv_vret (M := mX12_lands) dX12_lands_73 rfl ⟨_, _, rfl, rfl, I3, K4, ⟨⟨kg, fun q => by omega⟩, kgx, by omega, kgt⟩⟩
          · have c65 := iv_eq (X := v64.toInt) (Y := 12) c65 rfl (by decide)
            have kf : ifv (m1 131 ((m1 123 17).toInt - 1).toNat) := by unfold ifv; omega
            have k38 := kg.1.2 ((m1 123 17).toInt - 1).toNat (by show _ < ((m1 123 17).toInt).toNat; omega) kf
            have k38b : agv (m1 131 ((m1 123 17).toInt - 1).toNat) < (m1 123 16).toInt := k38.2.1
            refine pv_aload_n (M := mX12_lands) 0 dX12_lands_22 23 rfl rfl rfl ?_
            refine mv_get (M := mX12_lands) (v := .ref 131) dX12_lands_23 FX12 22 wd1195 (by decide) (tl123 hT) rfl rfl 26 rfl ?_
            refine pv_aload_n (M := mX12_lands) 0 dX12_lands_26 27 rfl rfl rfl ?_
            refine iv_get (M := mX12_lands) (l1 := 0) (l2 := 180) dX12_lands_27 FX12 17 wd1190 (by decide) (tl123 hT) rfl I3 rfl 30 rfl (fun v69 ev69 pv69 qv69 => ?_)
            have wv69 : v69.toInt = (m1 123 17).toInt := congrArg Int32.toInt ev69
            refine pv_iconst (M := mX12_lands) (v := 1) dX12_lands_30 31 rfl (by decide) ?_
            refine iv_isub (M := mX12_lands) (X := v69.toInt) (Y := 1) dX12_lands_31 32 rfl rfl (by decide) (by omega) (by omega) (fun v70 ev70 => ?_)
            refine iv_iald (M := mX12_lands) (X := v70.toInt) (l1 := 0) (l2 := 15728639) dX12_lands_32 (tl131 hT) rfl (by omega) (by omega) I3 (fun _ => rfl) 33 rfl (fun v71 ev71 pv71 qv71 => ?_)
            have k33 : v71.toInt = (m1 131 ((m1 123 17).toInt - 1).toNat).toInt := (congrArg Int32.toInt ev71).trans (congrArg (fun z => (m1 131 z).toInt) (by omega))
            refine pv_ldc (M := mX12_lands) (v := 1048576) dX12_lands_33 35 rfl wd1437 ?_
            refine iv_irem (M := mX12_lands) (X := v71.toInt) (Y := 1048576) dX12_lands_35 36 rfl rfl (by decide) (by omega) (by omega) (fun v73 ev73 => ?_)
            refine pv_istore_n (M := mX12_lands) 2 (lo2 := [.ref 123, .int x0, .int v73]) dX12_lands_36 37 rfl rfl (by decide) rfl rfl ?_
            have k37 : v73.toInt = agv (m1 131 ((m1 123 17).toInt - 1).toNat) := by unfold agv; omega
            refine pv_aload_n (M := mX12_lands) 0 dX12_lands_37 38 rfl rfl rfl ?_
            refine mv_get (M := mX12_lands) (v := .ref 130) dX12_lands_38 FX12 21 wd1194 (by decide) (tl123 hT) rfl rfl 41 rfl ?_
            refine pv_iload_n (M := mX12_lands) 2 dX12_lands_41 42 rfl rfl rfl ?_
            refine pv_ldc (M := mX12_lands) (v := 1048576) dX12_lands_42 44 rfl wd1437 ?_
            refine pv_aload_n (M := mX12_lands) 0 dX12_lands_44 45 rfl rfl rfl ?_
            refine mv_get (M := mX12_lands) (v := .ref 130) dX12_lands_45 FX12 21 wd1194 (by decide) (tl123 hT) rfl rfl 48 rfl ?_
            refine pv_iload_n (M := mX12_lands) 2 dX12_lands_48 49 rfl rfl rfl ?_
            refine iv_iald (M := mX12_lands) (X := v73.toInt) (l1 := 0) (l2 := 13631487) dX12_lands_49 (tl130 hT) rfl (by omega) (by omega) I3 (fun _ => rfl) 50 rfl (fun v75 ev75 pv75 qv75 => ?_)
            have k50 : v75.toInt = (m1 130 v73.toInt.toNat).toInt := congrArg Int32.toInt ev75
            refine pv_ldc (M := mX12_lands) (v := 1048576) dX12_lands_50 52 rfl wd1437 ?_
            refine iv_idiv (M := mX12_lands) (X := v75.toInt) (Y := 1048576) dX12_lands_52 53 rfl rfl (by decide) (by omega) (by omega) (fun v77 ev77 => ?_)
            refine iv_imul (M := mX12_lands) (X := 1048576) (Y := v77.toInt) dX12_lands_53 54 rfl (by decide) rfl (by omega) (by omega) (fun v78 ev78 => ?_)
            refine pv_aload_n (M := mX12_lands) 0 dX12_lands_54 55 rfl rfl rfl ?_
            refine iv_get (M := mX12_lands) (l1 := 0) (l2 := 180) dX12_lands_55 FX12 16 wd1189 (by decide) (tl123 hT) rfl I3 rfl 58 rfl (fun v79 ev79 pv79 qv79 => ?_)
            have wv79 : v79.toInt = (m1 123 16).toInt := congrArg Int32.toInt ev79
            refine iv_iadd (M := mX12_lands) (X := v78.toInt) (Y := v79.toInt) dX12_lands_58 59 rfl rfl rfl (by omega) (by omega) (fun v80 ev80 => ?_)
            refine iv_iast (M := mX12_lands) (X := v73.toInt) (l1 := 0) (l2 := 13631487) dX12_lands_59 (tl130 hT) rfl (by omega) (by omega) I3 (fun _ => rfl) (by omega) (by omega) 60 rfl (fun m81 e84 I82 => ?_)
            have K83 := K4.set e84 rfl
            have w85 : (m81 123 12).toInt = (m1 123 12).toInt := by rw [e84, up2_ne (by omega)]
            have w86 : (m81 123 13).toInt = (m1 123 13).toInt := by rw [e84, up2_ne (by omega)]
            have w87 : (m81 123 16).toInt = (m1 123 16).toInt := by rw [e84, up2_ne (by omega)]
            have w88 : (m81 123 17).toInt = (m1 123 17).toInt := by rw [e84, up2_ne (by omega)]
            refine pv_aload_n (M := mX12_lands) 0 dX12_lands_60 61 rfl rfl rfl ?_
            refine pv_aload_n (M := mX12_lands) 0 dX12_lands_61 62 rfl rfl rfl ?_
            refine iv_get (M := mX12_lands) (l1 := 0) (l2 := 180) dX12_lands_62 FX12 17 wd1190 (by decide) (tl123 hT) rfl I82 rfl 65 rfl (fun v89 ev89 pv89 qv89 => ?_)
            have wv89 : v89.toInt = (m81 123 17).toInt := congrArg Int32.toInt ev89
            refine pv_iconst (M := mX12_lands) (v := 1) dX12_lands_65 66 rfl (by decide) ?_
            refine iv_isub (M := mX12_lands) (X := v89.toInt) (Y := 1) dX12_lands_66 67 rfl rfl (by decide) (by omega) (by omega) (fun v90 ev90 => ?_)
            refine iv_put (M := mX12_lands) (l1 := 0) (l2 := 180) dX12_lands_67 FX12 17 wd1190 (by decide) rfl (tl123 hT) rfl rfl rfl I82 rfl (by omega) (by omega) 70 rfl (fun m91 e94 I92 => ?_)
            have K93 := K83.set e94 rfl
            have w95 : (m91 123 12).toInt = (m81 123 12).toInt := by rw [e94, up2_ne (by omega)]
            have w96 : (m91 123 13).toInt = (m81 123 13).toInt := by rw [e94, up2_ne (by omega)]
            have w97 : (m91 123 16).toInt = (m81 123 16).toInt := by rw [e94, up2_ne (by omega)]
            have w98 : (m91 123 17).toInt = v90.toInt := by rw [e94, up2_eq]
            refine pv_goto (M := mX12_lands) (tgt := 0) dX12_lands_70 (by decide) ?_
            refine pv_fg (lo2 := [.ref 123, .int x0, pv_U]) ⟨Or.inr rfl, ⟨Or.inr rfl, ⟨Or.inl rfl, trivial⟩⟩⟩ ?_
            have kld := LDI.step (p := v73.toInt) kg hp1 (by omega) kf k37 e84 (by omega) (by omega) (by omega) e94 (by omega)
            have klx : LDX m m91 := LDX.step (p := v73.toInt) kgx (by omega) kf k37 e84 (by omega) (by omega) (by omega) e94 (by omega)
            have klt : LTZ x0.toInt m m91 := LTZ.step kgt (by omega) (by omega) (fun q => by rw [← kg131]; omega)
            exact ih7  m91 n2 kld klx klt I92 K93 (by omega)
  exact lp6 ((((m 123 17).toInt) : Int).toNat + 1)  m n (LDI.start hp0 (by omega)) (LDX.start (by omega)) LTZ.start I Kp (by omega)

set_option maxHeartbeats 2000000 in
set_option maxRecDepth 20000 in
theorem s_X12_jumps_vz (g : pv_G) {T : List mv_T} {m : Nat → Nat → Int32} {n : Nat → Nat → Int64} {r : Nat → Value} (hT : TX T) (I : IV BB m) (x0 : Int32) (hl0 : 11 ≤ x0.toInt) (hh0 : x0.toInt ≤ 12) (cb : Int) (c : Int) (hp0 : HW cb c m) (hp1 : 1 ≤ c) (hp2 : 0 ≤ SLK m) (hp3 : (m 123 12).toInt < (m 123 13).toInt) (hp4 : (m 123 17).toInt ≤ (m 123 12).toInt) : PM g mX12_jumps yX12_jumps (sqV T BB (wl [(123, 123, some 12), (123, 123, some 16), (123, 123, some 17), (130, 130, none), (131, 131, none)]) r m (fun m' => (JPI cb (c - 1) m m') ∧ JPX x0.toInt m m')) 2 0 0 [.ref 123, .int x0] (mk T m n r) := by
  have Kp : fr (wl [(123, 123, some 12), (123, 123, some 16), (123, 123, some 17), (130, 130, none), (131, 131, none)]) m m := fr.rf
  have z46 : 0 ≤ (m 123 12).toInt ∧ (m 123 12).toInt ≤ 160 := I 123 12
  have z47 : 0 ≤ (m 123 13).toInt ∧ (m 123 13).toInt ≤ 160 := I 123 13
  have z48 : 0 ≤ (m 123 16).toInt ∧ (m 123 16).toInt ≤ 180 := I 123 16
  have z49 : 0 ≤ (m 123 17).toInt ∧ (m 123 17).toInt ≤ 180 := I 123 17
  refine PM.of 0 (lo := [.ref 123, .int x0]) rfl (by decide) rfl rfl (Nat.le_of_ble_eq_true rfl) ?_
  have kg2 : (m 123 16).toInt ≤ (m 123 12).toInt := SLK_cm (m := m) hp2
  refine pv_aload_n (M := mX12_jumps) 0 dX12_jumps_0 1 rfl rfl rfl ?_
  refine mv_get (M := mX12_jumps) (v := .ref 131) dX12_jumps_1 FX12 22 wd1195 (by decide) (tl123 hT) rfl rfl 4 rfl ?_
  refine pv_aload_n (M := mX12_jumps) 0 dX12_jumps_4 5 rfl rfl rfl ?_
  refine iv_get (M := mX12_jumps) (l1 := 0) (l2 := 180) dX12_jumps_5 FX12 17 wd1190 (by decide) (tl123 hT) rfl I rfl 8 rfl (fun v2 ev2 pv2 qv2 => ?_)
  have wv2 : v2.toInt = (m 123 17).toInt := congrArg Int32.toInt ev2
  refine pv_ldc (M := mX12_jumps) (v := 1048576) dX12_jumps_8 10 rfl wd1437 ?_
  refine pv_iload_n (M := mX12_jumps) 1 dX12_jumps_10 11 rfl rfl rfl ?_
  refine iv_imul (M := mX12_jumps) (X := 1048576) (Y := x0.toInt) dX12_jumps_11 12 rfl (by decide) rfl (by omega) (by omega) (fun v3 ev3 => ?_)
  refine pv_aload_n (M := mX12_jumps) 0 dX12_jumps_12 13 rfl rfl rfl ?_
  refine iv_get (M := mX12_jumps) (l1 := 0) (l2 := 180) dX12_jumps_13 FX12 16 wd1189 (by decide) (tl123 hT) rfl I rfl 16 rfl (fun v4 ev4 pv4 qv4 => ?_)
  have wv4 : v4.toInt = (m 123 16).toInt := congrArg Int32.toInt ev4
  refine iv_iadd (M := mX12_jumps) (X := v3.toInt) (Y := v4.toInt) dX12_jumps_16 17 rfl rfl rfl (by omega) (by omega) (fun v5 ev5 => ?_)
  refine iv_iast (M := mX12_jumps) (X := v2.toInt) (l1 := 0) (l2 := 15728639) dX12_jumps_17 (tl131 hT) rfl (by omega) (by omega) I (fun _ => rfl) (by omega) (by omega) 18 rfl (fun m6 e9 I7 => ?_)
  have K8 := Kp.set e9 rfl
  have w10 : (m6 123 12).toInt = (m 123 12).toInt := by rw [e9, up2_ne (by omega)]
  have w11 : (m6 123 13).toInt = (m 123 13).toInt := by rw [e9, up2_ne (by omega)]
  have w12 : (m6 123 16).toInt = (m 123 16).toInt := by rw [e9, up2_ne (by omega)]
  have w13 : (m6 123 17).toInt = (m 123 17).toInt := by rw [e9, up2_ne (by omega)]
  have k18 := (e9).trans (up2_ix (j := (m 123 17).toInt.toNat) (by omega))
  refine pv_aload_n (M := mX12_jumps) 0 dX12_jumps_18 19 rfl rfl rfl ?_
  refine pv_aload_n (M := mX12_jumps) 0 dX12_jumps_19 20 rfl rfl rfl ?_
  refine iv_get (M := mX12_jumps) (l1 := 0) (l2 := 180) dX12_jumps_20 FX12 17 wd1190 (by decide) (tl123 hT) rfl I7 rfl 23 rfl (fun v15 ev15 pv15 qv15 => ?_)
  have wv15 : v15.toInt = (m6 123 17).toInt := congrArg Int32.toInt ev15
  refine pv_iconst (M := mX12_jumps) (v := 1) dX12_jumps_23 24 rfl (by decide) ?_
  refine iv_iadd (M := mX12_jumps) (X := v15.toInt) (Y := 1) dX12_jumps_24 25 rfl rfl (by decide) (by omega) (by omega) (fun v16 ev16 => ?_)
  refine iv_put (M := mX12_jumps) (l1 := 0) (l2 := 180) dX12_jumps_25 FX12 17 wd1190 (by decide) rfl (tl123 hT) rfl rfl rfl I7 rfl (by omega) (by omega) 28 rfl (fun m17 e20 I18 => ?_)
  have K19 := K8.set e20 rfl
  have w21 : (m17 123 12).toInt = (m6 123 12).toInt := by rw [e20, up2_ne (by omega)]
  have w22 : (m17 123 13).toInt = (m6 123 13).toInt := by rw [e20, up2_ne (by omega)]
  have w23 : (m17 123 16).toInt = (m6 123 16).toInt := by rw [e20, up2_ne (by omega)]
  have w24 : (m17 123 17).toInt = v16.toInt := by rw [e20, up2_eq]
  have k26 := e20
  refine pv_aload_n (M := mX12_jumps) 0 dX12_jumps_28 29 rfl rfl rfl ?_
  refine pv_iload_n (M := mX12_jumps) 1 dX12_jumps_29 30 rfl rfl rfl ?_
  refine pv_iconst (M := mX12_jumps) (v := 0) dX12_jumps_30 31 rfl (by decide) ?_
  have z26 : (0 : Int32).toInt = 0 := by decide
  refine pv_callv (M := mX12_jumps) (as := [.int x0, .int 0]) (st := []) (kc2 := 0) (ks2 := 0) dX12_jumps_31 wd1446 YX12_notes ⟨wd1448, wd67⟩ (mk_get (tl123 hT)) rfl rfl (s_X12_notes g hT I18 x0 (by omega) (by omega) 0 (by decide) (by decide) (by first | omega | assumption | exact (iv_rng _).2 | exact (iv_rng _).1 | decide)) rfl rfl (Nat.le_of_ble_eq_true rfl) (by decide) rfl rfl 34 rfl (fun rv h1 q27 => ?_)
  obtain ⟨m28, n29, rfl, rfl, I30, K31, rm28⟩ := q27
  replace rm28 : NOTE x0.toInt (0 : Int) m17 m28 := by have q_ := rm28; (try rw [z26] at q_); exact q_
  have K31c := K31
  have w32 : (m28 123 12).toInt = (m17 123 12).toInt := congrArg Int32.toInt (K31 123 12 rfl)
  have w33 : (m28 123 13).toInt = (m17 123 13).toInt := congrArg Int32.toInt (K31 123 13 rfl)
  have w34 : (m28 123 17).toInt = (m17 123 17).toInt := congrArg Int32.toInt (K31 123 17 rfl)
  have K31 := K19.trans (K31.sub (wl_sub (by decide)))
  show PV _ _ _ _ _ _ _ 34 [.ref 123, .int x0] [] _
  have kN := rm28
  refine pv_aload_n (M := mX12_jumps) 0 dX12_jumps_34 35 rfl rfl rfl ?_
  refine pv_aload_n (M := mX12_jumps) 0 dX12_jumps_35 36 rfl rfl rfl ?_
  refine iv_get (M := mX12_jumps) (l1 := 0) (l2 := 160) dX12_jumps_36 FX12 12 wd1185 (by decide) (tl123 hT) rfl I30 rfl 39 rfl (fun v36 ev36 pv36 qv36 => ?_)
  have wv36 : v36.toInt = (m28 123 12).toInt := congrArg Int32.toInt ev36
  refine pv_iconst (M := mX12_jumps) (v := 1) dX12_jumps_39 40 rfl (by decide) ?_
  refine iv_iadd (M := mX12_jumps) (X := v36.toInt) (Y := 1) dX12_jumps_40 41 rfl rfl (by decide) (by omega) (by omega) (fun v37 ev37 => ?_)
  refine iv_put (M := mX12_jumps) (l1 := 0) (l2 := 160) dX12_jumps_41 FX12 12 wd1185 (by decide) rfl (tl123 hT) rfl rfl rfl I30 rfl (by omega) (by omega) 44 rfl (fun m38 e41 I39 => ?_)
  have K40 := K31.set e41 rfl
  have w42 : (m38 123 12).toInt = v37.toInt := by rw [e41, up2_eq]
  have w43 : (m38 123 13).toInt = (m28 123 13).toInt := by rw [e41, up2_ne (by omega)]
  have w44 : (m38 123 16).toInt = (m28 123 16).toInt := by rw [e41, up2_ne (by omega)]
  have w45 : (m38 123 17).toInt = (m28 123 17).toInt := by rw [e41, up2_ne (by omega)]
  exact pv_vret (M := mX12_jumps) dX12_jumps_44 rfl ⟨_, _, rfl, rfl, I39, K40, ⟨(JPI.of hp0 hp1 (by omega) (by omega) k18 (by omega) (by omega) (by omega) k26 (by omega) kN e41 (by omega)), JPX_of (by omega) k18 (by omega) (by omega) (by omega) k26 (by omega) kN e41 (by omega)⟩⟩

set_option maxHeartbeats 2000000 in
set_option maxRecDepth 20000 in
theorem s_X12_sumSign_vz (g : pv_G) {T : List mv_T} {m : Nat → Nat → Int32} {n : Nat → Nat → Int64} {r : Nat → Value} (hT : TX T) (I : IV BB m) (x0 : Int32) : PM g mX12_sumSign yX12_sumSign (sqP (mk T m n r) (-1) 6 (fun v => ((v.toInt = -1 ∨ (2 ≤ v.toInt ∧ 0 ≤ x0.toInt)) ∧ ((v.toInt = -1 ∧ isS x0.toInt = false) ∨ (2 ≤ v.toInt ∧ isS x0.toInt = true))) ∧ IFZ (v.toInt + 1) (opc v.toInt = x0.toInt ∧ ((4 ≤ v.toInt ∧ isT x0.toInt = true) ∨ (v.toInt ≤ 3 ∧ isT x0.toInt = false))))) 1 0 0 [.int x0] (mk T m n r) := by
  have Kp : fr (wl []) m m := fr.rf
  refine PM.of 0 (lo := [.int x0]) rfl (by decide) rfl rfl (Nat.le_of_ble_eq_true rfl) ?_
  refine pv_iload_n (M := mX12_sumSign) 0 dX12_sumSign_0 1 rfl rfl rfl ?_
  refine pv_bipush (M := mX12_sumSign) (v := 43) dX12_sumSign_1 3 rfl (by decide) ?_
  refine pv_icmp_ne (M := mX12_sumSign) (tgt := 10) dX12_sumSign_3 6 rfl (by decide) (fun c1 => ?_) (fun c1 => ?_)
  · have c1 := iv_ne (X := x0.toInt) (Y := 43) c1 rfl (by decide)
    refine pv_iload_n (M := mX12_sumSign) 0 dX12_sumSign_10 11 rfl rfl rfl ?_
    refine pv_bipush (M := mX12_sumSign) (v := 45) dX12_sumSign_11 13 rfl (by decide) ?_
    refine pv_icmp_ne (M := mX12_sumSign) (tgt := 20) dX12_sumSign_13 16 rfl (by decide) (fun c2 => ?_) (fun c2 => ?_)
    · have c2 := iv_ne (X := x0.toInt) (Y := 45) c2 rfl (by decide)
      refine pv_iload_n (M := mX12_sumSign) 0 dX12_sumSign_20 21 rfl rfl rfl ?_
      refine pv_bipush (M := mX12_sumSign) (v := 42) dX12_sumSign_21 23 rfl (by decide) ?_
      refine pv_icmp_ne (M := mX12_sumSign) (tgt := 30) dX12_sumSign_23 26 rfl (by decide) (fun c3 => ?_) (fun c3 => ?_)
      · have c3 := iv_ne (X := x0.toInt) (Y := 42) c3 rfl (by decide)
        refine pv_iload_n (M := mX12_sumSign) 0 dX12_sumSign_30 31 rfl rfl rfl ?_
        refine pv_bipush (M := mX12_sumSign) (v := 47) dX12_sumSign_31 33 rfl (by decide) ?_
        refine pv_icmp_ne (M := mX12_sumSign) (tgt := 40) dX12_sumSign_33 36 rfl (by decide) (fun c4 => ?_) (fun c4 => ?_)
        · have c4 := iv_ne (X := x0.toInt) (Y := 47) c4 rfl (by decide)
          refine pv_iload_n (M := mX12_sumSign) 0 dX12_sumSign_40 41 rfl rfl rfl ?_
          refine pv_bipush (M := mX12_sumSign) (v := 37) dX12_sumSign_41 43 rfl (by decide) ?_
          refine pv_icmp_ne (M := mX12_sumSign) (tgt := 51) dX12_sumSign_43 46 rfl (by decide) (fun c5 => ?_) (fun c5 => ?_)
          · have c5 := iv_ne (X := x0.toInt) (Y := 37) c5 rfl (by decide)
            refine pv_iconst (M := mX12_sumSign) (v := (-1)) dX12_sumSign_51 52 rfl (by decide) ?_
            have z6 : ((-1) : Int32).toInt = (-1) := by decide
            exact pv_iret (M := mX12_sumSign) dX12_sumSign_52 rfl rfl ⟨_, rfl, rfl, by decide, by decide, ⟨⟨by omega, Or.inl ⟨by decide, isS_no (by omega) (by omega) (by omega) (by omega) (by omega)⟩⟩, IFZ.no (by decide)⟩⟩
          · have c5 := iv_eq (X := x0.toInt) (Y := 37) c5 rfl (by decide)
            refine pv_bipush (M := mX12_sumSign) (v := 6) dX12_sumSign_46 48 rfl (by decide) ?_
            refine pv_goto (M := mX12_sumSign) (tgt := 52) dX12_sumSign_48 (by decide) ?_
            have z7 : (6 : Int32).toInt = 6 := by decide
            exact pv_iret (M := mX12_sumSign) dX12_sumSign_52 rfl rfl ⟨_, rfl, rfl, by decide, by decide, ⟨⟨by omega, Or.inr ⟨by decide, isS_y (by omega)⟩⟩, IFZ.is ⟨(by rw [show ((6 : Int32)).toInt = 6 by decide]; show opc 6 = _; have q : opc 6 = 37 := (by decide); omega), Or.inl ⟨by decide, isT_y (by omega)⟩⟩⟩⟩
        · have c4 := iv_eq (X := x0.toInt) (Y := 47) c4 rfl (by decide)
          refine pv_iconst (M := mX12_sumSign) (v := 5) dX12_sumSign_36 37 rfl (by decide) ?_
          refine pv_goto (M := mX12_sumSign) (tgt := 52) dX12_sumSign_37 (by decide) ?_
          have z8 : (5 : Int32).toInt = 5 := by decide
          exact pv_iret (M := mX12_sumSign) dX12_sumSign_52 rfl rfl ⟨_, rfl, rfl, by decide, by decide, ⟨⟨by omega, Or.inr ⟨by decide, isS_y (by omega)⟩⟩, IFZ.is ⟨(by rw [show ((5 : Int32)).toInt = 5 by decide]; show opc 5 = _; have q : opc 5 = 47 := (by decide); omega), Or.inl ⟨by decide, isT_y (by omega)⟩⟩⟩⟩
      · have c3 := iv_eq (X := x0.toInt) (Y := 42) c3 rfl (by decide)
        refine pv_iconst (M := mX12_sumSign) (v := 4) dX12_sumSign_26 27 rfl (by decide) ?_
        refine pv_goto (M := mX12_sumSign) (tgt := 52) dX12_sumSign_27 (by decide) ?_
        have z9 : (4 : Int32).toInt = 4 := by decide
        exact pv_iret (M := mX12_sumSign) dX12_sumSign_52 rfl rfl ⟨_, rfl, rfl, by decide, by decide, ⟨⟨by omega, Or.inr ⟨by decide, isS_y (by omega)⟩⟩, IFZ.is ⟨(by rw [show ((4 : Int32)).toInt = 4 by decide]; show opc 4 = _; have q : opc 4 = 42 := (by decide); omega), Or.inl ⟨by decide, isT_y (by omega)⟩⟩⟩⟩
    · have c2 := iv_eq (X := x0.toInt) (Y := 45) c2 rfl (by decide)
      refine pv_iconst (M := mX12_sumSign) (v := 3) dX12_sumSign_16 17 rfl (by decide) ?_
      refine pv_goto (M := mX12_sumSign) (tgt := 52) dX12_sumSign_17 (by decide) ?_
      have z10 : (3 : Int32).toInt = 3 := by decide
      exact pv_iret (M := mX12_sumSign) dX12_sumSign_52 rfl rfl ⟨_, rfl, rfl, by decide, by decide, ⟨⟨by omega, Or.inr ⟨by decide, isS_y (by omega)⟩⟩, IFZ.is ⟨(by rw [show ((3 : Int32)).toInt = 3 by decide]; show opc 3 = _; have q : opc 3 = 45 := (by decide); omega), Or.inr ⟨by decide, isT_no (by omega) (by omega) (by omega)⟩⟩⟩⟩
  · have c1 := iv_eq (X := x0.toInt) (Y := 43) c1 rfl (by decide)
    refine pv_iconst (M := mX12_sumSign) (v := 2) dX12_sumSign_6 7 rfl (by decide) ?_
    refine pv_goto (M := mX12_sumSign) (tgt := 52) dX12_sumSign_7 (by decide) ?_
    have z11 : (2 : Int32).toInt = 2 := by decide
    exact pv_iret (M := mX12_sumSign) dX12_sumSign_52 rfl rfl ⟨_, rfl, rfl, by decide, by decide, ⟨⟨by omega, Or.inr ⟨by decide, isS_y (by omega)⟩⟩, IFZ.is ⟨(by rw [show ((2 : Int32)).toInt = 2 by decide]; show opc 2 = _; have q : opc 2 = 43 := (by decide); omega), Or.inr ⟨by decide, isT_no (by omega) (by omega) (by omega)⟩⟩⟩⟩

set_option maxHeartbeats 2000000 in
set_option maxRecDepth 20000 in
theorem s_X12_readsNumber_vz (g : pv_G) {T : List mv_T} {m : Nat → Nat → Int32} {n : Nat → Nat → Int64} {r : Nat → Value} (hT : TX T) (I : IV BB m) (hp0 : (m 123 12).toInt ≤ (m 123 13).toInt) : PM g mX12_readsNumber yX12_readsNumber (sqI T BB (wl [(123, 123, some 12), (123, 123, some 14), (123, 123, some 19)]) r m 0 1 (fun m' v => ((v.toInt = 0 ∨ (48 ≤ hereV m ∧ hereV m ≤ 57 → (m 123 12).toInt + 1 ≤ (m' 123 12).toInt)) ∧ (m 123 12).toInt ≤ (m' 123 12).toInt ∧ (m' 123 12).toInt ≤ (m' 123 13).toInt ∧ (m' 123 13).toInt = (m 123 13).toInt) ∧ RSX (nd (tR m) 5 (m 123 12).toInt) v.toInt (m' 123 12).toInt (m' 123 14).toInt ∧ (m' 123 15).toInt = (m 123 15).toInt ∧ IFZ v.toInt ((m' 123 19).toInt = ndv (tR m) 5 (m 123 12).toInt 0))) 3 0 0 [.ref 123] (mk T m n r) := by
  have Kp : fr (wl [(123, 123, some 12), (123, 123, some 14), (123, 123, some 19)]) m m := fr.rf
  have z100 : 0 ≤ (m 123 12).toInt ∧ (m 123 12).toInt ≤ 160 := I 123 12
  have z101 : 0 ≤ (m 123 13).toInt ∧ (m 123 13).toInt ≤ 160 := I 123 13
  have z102 : 0 ≤ (m 123 16).toInt ∧ (m 123 16).toInt ≤ 180 := I 123 16
  have z103 : 0 ≤ (m 123 17).toInt ∧ (m 123 17).toInt ≤ 180 := I 123 17
  have z104 : 0 ≤ (m 123 19).toInt ∧ (m 123 19).toInt ≤ 99999 := I 123 19
  refine PM.of 1 (lo := [.ref 123, pv_U]) rfl (by decide) rfl rfl (Nat.le_of_ble_eq_true rfl) ?_
  refine pv_aload_n (M := mX12_readsNumber) 0 dX12_readsNumber_0 1 rfl rfl rfl ?_
  refine iv_get (M := mX12_readsNumber) (l1 := 0) (l2 := 160) dX12_readsNumber_1 FX12 12 wd1185 (by decide) (tl123 hT) rfl I rfl 4 rfl (fun v1 ev1 pv1 qv1 => ?_)
  have wv1 : v1.toInt = (m 123 12).toInt := congrArg Int32.toInt ev1
  refine pv_istore_n (M := mX12_readsNumber) 1 (lo2 := [.ref 123, .int v1]) dX12_readsNumber_4 5 rfl rfl (by decide) rfl rfl ?_
  refine pv_aload_n (M := mX12_readsNumber) 0 dX12_readsNumber_5 6 rfl rfl rfl ?_
  refine pv_iconst (M := mX12_readsNumber) (v := 0) dX12_readsNumber_6 7 rfl (by decide) ?_
  refine iv_put (M := mX12_readsNumber) (l1 := 0) (l2 := 99999) dX12_readsNumber_7 FX12 19 wd1192 (by decide) rfl (tl123 hT) rfl rfl rfl I rfl (by decide) (by decide) 10 rfl (fun m2 e5 I3 => ?_)
  have K4 := Kp.set e5 rfl
  have w6 : (m2 123 12).toInt = (m 123 12).toInt := by rw [e5, up2_ne (by omega)]
  have w7 : (m2 123 13).toInt = (m 123 13).toInt := by rw [e5, up2_ne (by omega)]
  have w8 : (m2 123 16).toInt = (m 123 16).toInt := by rw [e5, up2_ne (by omega)]
  have w9 : (m2 123 17).toInt = (m 123 17).toInt := by rw [e5, up2_ne (by omega)]
  have w10 : (m2 123 19).toInt = 0 := by rw [e5, up2_eq] <;> rfl
  have w11 : (m2 123 14).toInt = (m 123 14).toInt := by rw [e5, up2_ne (by omega)]
  have w12 : (m2 123 15).toInt = (m 123 15).toInt := by rw [e5, up2_ne (by omega)]
  have lp18 : ∀ (fuel17 : Nat)  (m13 : Nat → Nat → Int32) (n14 : Nat → Nat → Int64), (v1.toInt = (m 123 12).toInt) → ((m 123 12).toInt ≤ (m13 123 12).toInt) → ((m13 123 12).toInt ≤ (m 123 12).toInt + 5) → ((m13 123 12).toInt ≤ (m13 123 13).toInt) → ((m13 123 13).toInt = (m 123 13).toInt) → ((m13 123 19).toInt + 1 ≤ pow10 ((m13 123 12).toInt - (m 123 12).toInt)) → ((m13 123 12).toInt = (m 123 12).toInt → hereV m13 = hereV m) → (nd (tR m) 5 (m 123 12).toInt = nd (tR m) (5 - ((m13 123 12).toInt - (m 123 12).toInt)).toNat (m13 123 12).toInt) → ((m13 123 15).toInt = (m 123 15).toInt) → (ndv (tR m) 5 (m 123 12).toInt 0 = ndv (tR m) (5 - ((m13 123 12).toInt - (m 123 12).toInt)).toNat (m13 123 12).toInt (m13 123 19).toInt) → IV BB m13 → fr (wl [(123, 123, some 12), (123, 123, some 14), (123, 123, some 19)]) m m13 → ((160 - (m13 123 12).toInt) : Int).toNat < fuel17 → PV none g mX12_readsNumber (sqI T BB (wl [(123, 123, some 12), (123, 123, some 14), (123, 123, some 19)]) r m 0 1 (fun m' v => ((v.toInt = 0 ∨ (48 ≤ hereV m ∧ hereV m ≤ 57 → (m 123 12).toInt + 1 ≤ (m' 123 12).toInt)) ∧ (m 123 12).toInt ≤ (m' 123 12).toInt ∧ (m' 123 12).toInt ≤ (m' 123 13).toInt ∧ (m' 123 13).toInt = (m 123 13).toInt) ∧ RSX (nd (tR m) 5 (m 123 12).toInt) v.toInt (m' 123 12).toInt (m' 123 14).toInt ∧ (m' 123 15).toInt = (m 123 15).toInt ∧ IFZ v.toInt ((m' 123 19).toInt = ndv (tR m) 5 (m 123 12).toInt 0))) 3 0 0 10 [.ref 123, .int v1] [] (mk T m13 n14 r) := by
    intro fuel17
    induction fuel17 with
    | zero => intro  m13 n14 b20 b21 b22 b23 b24 b25 b26 b27 b28 b29 I15 K16 z30; omega
    | succ fuel17 ih19 =>
      intro  m13 n14 b20 b21 b22 b23 b24 b25 b26 b27 b28 b29 I15 K16 z30
      have z31 : 0 ≤ (m13 123 12).toInt ∧ (m13 123 12).toInt ≤ 160 := I15 123 12
      have z32 : 0 ≤ (m13 123 13).toInt ∧ (m13 123 13).toInt ≤ 160 := I15 123 13
      have z33 : 0 ≤ (m13 123 16).toInt ∧ (m13 123 16).toInt ≤ 180 := I15 123 16
      have z34 : 0 ≤ (m13 123 17).toInt ∧ (m13 123 17).toInt ≤ 180 := I15 123 17
      have z35 : 0 ≤ (m13 123 19).toInt ∧ (m13 123 19).toInt ≤ 99999 := I15 123 19
      have kgn := (show nd (tR m) 5 (m 123 12).toInt = nd (tR m) (5 - ((m13 123 12).toInt - (m 123 12).toInt)).toNat (m13 123 12).toInt by assumption)
      have kt10 : tR m13 = tR m := tR_eq (K16 123 13 rfl) (fun j => K16 129 j rfl)
      have kh10 : hereV m13 = tR m (m13 123 12).toInt := congrFun kt10 _
      have kgv := (show ndv (tR m) 5 (m 123 12).toInt 0 = ndv (tR m) (5 - ((m13 123 12).toInt - (m 123 12).toInt)).toNat (m13 123 12).toInt (m13 123 19).toInt by assumption)
      refine pv_aload_n (M := mX12_readsNumber) 0 dX12_readsNumber_10 11 rfl rfl rfl ?_
      refine pv_callv (M := mX12_readsNumber) (as := []) (st := []) (kc2 := 0) (ks2 := 0) dX12_readsNumber_11 wd1438 YX12_isDigit ⟨wd1440, wd65⟩ (mk_get (tl123 hT)) rfl rfl (s_X12_isDigit g hT I15) rfl rfl (Nat.le_of_ble_eq_true rfl) (by decide) rfl rfl 14 rfl (fun rv h1 q40 => ?_)
      obtain ⟨v41, rfl, rfl, pv41, qv41, rv41⟩ := q40
      replace rv41 : (v41.toInt = 0 ∧ ¬ (48 ≤ hereV m13 ∧ hereV m13 ≤ 57)) ∨ (v41.toInt = 1 ∧ 48 ≤ hereV m13 ∧ hereV m13 ≤ 57 ∧ (m13 123 12).toInt < (m13 123 13).toInt) := rv41
      show PV _ _ _ _ _ _ _ 14 [.ref 123, .int v1] [.int v41] _
      have k14 := rv41
      refine pv_if_eq (M := mX12_readsNumber) (tgt := 69) dX12_readsNumber_14 17 rfl (by decide) (fun c43 => ?_) (fun c43 => ?_)
      · have c43 := iv_eq (X := v41.toInt) (Y := 0) c43 rfl (by decide)
        have kdn : dig (tR m (m13 123 12).toInt) = false := by rw [← kh10]; exact dig_no (by omega)
        refine pv_iconst (M := mX12_readsNumber) (v := 1) dX12_readsNumber_69 70 rfl (by decide) ?_
        have z45 : (1 : Int32).toInt = 1 := by decide
        exact pv_iret (M := mX12_readsNumber) dX12_readsNumber_70 rfl rfl ⟨_, _, _, rfl, rfl, I15, K16, by decide, by decide, ⟨(by refine ⟨?_, ?_, ?_, ?_⟩ <;> first | omega | (right; intro q; omega)), Or.inl ⟨by decide, by rw [kgn, nd_no kdn]⟩, by omega, IFZ.is (by rw [kgv, ndv_no kdn])⟩⟩
      · have c43 := iv_ne (X := v41.toInt) (Y := 0) c43 rfl (by decide)
        have kd : dig (tR m (m13 123 12).toInt) = true := by rw [← kh10]; exact dig_y (by omega) (by omega)
        refine pv_aload_n (M := mX12_readsNumber) 0 dX12_readsNumber_17 18 rfl rfl rfl ?_
        refine iv_get (M := mX12_readsNumber) (l1 := 0) (l2 := 160) dX12_readsNumber_18 FX12 12 wd1185 (by decide) (tl123 hT) rfl I15 rfl 21 rfl (fun v47 ev47 pv47 qv47 => ?_)
        have wv47 : v47.toInt = (m13 123 12).toInt := congrArg Int32.toInt ev47
        refine pv_iload_n (M := mX12_readsNumber) 1 dX12_readsNumber_21 22 rfl rfl rfl ?_
        refine pv_iconst (M := mX12_readsNumber) (v := 5) dX12_readsNumber_22 23 rfl (by decide) ?_
        refine iv_iadd (M := mX12_readsNumber) (X := v1.toInt) (Y := 5) dX12_readsNumber_23 24 rfl rfl (by decide) (by omega) (by omega) (fun v48 ev48 => ?_)
        refine pv_icmp_ne (M := mX12_readsNumber) (tgt := 37) dX12_readsNumber_24 27 rfl (by decide) (fun c49 => ?_) (fun c49 => ?_)
        · have c49 := iv_ne (X := v47.toInt) (Y := v48.toInt) c49 rfl rfl
          refine pv_aload_n (M := mX12_readsNumber) 0 dX12_readsNumber_37 38 rfl rfl rfl ?_
          refine pv_bipush (M := mX12_readsNumber) (v := 10) dX12_readsNumber_38 40 rfl (by decide) ?_
          refine pv_aload_n (M := mX12_readsNumber) 0 dX12_readsNumber_40 41 rfl rfl rfl ?_
          refine iv_get (M := mX12_readsNumber) (l1 := 0) (l2 := 99999) dX12_readsNumber_41 FX12 19 wd1192 (by decide) (tl123 hT) rfl I15 rfl 44 rfl (fun v50 ev50 pv50 qv50 => ?_)
          have wv50 : v50.toInt = (m13 123 19).toInt := congrArg Int32.toInt ev50
          refine iv_imul (M := mX12_readsNumber) (X := 10) (Y := v50.toInt) dX12_readsNumber_44 45 rfl (by decide) rfl (by omega) (by omega) (fun v51 ev51 => ?_)
          refine pv_aload_n (M := mX12_readsNumber) 0 dX12_readsNumber_45 46 rfl rfl rfl ?_
          refine pv_callv (M := mX12_readsNumber) (as := []) (st := [.int v51, .ref 123]) (kc2 := 0) (ks2 := 0) dX12_readsNumber_46 wd1417 YX12_here ⟨wd1419, wd60⟩ (mk_get (tl123 hT)) rfl rfl (s_X12_here g hT I15) rfl rfl (Nat.le_of_ble_eq_true rfl) (by decide) rfl rfl 49 rfl (fun rv h1 q52 => ?_)
          obtain ⟨v53, rfl, rfl, pv53, qv53, rv53⟩ := q52
          replace rv53 : v53.toInt = hereV m13 ∧ (v53.toInt = -1 ∨ (m13 123 12).toInt < (m13 123 13).toInt) := rv53
          show PV _ _ _ _ _ _ _ 49 [.ref 123, .int v1] [.int v53, .int v51, .ref 123] _
          have k49 : v53.toInt = tR m (m13 123 12).toInt := rv53.1.trans (congrFun kt10 _)
          refine iv_iadd (M := mX12_readsNumber) (X := v51.toInt) (Y := v53.toInt) dX12_readsNumber_49 50 rfl rfl rfl (by omega) (by omega) (fun v55 ev55 => ?_)
          refine pv_bipush (M := mX12_readsNumber) (v := 48) dX12_readsNumber_50 52 rfl (by decide) ?_
          refine iv_isub (M := mX12_readsNumber) (X := v55.toInt) (Y := 48) dX12_readsNumber_52 53 rfl rfl (by decide) (by omega) (by omega) (fun v56 ev56 => ?_)
          have kz := pow10_4 (k := (m13 123 12).toInt - (m 123 12).toInt) (by omega)
          refine iv_put (M := mX12_readsNumber) (l1 := 0) (l2 := 99999) dX12_readsNumber_53 FX12 19 wd1192 (by decide) rfl (tl123 hT) rfl rfl rfl I15 rfl (by omega) (by omega) 56 rfl (fun m58 e61 I59 => ?_)
          have K60 := K16.set e61 rfl
          have w62 : (m58 123 12).toInt = (m13 123 12).toInt := by rw [e61, up2_ne (by omega)]
          have w63 : (m58 123 13).toInt = (m13 123 13).toInt := by rw [e61, up2_ne (by omega)]
          have w64 : (m58 123 16).toInt = (m13 123 16).toInt := by rw [e61, up2_ne (by omega)]
          have w65 : (m58 123 17).toInt = (m13 123 17).toInt := by rw [e61, up2_ne (by omega)]
          have w66 : (m58 123 19).toInt = v56.toInt := by rw [e61, up2_eq]
          have w67 : (m58 123 14).toInt = (m13 123 14).toInt := by rw [e61, up2_ne (by omega)]
          have w68 : (m58 123 15).toInt = (m13 123 15).toInt := by rw [e61, up2_ne (by omega)]
          refine pv_aload_n (M := mX12_readsNumber) 0 dX12_readsNumber_56 57 rfl rfl rfl ?_
          refine pv_aload_n (M := mX12_readsNumber) 0 dX12_readsNumber_57 58 rfl rfl rfl ?_
          refine iv_get (M := mX12_readsNumber) (l1 := 0) (l2 := 160) dX12_readsNumber_58 FX12 12 wd1185 (by decide) (tl123 hT) rfl I59 rfl 61 rfl (fun v69 ev69 pv69 qv69 => ?_)
          have wv69 : v69.toInt = (m58 123 12).toInt := congrArg Int32.toInt ev69
          refine pv_iconst (M := mX12_readsNumber) (v := 1) dX12_readsNumber_61 62 rfl (by decide) ?_
          refine iv_iadd (M := mX12_readsNumber) (X := v69.toInt) (Y := 1) dX12_readsNumber_62 63 rfl rfl (by decide) (by omega) (by omega) (fun v70 ev70 => ?_)
          refine iv_put (M := mX12_readsNumber) (l1 := 0) (l2 := 160) dX12_readsNumber_63 FX12 12 wd1185 (by decide) rfl (tl123 hT) rfl rfl rfl I59 rfl (by omega) (by omega) 66 rfl (fun m71 e74 I72 => ?_)
          have K73 := K60.set e74 rfl
          have w75 : (m71 123 12).toInt = v70.toInt := by rw [e74, up2_eq]
          have w76 : (m71 123 13).toInt = (m58 123 13).toInt := by rw [e74, up2_ne (by omega)]
          have w77 : (m71 123 16).toInt = (m58 123 16).toInt := by rw [e74, up2_ne (by omega)]
          have w78 : (m71 123 17).toInt = (m58 123 17).toInt := by rw [e74, up2_ne (by omega)]
          have w79 : (m71 123 19).toInt = (m58 123 19).toInt := by rw [e74, up2_ne (by omega)]
          have w80 : (m71 123 14).toInt = (m58 123 14).toInt := by rw [e74, up2_ne (by omega)]
          have w81 : (m71 123 15).toInt = (m58 123 15).toInt := by rw [e74, up2_ne (by omega)]
          refine pv_goto (M := mX12_readsNumber) (tgt := 10) dX12_readsNumber_66 (by decide) ?_
          have kp : pow10 ((m71 123 12).toInt - (m 123 12).toInt) = 10 * pow10 ((m71 123 12).toInt - (m 123 12).toInt - 1) := pow10_s (by omega) (by omega)
          have kq : pow10 ((m71 123 12).toInt - (m 123 12).toInt - 1) = pow10 ((m13 123 12).toInt - (m 123 12).toInt) := congrArg pow10 (by omega)
          have kbn : nd (tR m) 5 (m 123 12).toInt = nd (tR m) (5 - ((m71 123 12).toInt - (m 123 12).toInt)).toNat (m71 123 12).toInt := by rw [kgn, show (5 - ((m13 123 12).toInt - (m 123 12).toInt)).toNat = (5 - ((m71 123 12).toInt - (m 123 12).toInt)).toNat + 1 by omega, nd_y kd, show (m13 123 12).toInt + 1 = (m71 123 12).toInt by omega]
          have kbv : ndv (tR m) 5 (m 123 12).toInt 0 = ndv (tR m) (5 - ((m71 123 12).toInt - (m 123 12).toInt)).toNat (m71 123 12).toInt (m71 123 19).toInt := by rw [kgv, show (5 - ((m13 123 12).toInt - (m 123 12).toInt)).toNat = (5 - ((m71 123 12).toInt - (m 123 12).toInt)).toNat + 1 by omega, ndv_y kd, show (m13 123 12).toInt + 1 = (m71 123 12).toInt by omega]; congr 1; omega
          exact ih19  m71 n14 (by first | omega | assumption | (show v1.toInt = (m 123 12).toInt; omega) | decide) (by first | omega | assumption | (show (m 123 12).toInt ≤ (m71 123 12).toInt; omega) | decide) (by first | omega | assumption | (show (m71 123 12).toInt ≤ (m 123 12).toInt + 5; omega) | decide) (by first | omega | assumption | (show (m71 123 12).toInt ≤ (m71 123 13).toInt; omega) | decide) (by first | omega | assumption | (show (m71 123 13).toInt = (m 123 13).toInt; omega) | decide) (by first | omega | assumption | (show (m71 123 19).toInt + 1 ≤ pow10 ((m71 123 12).toInt - (m 123 12).toInt); omega) | decide) (fun q => by omega) kbn (by first | omega | assumption | (show (m71 123 15).toInt = (m 123 15).toInt; omega) | decide) kbv I72 K73 (by omega)
        · have c49 := iv_eq (X := v47.toInt) (Y := v48.toInt) c49 rfl rfl
          refine pv_aload_n (M := mX12_readsNumber) 0 dX12_readsNumber_27 28 rfl rfl rfl ?_
          refine pv_iconst (M := mX12_readsNumber) (v := 2) dX12_readsNumber_28 29 rfl (by decide) ?_
          refine pv_aload_n (M := mX12_readsNumber) 0 dX12_readsNumber_29 30 rfl rfl rfl ?_
          refine iv_get (M := mX12_readsNumber) (l1 := 0) (l2 := 160) dX12_readsNumber_30 FX12 12 wd1185 (by decide) (tl123 hT) rfl I15 rfl 33 rfl (fun v86 ev86 pv86 qv86 => ?_)
          have wv86 : v86.toInt = (m13 123 12).toInt := congrArg Int32.toInt ev86
          have z87 : (2 : Int32).toInt = 2 := by decide
          refine pv_callv (M := mX12_readsNumber) (as := [.int 2, .int v86]) (st := []) (kc2 := 0) (ks2 := 0) dX12_readsNumber_33 wd1421 YX12_wrongAt ⟨wd1423, wd61⟩ (mk_get (tl123 hT)) rfl rfl (s_X12_wrongAt_vx g hT I15 2 (by decide) (by decide) v86 (by omega) (by omega)) rfl rfl (Nat.le_of_ble_eq_true rfl) (by decide) rfl rfl 36 rfl (fun rv h1 q88 => ?_)
          obtain ⟨m89, n90, v93, rfl, rfl, I91, K92, pv93, qv93, rv93⟩ := q88
          replace rv93 : (m89 123 14).toInt = -1000 * (2 : Int) - v86.toInt := by have q_ := rv93; (try rw [z87] at q_); exact q_
          have K92c := K92
          have w94 : (m89 123 12).toInt = (m13 123 12).toInt := congrArg Int32.toInt (K92 123 12 rfl)
          have w95 : (m89 123 13).toInt = (m13 123 13).toInt := congrArg Int32.toInt (K92 123 13 rfl)
          have w96 : (m89 123 16).toInt = (m13 123 16).toInt := congrArg Int32.toInt (K92 123 16 rfl)
          have w97 : (m89 123 17).toInt = (m13 123 17).toInt := congrArg Int32.toInt (K92 123 17 rfl)
          have w98 : (m89 123 19).toInt = (m13 123 19).toInt := congrArg Int32.toInt (K92 123 19 rfl)
          have w99 : (m89 123 15).toInt = (m13 123 15).toInt := congrArg Int32.toInt (K92 123 15 rfl)
          have K92 := K16.trans (K92.sub (wl_sub (by decide)))
          show PV _ _ _ _ _ _ _ 36 [.ref 123, .int v1] [.int v93] _
          exact pv_iret (M := mX12_readsNumber) dX12_readsNumber_36 rfl (iv_nz (by omega) (by omega)) ⟨_, _, _, rfl, rfl, I91, K92, by omega, by omega, ⟨(by refine ⟨?_, ?_, ?_, ?_⟩ <;> first | omega | (right; intro q; omega)), Or.inr ⟨by omega, FLT_of (a := 2) (p := (m13 123 12).toInt) (by rw [kgn, show (5 - ((m13 123 12).toInt - (m 123 12).toInt)).toNat = 0 by omega]; exact nd_2 kd) (by decide) (by omega)⟩, by omega, IFZ.no (by omega)⟩⟩
  exact lp18 (((160 - (m2 123 12).toInt) : Int).toNat + 1)  m2 n (by first | omega | assumption | (show v1.toInt = (m 123 12).toInt; omega) | decide) (by first | omega | assumption | (show (m 123 12).toInt ≤ (m2 123 12).toInt; omega) | decide) (by first | omega | assumption | (show (m2 123 12).toInt ≤ (m 123 12).toInt + 5; omega) | decide) (by first | omega | assumption | (show (m2 123 12).toInt ≤ (m2 123 13).toInt; omega) | decide) (by first | omega | assumption | (show (m2 123 13).toInt = (m 123 13).toInt; omega) | decide) (by rw [show (m2 123 12).toInt - (m 123 12).toInt = 0 by omega]; show (m2 123 19).toInt + 1 ≤ 1; omega) (fun _ => by unfold hereV; rw [e5, up2_ne (by omega), up2_ne (by omega), up2_off (by omega)]) (by rw [show (5 - ((m2 123 12).toInt - (m 123 12).toInt)).toNat = 5 by omega, show (m2 123 12).toInt = (m 123 12).toInt by omega]) (by first | omega | assumption | (show (m2 123 15).toInt = (m 123 15).toInt; omega) | decide) (by rw [show (5 - ((m2 123 12).toInt - (m 123 12).toInt)).toNat = 5 by omega, show (m2 123 12).toInt = (m 123 12).toInt by omega, show (m2 123 19).toInt = 0 by omega]) I3 K4 (by omega)

set_option maxHeartbeats 2000000 in
set_option maxRecDepth 20000 in
theorem s_X12_readsFactor_vz (g : pv_G) {T : List mv_T} {m : Nat → Nat → Int32} {n : Nat → Nat → Int64} {r : Nat → Value} (hT : TX T) (I : IV BB m) (cb : Int) (c : Int) (hp0 : HW cb c m) (hp1 : 0 ≤ SLK m) (hp2 : (m 123 12).toInt ≤ (m 123 13).toInt) (hp3 : (m 123 17).toInt ≤ (m 123 12).toInt) (hp4 : 0 ≤ (m 123 15).toInt) (hp5 : (m 123 15).toInt ≤ 6) : PM g mX12_readsFactor yX12_readsFactor (sqI T BB (wl [(123, 123, some 12), (123, 123, some 14), (123, 123, some 15), (123, 123, some 16), (123, 123, some 17), (123, 123, some 19), (130, 130, none), (131, 131, none)]) r m 0 1 (fun m' v => ((v.toInt = 0 ∧ FPF (tR m) (m 123 15).toInt (m 123 12).toInt (m' 123 14).toInt) ∨ (v.toInt = 1 ∧ RLs cb (c + 1) m m' ∧ FPR (tR m) (m 123 15).toInt (m 123 12).toInt (m' 123 15).toInt (m' 123 12).toInt ∧ C14 m' - C14 m = (m' 123 15).toInt - (m 123 15).toInt)) ∧ IFZ v.toInt (FAZ (tR m) m m'))) 4 0 0 [.ref 123] (mk T m n r) := by
  have Kp : fr (wl [(123, 123, some 12), (123, 123, some 14), (123, 123, some 15), (123, 123, some 16), (123, 123, some 17), (123, 123, some 19), (130, 130, none), (131, 131, none)]) m m := fr.rf
  have z161 : 0 ≤ (m 123 12).toInt ∧ (m 123 12).toInt ≤ 160 := I 123 12
  have z162 : 0 ≤ (m 123 13).toInt ∧ (m 123 13).toInt ≤ 160 := I 123 13
  have z163 : 0 ≤ (m 123 16).toInt ∧ (m 123 16).toInt ≤ 180 := I 123 16
  have z164 : 0 ≤ (m 123 17).toInt ∧ (m 123 17).toInt ≤ 180 := I 123 17
  have z165 : 0 ≤ (m 123 19).toInt ∧ (m 123 19).toInt ≤ 99999 := I 123 19
  refine PM.of 1 (lo := [.ref 123, pv_U]) rfl (by decide) rfl rfl (Nat.le_of_ble_eq_true rfl) ?_
  have lp6 : ∀ (fuel5 : Nat)  (m1 : Nat → Nat → Int32) (n2 : Nat → Nat → Int64), (RLs cb c m m1) → (FPQ (tR m) (m 123 15).toInt (m 123 12).toInt (m1 123 15).toInt (m1 123 12).toInt) → (C14 m1 - C14 m = (m1 123 15).toInt - (m 123 15).toInt) → (FBZ (tR m) m m1) → IV BB m1 → fr (wl [(123, 123, some 12), (123, 123, some 14), (123, 123, some 15), (123, 123, some 16), (123, 123, some 17), (123, 123, some 19), (130, 130, none), (131, 131, none)]) m m1 → ((160 - (m1 123 12).toInt) : Int).toNat < fuel5 → PV none g mX12_readsFactor (sqI T BB (wl [(123, 123, some 12), (123, 123, some 14), (123, 123, some 15), (123, 123, some 16), (123, 123, some 17), (123, 123, some 19), (130, 130, none), (131, 131, none)]) r m 0 1 (fun m' v => ((v.toInt = 0 ∧ FPF (tR m) (m 123 15).toInt (m 123 12).toInt (m' 123 14).toInt) ∨ (v.toInt = 1 ∧ RLs cb (c + 1) m m' ∧ FPR (tR m) (m 123 15).toInt (m 123 12).toInt (m' 123 15).toInt (m' 123 12).toInt ∧ C14 m' - C14 m = (m' 123 15).toInt - (m 123 15).toInt)) ∧ IFZ v.toInt (FAZ (tR m) m m'))) 4 0 0 0 [.ref 123, pv_U] [] (mk T m1 n2 r) := by
    intro fuel5
    induction fuel5 with
    | zero => intro  m1 n2 b8 b9 b10 b11 I3 K4 z12; omega
    | succ fuel5 ih7 =>
      intro  m1 n2 b8 b9 b10 b11 I3 K4 z12
      have z13 : 0 ≤ (m1 123 12).toInt ∧ (m1 123 12).toInt ≤ 160 := I3 123 12
      have z14 : 0 ≤ (m1 123 13).toInt ∧ (m1 123 13).toInt ≤ 160 := I3 123 13
      have z15 : 0 ≤ (m1 123 16).toInt ∧ (m1 123 16).toInt ≤ 180 := I3 123 16
      have z16 : 0 ≤ (m1 123 17).toInt ∧ (m1 123 17).toInt ≤ 180 := I3 123 17
      have z17 : 0 ≤ (m1 123 19).toInt ∧ (m1 123 19).toInt ≤ 99999 := I3 123 19
      have kg := (show RLs cb c m m1 by assumption)
      have kg2 := kg.2.2.2.2.1
      have kg3 := kg.2.2.2.2.2.2.2.2.1
      have kg4 := kg.2.2.2.2.2.2.2.2.2
      have kg5 : (m1 123 16).toInt ≤ (m1 123 12).toInt := SLK_cm (m := m1) (by have := kg.2.1; omega)
      have kg6 := kg.2.2.2.1
      have kg7 := kg.2.1
      have kg8 := kg.2.2.2.2.2.2.2.1
      have kgf := (show FPQ (tR m) (m 123 15).toInt (m 123 12).toInt (m1 123 15).toInt (m1 123 12).toInt by assumption)
      have kt0 : tR m1 = tR m := tR_eq (K4 123 13 rfl) (fun j => K4 129 j rfl)
      have kh0 : hereV m1 = tR m (m1 123 12).toInt := congrFun kt0 _
      have kgf1 := kgf.1
      have kgf2 := kgf.2.1
      have kgz := (show FBZ (tR m) m m1 by assumption)
      refine pv_aload_n (M := mX12_readsFactor) 0 dX12_readsFactor_0 1 rfl rfl rfl ?_
      refine pv_callv (M := mX12_readsFactor) (as := []) (st := []) (kc2 := 0) (ks2 := 0) dX12_readsFactor_1 wd1417 YX12_here ⟨wd1419, wd60⟩ (mk_get (tl123 hT)) rfl rfl (s_X12_here g hT I3) rfl rfl (Nat.le_of_ble_eq_true rfl) (by decide) rfl rfl 4 rfl (fun rv h1 q32 => ?_)
      obtain ⟨v33, rfl, rfl, pv33, qv33, rv33⟩ := q32
      replace rv33 : v33.toInt = hereV m1 ∧ (v33.toInt = -1 ∨ (m1 123 12).toInt < (m1 123 13).toInt) := rv33
      show PV _ _ _ _ _ _ _ 4 [.ref 123, pv_U] [.int v33] _
      have k4 : v33.toInt = tR m (m1 123 12).toInt := rv33.1.trans (congrFun kt0 _)
      refine pv_bipush (M := mX12_readsFactor) (v := 91) dX12_readsFactor_4 6 rfl (by decide) ?_
      refine pv_icmp_ne (M := mX12_readsFactor) (tgt := 20) dX12_readsFactor_6 9 rfl (by decide) (fun c35 => ?_) (fun c35 => ?_)
      · have c35 := iv_ne (X := v33.toInt) (Y := 91) c35 rfl (by decide)
        have kn : tR m (m1 123 12).toInt ≠ 91 := by omega
        refine pv_aload_n (M := mX12_readsFactor) 0 dX12_readsFactor_20 21 rfl rfl rfl ?_
        refine pv_callv (M := mX12_readsFactor) (as := []) (st := []) (kc2 := 0) (ks2 := 0) dX12_readsFactor_21 wd1438 YX12_isDigit ⟨wd1440, wd65⟩ (mk_get (tl123 hT)) rfl rfl (s_X12_isDigit g hT I3) rfl rfl (Nat.le_of_ble_eq_true rfl) (by decide) rfl rfl 24 rfl (fun rv h1 q37 => ?_)
        obtain ⟨v38, rfl, rfl, pv38, qv38, rv38⟩ := q37
        replace rv38 : (v38.toInt = 0 ∧ ¬ (48 ≤ hereV m1 ∧ hereV m1 ≤ 57)) ∨ (v38.toInt = 1 ∧ 48 ≤ hereV m1 ∧ hereV m1 ≤ 57 ∧ (m1 123 12).toInt < (m1 123 13).toInt) := rv38
        show PV _ _ _ _ _ _ _ 24 [.ref 123, pv_U] [.int v38] _
        refine pv_if_eq (M := mX12_readsFactor) (tgt := 47) dX12_readsFactor_24 27 rfl (by decide) (fun c39 => ?_) (fun c39 => ?_)
        · have c39 := iv_eq (X := v38.toInt) (Y := 0) c39 rfl (by decide)
          have kdn : dig (tR m (m1 123 12).toInt) = false := by rw [← kh0]; exact dig_no (by omega)
          refine pv_aload_n (M := mX12_readsFactor) 0 dX12_readsFactor_47 48 rfl rfl rfl ?_
          refine pv_callv (M := mX12_readsFactor) (as := []) (st := []) (kc2 := 0) (ks2 := 0) dX12_readsFactor_48 wd1417 YX12_here ⟨wd1419, wd60⟩ (mk_get (tl123 hT)) rfl rfl (s_X12_here g hT I3) rfl rfl (Nat.le_of_ble_eq_true rfl) (by decide) rfl rfl 51 rfl (fun rv h1 q41 => ?_)
          obtain ⟨v42, rfl, rfl, pv42, qv42, rv42⟩ := q41
          replace rv42 : v42.toInt = hereV m1 ∧ (v42.toInt = -1 ∨ (m1 123 12).toInt < (m1 123 13).toInt) := rv42
          show PV _ _ _ _ _ _ _ 51 [.ref 123, pv_U] [.int v42] _
          have k51 : v42.toInt = tR m (m1 123 12).toInt := rv42.1.trans (congrFun kt0 _)
          have k51b := rv42.2
          refine pv_calls (M := mX12_readsFactor) (as := [.int v42]) (st := []) (kc2 := 0) (ks2 := 0) dX12_readsFactor_51 wd1450 YX12_factOf wd1451 (s_X12_factOf_vx g hT I3 v42) rfl rfl (Nat.le_of_ble_eq_true rfl) (by decide) rfl rfl 54 rfl (fun rv h1 q45 => ?_)
          obtain ⟨v46, rfl, rfl, pv46, qv46, rv46⟩ := q45
          replace rv46 : v46.toInt = nix v42.toInt := rv46
          show PV _ _ _ _ _ _ _ 54 [.ref 123, pv_U] [.int v46] _
          have k54 : v46.toInt = nix (tR m (m1 123 12).toInt) := by rw [rv46, k51]
          have k54b : nix (tR m (m1 123 12).toInt) ≠ -1 → (m1 123 12).toInt < (m1 123 13).toInt := fun q => k51b.resolve_left (fun w => q (by rw [← k51, w]; decide))
          refine pv_istore_n (M := mX12_readsFactor) 1 (lo2 := [.ref 123, .int v46]) dX12_readsFactor_54 55 rfl rfl (by decide) rfl rfl ?_
          refine pv_iload_n (M := mX12_readsFactor) 1 dX12_readsFactor_55 56 rfl rfl rfl ?_
          refine pv_iconst (M := mX12_readsFactor) (v := (-1)) dX12_readsFactor_56 57 rfl (by decide) ?_
          refine pv_icmp_ne (M := mX12_readsFactor) (tgt := 70) dX12_readsFactor_57 60 rfl (by decide) (fun c49 => ?_) (fun c49 => ?_)
          · have c49 := iv_ne (X := v46.toInt) (Y := (-1)) c49 rfl (by decide)
            have k70 := k54b (by omega)
            refine pv_aload_n (M := mX12_readsFactor) 0 dX12_readsFactor_70 71 rfl rfl rfl ?_
            refine pv_iconst (M := mX12_readsFactor) (v := 1) dX12_readsFactor_71 72 rfl (by decide) ?_
            refine pv_iload_n (M := mX12_readsFactor) 1 dX12_readsFactor_72 73 rfl rfl rfl ?_
            have z51 : (1 : Int32).toInt = 1 := by decide
            refine pv_callv (M := mX12_readsFactor) (as := [.int 1, .int v46]) (st := []) (kc2 := 0) (ks2 := 0) dX12_readsFactor_73 wd1446 YX12_notes ⟨wd1448, wd67⟩ (mk_get (tl123 hT)) rfl rfl (s_X12_notes g hT I3 1 (by decide) (by decide) v46 (by omega) (by omega) (by first | omega | assumption | exact (iv_rng _).2 | exact (iv_rng _).1 | decide)) rfl rfl (Nat.le_of_ble_eq_true rfl) (by decide) rfl rfl 76 rfl (fun rv h1 q52 => ?_)
            obtain ⟨m53, n54, rfl, rfl, I55, K56, rm53⟩ := q52
            replace rm53 : NOTE (1 : Int) v46.toInt m1 m53 := by have q_ := rm53; (try rw [z51] at q_); exact q_
            have K56c := K56
            have w57 : (m53 123 12).toInt = (m1 123 12).toInt := congrArg Int32.toInt (K56 123 12 rfl)
            have w58 : (m53 123 13).toInt = (m1 123 13).toInt := congrArg Int32.toInt (K56 123 13 rfl)
            have w59 : (m53 123 17).toInt = (m1 123 17).toInt := congrArg Int32.toInt (K56 123 17 rfl)
            have w60 : (m53 123 14).toInt = (m1 123 14).toInt := congrArg Int32.toInt (K56 123 14 rfl)
            have w61 : (m53 123 15).toInt = (m1 123 15).toInt := congrArg Int32.toInt (K56 123 15 rfl)
            have w62 : (m53 123 19).toInt = (m1 123 19).toInt := congrArg Int32.toInt (K56 123 19 rfl)
            have K56 := K4.trans (K56.sub (wl_sub (by decide)))
            show PV _ _ _ _ _ _ _ 76 [.ref 123, .int v46] [] _
            have kN := rm53
            have kC14e : C14 m53 = C14 m1 := C14_e (fun j => K56c 131 j rfl) (K56c 123 17 rfl)
            have kA := FPQ_at kgf kn (AT_nam kdn (nix_y (by omega)))
            refine pv_aload_n (M := mX12_readsFactor) 0 dX12_readsFactor_76 77 rfl rfl rfl ?_
            refine pv_aload_n (M := mX12_readsFactor) 0 dX12_readsFactor_77 78 rfl rfl rfl ?_
            refine iv_get (M := mX12_readsFactor) (l1 := 0) (l2 := 160) dX12_readsFactor_78 FX12 12 wd1185 (by decide) (tl123 hT) rfl I55 rfl 81 rfl (fun v66 ev66 pv66 qv66 => ?_)
            have wv66 : v66.toInt = (m53 123 12).toInt := congrArg Int32.toInt ev66
            refine pv_iconst (M := mX12_readsFactor) (v := 1) dX12_readsFactor_81 82 rfl (by decide) ?_
            refine iv_iadd (M := mX12_readsFactor) (X := v66.toInt) (Y := 1) dX12_readsFactor_82 83 rfl rfl (by decide) (by omega) (by omega) (fun v67 ev67 => ?_)
            refine iv_put (M := mX12_readsFactor) (l1 := 0) (l2 := 160) dX12_readsFactor_83 FX12 12 wd1185 (by decide) rfl (tl123 hT) rfl rfl rfl I55 rfl (by omega) (by omega) 86 rfl (fun m68 e71 I69 => ?_)
            have K70 := K56.set e71 rfl
            have w72 : (m68 123 12).toInt = v67.toInt := by rw [e71, up2_eq]
            have w73 : (m68 123 13).toInt = (m53 123 13).toInt := by rw [e71, up2_ne (by omega)]
            have w74 : (m68 123 16).toInt = (m53 123 16).toInt := by rw [e71, up2_ne (by omega)]
            have w75 : (m68 123 17).toInt = (m53 123 17).toInt := by rw [e71, up2_ne (by omega)]
            have w76 : (m68 123 14).toInt = (m53 123 14).toInt := by rw [e71, up2_ne (by omega)]
            have w77 : (m68 123 15).toInt = (m53 123 15).toInt := by rw [e71, up2_ne (by omega)]
            have w78 : (m68 123 19).toInt = (m53 123 19).toInt := by rw [e71, up2_ne (by omega)]
            have kC14f : C14 m68 = C14 m1 := (C14_e (fun j => by rw [e71, up2_ne (by omega)]) (by rw [e71, up2_ne (by omega)])).trans kC14e
            have kA2 : FPR (tR m) (m 123 15).toInt (m 123 12).toInt (m68 123 15).toInt (m68 123 12).toInt := by have q := kA; rw [show (m1 123 15).toInt = (m68 123 15).toInt by omega, show (m1 123 12).toInt + 1 = (m68 123 12).toInt by omega] at q; exact q
            refine pv_iconst (M := mX12_readsFactor) (v := 1) dX12_readsFactor_86 87 rfl (by decide) ?_
            have z81 : (1 : Int32).toInt = 1 := by decide
            exact pv_iret (M := mX12_readsFactor) dX12_readsFactor_87 rfl rfl ⟨_, _, _, rfl, rfl, I69, K70, by decide, by decide, ⟨(Or.inr ⟨by decide, RLs.nam kg kN (by omega) (by omega) e71 (by omega) (by omega), kA2, by omega⟩), IFZ.is (FAZ_nam kgz (by omega) kn kdn (nix_y (by omega)) k54 (by omega) (by omega) kN e71 (by omega))⟩⟩
          · have c49 := iv_eq (X := v46.toInt) (Y := (-1)) c49 rfl (by decide)
            refine pv_aload_n (M := mX12_readsFactor) 0 dX12_readsFactor_60 61 rfl rfl rfl ?_
            refine pv_iconst (M := mX12_readsFactor) (v := 1) dX12_readsFactor_61 62 rfl (by decide) ?_
            refine pv_aload_n (M := mX12_readsFactor) 0 dX12_readsFactor_62 63 rfl rfl rfl ?_
            refine iv_get (M := mX12_readsFactor) (l1 := 0) (l2 := 160) dX12_readsFactor_63 FX12 12 wd1185 (by decide) (tl123 hT) rfl I3 rfl 66 rfl (fun v82 ev82 pv82 qv82 => ?_)
            have wv82 : v82.toInt = (m1 123 12).toInt := congrArg Int32.toInt ev82
            have z83 : (1 : Int32).toInt = 1 := by decide
            refine pv_callv (M := mX12_readsFactor) (as := [.int 1, .int v82]) (st := []) (kc2 := 0) (ks2 := 0) dX12_readsFactor_66 wd1421 YX12_wrongAt ⟨wd1423, wd61⟩ (mk_get (tl123 hT)) rfl rfl (s_X12_wrongAt_vx g hT I3 1 (by decide) (by decide) v82 (by omega) (by omega)) rfl rfl (Nat.le_of_ble_eq_true rfl) (by decide) rfl rfl 69 rfl (fun rv h1 q84 => ?_)
            obtain ⟨m85, n86, v89, rfl, rfl, I87, K88, pv89, qv89, rv89⟩ := q84
            replace rv89 : (m85 123 14).toInt = -1000 * (1 : Int) - v82.toInt := by have q_ := rv89; (try rw [z83] at q_); exact q_
            have K88c := K88
            have w90 : (m85 123 12).toInt = (m1 123 12).toInt := congrArg Int32.toInt (K88 123 12 rfl)
            have w91 : (m85 123 13).toInt = (m1 123 13).toInt := congrArg Int32.toInt (K88 123 13 rfl)
            have w92 : (m85 123 16).toInt = (m1 123 16).toInt := congrArg Int32.toInt (K88 123 16 rfl)
            have w93 : (m85 123 17).toInt = (m1 123 17).toInt := congrArg Int32.toInt (K88 123 17 rfl)
            have w94 : (m85 123 15).toInt = (m1 123 15).toInt := congrArg Int32.toInt (K88 123 15 rfl)
            have w95 : (m85 123 19).toInt = (m1 123 19).toInt := congrArg Int32.toInt (K88 123 19 rfl)
            have K88 := K4.trans (K88.sub (wl_sub (by decide)))
            show PV _ _ _ _ _ _ _ 69 [.ref 123, .int v46] [.int v89] _
            exact pv_iret (M := mX12_readsFactor) dX12_readsFactor_69 rfl (iv_nz (by omega) (by omega)) ⟨_, _, _, rfl, rfl, I87, K88, by omega, by omega, ⟨(Or.inl ⟨by omega, FPQ_fl kgf kn (FLT_of (a := 1) (p := (m1 123 12).toInt) (AT_no kdn (nix_no (by omega))) (by decide) (by omega))⟩), IFZ.no (by omega)⟩⟩
        · have c39 := iv_ne (X := v38.toInt) (Y := 0) c39 rfl (by decide)
          have kd : dig (tR m (m1 123 12).toInt) = true := by rw [← kh0]; exact dig_y (by omega) (by omega)
          refine pv_aload_n (M := mX12_readsFactor) 0 dX12_readsFactor_27 28 rfl rfl rfl ?_
          refine pv_callv (M := mX12_readsFactor) (as := []) (st := []) (kc2 := 0) (ks2 := 0) dX12_readsFactor_28 wd1442 YX12_readsNumber ⟨wd1444, wd66⟩ (mk_get (tl123 hT)) rfl rfl (s_X12_readsNumber_vz g hT I3 (by first | omega | assumption | exact (iv_rng _).2 | exact (iv_rng _).1 | decide)) rfl rfl (Nat.le_of_ble_eq_true rfl) (by decide) rfl rfl 31 rfl (fun rv h1 q97 => ?_)
          obtain ⟨m98, n99, v102, rfl, rfl, I100, K101, pv102, qv102, rv102⟩ := q97
          replace rv102 : ((v102.toInt = 0 ∨ (48 ≤ hereV m1 ∧ hereV m1 ≤ 57 → (m1 123 12).toInt + 1 ≤ (m98 123 12).toInt)) ∧ (m1 123 12).toInt ≤ (m98 123 12).toInt ∧ (m98 123 12).toInt ≤ (m98 123 13).toInt ∧ (m98 123 13).toInt = (m1 123 13).toInt) ∧ RSX (nd (tR m1) 5 (m1 123 12).toInt) v102.toInt (m98 123 12).toInt (m98 123 14).toInt ∧ (m98 123 15).toInt = (m1 123 15).toInt ∧ IFZ v102.toInt ((m98 123 19).toInt = ndv (tR m1) 5 (m1 123 12).toInt 0) := rv102
          have K101c := K101
          have w103 : (m98 123 13).toInt = (m1 123 13).toInt := congrArg Int32.toInt (K101 123 13 rfl)
          have w104 : (m98 123 16).toInt = (m1 123 16).toInt := congrArg Int32.toInt (K101 123 16 rfl)
          have w105 : (m98 123 17).toInt = (m1 123 17).toInt := congrArg Int32.toInt (K101 123 17 rfl)
          have w106 : (m98 123 15).toInt = (m1 123 15).toInt := congrArg Int32.toInt (K101 123 15 rfl)
          have K101 := K4.trans (K101.sub (wl_sub (by decide)))
          show PV _ _ _ _ _ _ _ 31 [.ref 123, pv_U] [.int v102] _
          have kR := rv102.1
          have kRx := rv102.2.1
          have kRo := rv102.2.2.1
          rw [kt0] at kRx
          have kRv := rv102.2.2.2
          rw [kt0] at kRv
          refine pv_if_ne (M := mX12_readsFactor) (tgt := 36) dX12_readsFactor_31 34 rfl (by decide) (fun c113 => ?_) (fun c113 => ?_)
          · have c113 := iv_ne (X := v102.toInt) (Y := 0) c113 rfl (by decide)
            have kF := K101c
            have kA := FPQ_at kgf kn ((AT_num kd).trans (RSX_ok kRx (by omega)))
            refine pv_aload_n (M := mX12_readsFactor) 0 dX12_readsFactor_36 37 rfl rfl rfl ?_
            refine pv_iconst (M := mX12_readsFactor) (v := 0) dX12_readsFactor_37 38 rfl (by decide) ?_
            refine pv_aload_n (M := mX12_readsFactor) 0 dX12_readsFactor_38 39 rfl rfl rfl ?_
            refine iv_get (M := mX12_readsFactor) (l1 := 0) (l2 := 99999) dX12_readsFactor_39 FX12 19 wd1192 (by decide) (tl123 hT) rfl I100 rfl 42 rfl (fun v116 ev116 pv116 qv116 => ?_)
            have wv116 : v116.toInt = (m98 123 19).toInt := congrArg Int32.toInt ev116
            have k42 : v116.toInt = (m98 123 19).toInt := congrArg Int32.toInt ev116
            have z118 : (0 : Int32).toInt = 0 := by decide
            refine pv_callv (M := mX12_readsFactor) (as := [.int 0, .int v116]) (st := []) (kc2 := 0) (ks2 := 0) dX12_readsFactor_42 wd1446 YX12_notes ⟨wd1448, wd67⟩ (mk_get (tl123 hT)) rfl rfl (s_X12_notes g hT I100 0 (by decide) (by decide) v116 (by omega) (by omega) (by first | omega | assumption | exact (iv_rng _).2 | exact (iv_rng _).1 | decide)) rfl rfl (Nat.le_of_ble_eq_true rfl) (by decide) rfl rfl 45 rfl (fun rv h1 q119 => ?_)
            obtain ⟨m120, n121, rfl, rfl, I122, K123, rm120⟩ := q119
            replace rm120 : NOTE (0 : Int) v116.toInt m98 m120 := by have q_ := rm120; (try rw [z118] at q_); exact q_
            have K123c := K123
            have w124 : (m120 123 12).toInt = (m98 123 12).toInt := congrArg Int32.toInt (K123 123 12 rfl)
            have w125 : (m120 123 13).toInt = (m98 123 13).toInt := congrArg Int32.toInt (K123 123 13 rfl)
            have w126 : (m120 123 17).toInt = (m98 123 17).toInt := congrArg Int32.toInt (K123 123 17 rfl)
            have w127 : (m120 123 14).toInt = (m98 123 14).toInt := congrArg Int32.toInt (K123 123 14 rfl)
            have w128 : (m120 123 15).toInt = (m98 123 15).toInt := congrArg Int32.toInt (K123 123 15 rfl)
            have w129 : (m120 123 19).toInt = (m98 123 19).toInt := congrArg Int32.toInt (K123 123 19 rfl)
            have K123 := K101.trans (K123.sub (wl_sub (by decide)))
            show PV _ _ _ _ _ _ _ 45 [.ref 123, pv_U] [] _
            have kN := rm120
            have kC14e : C14 m120 = C14 m1 := C14_e (fun j => (K123c 131 j rfl).trans (kF 131 j rfl)) ((K123c 123 17 rfl).trans (kF 123 17 rfl))
            have kA2 : FPR (tR m) (m 123 15).toInt (m 123 12).toInt (m120 123 15).toInt (m120 123 12).toInt := by have q := kA; rw [show (m1 123 15).toInt = (m120 123 15).toInt by omega, show (m98 123 12).toInt = (m120 123 12).toInt by omega] at q; exact q
            refine pv_iconst (M := mX12_readsFactor) (v := 1) dX12_readsFactor_45 46 rfl (by decide) ?_
            have z133 : (1 : Int32).toInt = 1 := by decide
            exact pv_iret (M := mX12_readsFactor) dX12_readsFactor_46 rfl rfl ⟨_, _, _, rfl, rfl, I122, K123, by decide, by decide, ⟨(Or.inr ⟨by decide, RLs.num kg (kF 123 16 rfl) (kF 123 17 rfl) (fun j => kF 130 j rfl) (fun j => kF 131 j rfl) (by omega) (by omega) (by omega) kN (by omega) (by omega), kA2, by omega⟩), IFZ.is (FAZ_num kgz (by omega) kn kd ((AT_num kd).trans ((RSX_ok kRx (by omega)).trans (by congr 1; omega))) (fun j => kF 130 j rfl) (fun j => kF 131 j rfl) (kF 123 16 rfl) (kF 123 17 rfl) kRo (by rw [k42, IFZ.get kRv (by omega)]) (by omega) (by omega) kN)⟩⟩
          · have c113 := iv_eq (X := v102.toInt) (Y := 0) c113 rfl (by decide)
            refine pv_iconst (M := mX12_readsFactor) (v := 0) dX12_readsFactor_34 35 rfl (by decide) ?_
            have z134 : (0 : Int32).toInt = 0 := by decide
            exact pv_iret (M := mX12_readsFactor) dX12_readsFactor_35 rfl rfl ⟨_, _, _, rfl, rfl, I100, K101, by decide, by decide, ⟨(Or.inl ⟨by decide, FPQ_fl kgf kn (by rw [AT_num kd]; exact RSX_fl kRx (by omega))⟩), IFZ.no (by decide)⟩⟩
      · have c35 := iv_eq (X := v33.toInt) (Y := 91) c35 rfl (by decide)
        refine pv_aload_n (M := mX12_readsFactor) 0 dX12_readsFactor_9 10 rfl rfl rfl ?_
        refine pv_bipush (M := mX12_readsFactor) (v := 14) dX12_readsFactor_10 12 rfl (by decide) ?_
        have z135 : (14 : Int32).toInt = 14 := by decide
        refine pv_callv (M := mX12_readsFactor) (as := [.int 14]) (st := []) (kc2 := 0) (ks2 := 0) dX12_readsFactor_12 wd1433 YX12_opens ⟨wd1435, wd64⟩ (mk_get (tl123 hT)) rfl rfl (s_X12_opens_vx g hT I3 14 (by decide) (by decide) (by first | omega | assumption | exact (iv_rng _).2 | exact (iv_rng _).1 | decide) (by first | omega | assumption | exact (iv_rng _).2 | exact (iv_rng _).1 | decide) (by first | omega | assumption | exact (iv_rng _).2 | exact (iv_rng _).1 | decide) (by first | omega | assumption | exact (iv_rng _).2 | exact (iv_rng _).1 | decide)) rfl rfl (Nat.le_of_ble_eq_true rfl) (by decide) rfl rfl 15 rfl (fun rv h1 q136 => ?_)
        obtain ⟨m137, n138, v141, rfl, rfl, I139, K140, pv141, qv141, rv141⟩ := q136
        replace rv141 : (v141.toInt = 0 ∧ (m137 123 12).toInt = (m1 123 12).toInt ∧ (m1 123 15).toInt = 6 ∧ (m137 123 14).toInt = -5000 - (m1 123 12).toInt) ∨ (v141.toInt = 1 ∧ (∃ o u w z : Int32, m137 = up2 (up2 (up2 (up2 m1 123 15 o) 131 (m1 123 17).toInt.toNat u) 123 17 w) 123 12 z ∧ u.toInt = 1048576 * (14 : Int) ∧ w.toInt = (m1 123 17).toInt + 1 ∧ z.toInt = (m1 123 12).toInt + 1) ∧ (m137 123 15).toInt = (m1 123 15).toInt + 1 ∧ (m1 123 15).toInt ≠ 6) := by have q_ := rv141; (try rw [z135] at q_); exact q_
        have K140c := K140
        have w142 : (m137 123 13).toInt = (m1 123 13).toInt := congrArg Int32.toInt (K140 123 13 rfl)
        have w143 : (m137 123 16).toInt = (m1 123 16).toInt := congrArg Int32.toInt (K140 123 16 rfl)
        have w144 : (m137 123 19).toInt = (m1 123 19).toInt := congrArg Int32.toInt (K140 123 19 rfl)
        have K140 := K4.trans (K140.sub (wl_sub (by decide)))
        show PV _ _ _ _ _ _ _ 15 [.ref 123, pv_U] [.int v141] _
        have kO := rv141
        clear rv141
        refine pv_if_ne (M := mX12_readsFactor) (tgt := 0) dX12_readsFactor_15 18 rfl (by decide) (fun c147 => ?_) (fun c147 => ?_)
        · have c147 := iv_ne (X := v141.toInt) (Y := 0) c147 rfl (by decide)
          have kO2 := (kO.resolve_left (fun q => by have q1 := q.1; omega)).2
          have krl := RLs.opn kg (by omega) (by omega) kO2.1
          have kOP := kO2.2.1
          have kOn := kO2.2.2
          have kfz : FBZ (tR m) m m137 := FBZ_opn kgz (by omega) (by omega) (by omega) kO2.1 kOP
          obtain ⟨o1, o2, o3, o4, o5, o6, o7, o8⟩ := kO2.1
          have krz : (m137 123 12).toInt = (m1 123 12).toInt + 1 := by rw [o5, up2_f]; exact o8
          clear kO kO2
          have kw17 : (m137 123 17).toInt = (m1 123 17).toInt + 1 := by rw [o5, up2_ne (by omega), up2_f]; exact o7
          have kg14 : g14 o2 = 1 := by unfold g14 opv; rw [if_pos (by omega)]
          have kC14 := C14_push (m := m1) (m' := m137) (v := o2) (by omega) (fun j hj => by rw [o5, up2_ne (by omega), up2_ne (by omega), up2_ne (by omega), up2_ne (by omega)]) (by rw [o5, up2_ne (by omega), up2_ne (by omega), up2_f]) kw17
          have kfb : FPQ (tR m) (m 123 15).toInt (m 123 12).toInt (m137 123 15).toInt (m137 123 12).toInt := FPQ_opn kgf (by omega) kOn kOP krz
          exact ih7  m137 n138 krl kfb (by first | omega | assumption | (show C14 m137 - C14 m = (m137 123 15).toInt - (m 123 15).toInt; omega) | decide) kfz I139 K140 (by omega)
        · have c147 := iv_eq (X := v141.toInt) (Y := 0) c147 rfl (by decide)
          refine pv_iconst (M := mX12_readsFactor) (v := 0) dX12_readsFactor_18 19 rfl (by decide) ?_
          have z160 : (0 : Int32).toInt = 0 := by decide
          exact pv_iret (M := mX12_readsFactor) dX12_readsFactor_19 rfl rfl ⟨_, _, _, rfl, rfl, I139, K140, by decide, by decide, ⟨(Or.inl ⟨by decide, FPQ_deep kgf (by omega) (by omega) (by omega)⟩), IFZ.no (by decide)⟩⟩
  exact lp6 (((160 - (m 123 12).toInt) : Int).toNat + 1)  m n (RLs.start hp0 (by omega) (by omega)) (FPQ_0 (by omega)) (by first | omega | assumption | (show C14 m - C14 m = (m 123 15).toInt - (m 123 15).toInt; omega) | decide) FBZ_0 I Kp (by omega)

set_option maxHeartbeats 2000000 in
set_option maxRecDepth 20000 in
theorem s_X12_readsSum_vz (g : pv_G) {T : List mv_T} {m : Nat → Nat → Int32} {n : Nat → Nat → Int64} {r : Nat → Value} (hT : TX T) (I : IV BB m) (cb : Int) (c : Int) (hp0 : HW cb c m) (hp1 : 0 ≤ c) (hp2 : 0 ≤ SLK m) (hp3 : (m 123 12).toInt ≤ (m 123 13).toInt) (hp4 : (m 123 17).toInt ≤ (m 123 12).toInt) (hp5 : NS m) (hp6 : 0 ≤ (m 123 15).toInt) (hp7 : (m 123 15).toInt ≤ 6) : PM g mX12_readsSum yX12_readsSum (sqI T BB (wl [(123, 123, some 12), (123, 123, some 14), (123, 123, some 15), (123, 123, some 16), (123, 123, some 17), (123, 123, some 19), (130, 130, none), (131, 131, none)]) r m 0 1 (fun m' v => ((v.toInt = 0 ∧ FLT (SU (tR m) (eo (m 123 15).toInt) (m 123 12).toInt) (m' 123 14).toInt) ∨ (v.toInt = 1 ∧ RS cb (c + 1) m m' ∧ SU (tR m) (eo (m 123 15).toInt) (m 123 12).toInt = (0, (m' 123 12).toInt) ∧ (m' 123 15).toInt = (m 123 15).toInt)) ∧ IFZ v.toInt (SRZ m m' (SUD (tR m) (eo (m 123 15).toInt) (m 123 12).toInt)))) 5 0 0 [.ref 123] (mk T m n r) := by
  have Kp : fr (wl [(123, 123, some 12), (123, 123, some 14), (123, 123, some 15), (123, 123, some 16), (123, 123, some 17), (123, 123, some 19), (130, 130, none), (131, 131, none)]) m m := fr.rf
  have z400 : 0 ≤ (m 123 12).toInt ∧ (m 123 12).toInt ≤ 160 := I 123 12
  have z401 : 0 ≤ (m 123 13).toInt ∧ (m 123 13).toInt ≤ 160 := I 123 13
  have z402 : 0 ≤ (m 123 16).toInt ∧ (m 123 16).toInt ≤ 180 := I 123 16
  have z403 : 0 ≤ (m 123 17).toInt ∧ (m 123 17).toInt ≤ 180 := I 123 17
  refine PM.of 2 (lo := [.ref 123, pv_U, pv_U]) rfl (by decide) rfl rfl (Nat.le_of_ble_eq_true rfl) ?_
  have kTX := TXT_R I
  refine pv_aload_n (M := mX12_readsSum) 0 dX12_readsSum_0 1 rfl rfl rfl ?_
  refine iv_get (M := mX12_readsSum) (l1 := 0) (l2 := 180) dX12_readsSum_1 FX12 17 wd1190 (by decide) (tl123 hT) rfl I rfl 4 rfl (fun v2 ev2 pv2 qv2 => ?_)
  have wv2 : v2.toInt = (m 123 17).toInt := congrArg Int32.toInt ev2
  refine pv_istore_n (M := mX12_readsSum) 1 (lo2 := [.ref 123, .int v2, pv_U]) dX12_readsSum_4 5 rfl rfl (by decide) rfl rfl ?_
  refine pv_aload_n (M := mX12_readsSum) 0 dX12_readsSum_5 6 rfl rfl rfl ?_
  refine pv_callv (M := mX12_readsSum) (as := []) (st := []) (kc2 := 0) (ks2 := 0) dX12_readsSum_6 wd1429 YX12_readsFactor ⟨wd1431, wd63⟩ (mk_get (tl123 hT)) rfl rfl (s_X12_readsFactor_vz g hT I cb c hp0 (by first | omega | assumption | exact (iv_rng _).2 | exact (iv_rng _).1 | decide) (by first | omega | assumption | exact (iv_rng _).2 | exact (iv_rng _).1 | decide) (by first | omega | assumption | exact (iv_rng _).2 | exact (iv_rng _).1 | decide) (by first | omega | assumption | exact (iv_rng _).2 | exact (iv_rng _).1 | decide) (by first | omega | assumption | exact (iv_rng _).2 | exact (iv_rng _).1 | decide)) rfl rfl (Nat.le_of_ble_eq_true rfl) (by decide) rfl rfl 9 rfl (fun rv h1 q3 => ?_)
  obtain ⟨m4, n5, v8, rfl, rfl, I6, K7, pv8, qv8, rv8⟩ := q3
  replace rv8 : ((v8.toInt = 0 ∧ FPF (tR m) (m 123 15).toInt (m 123 12).toInt (m4 123 14).toInt) ∨ (v8.toInt = 1 ∧ RLs cb (c + 1) m m4 ∧ FPR (tR m) (m 123 15).toInt (m 123 12).toInt (m4 123 15).toInt (m4 123 12).toInt ∧ C14 m4 - C14 m = (m4 123 15).toInt - (m 123 15).toInt)) ∧ IFZ v8.toInt (FAZ (tR m) m m4) := rv8
  have K7c := K7
  have w9 : (m4 123 13).toInt = (m 123 13).toInt := congrArg Int32.toInt (K7 123 13 rfl)
  have K7 := Kp.trans (K7.sub (fun _ _ q => q))
  show PV _ _ _ _ _ _ _ 9 [.ref 123, .int v2, pv_U] [.int v8] _
  have kR := rv8.1
  have kRz := rv8.2
  refine pv_if_ne (M := mX12_readsSum) (tgt := 14) dX12_readsSum_9 12 rfl (by decide) (fun c12 => ?_) (fun c12 => ?_)
  · have c12 := iv_ne (X := v8.toInt) (Y := 0) c12 rfl (by decide)
    have lp18 : ∀ (fuel17 : Nat)  (m13 : Nat → Nat → Int32) (n14 : Nat → Nat → Int64), (v2.toInt = (m 123 17).toInt) → (RLs cb (c + 1) m m13) → (KI (tR m) (m 123 15).toInt (m 123 12).toInt (m13 123 15).toInt (m13 123 12).toInt) → (C14 m13 - C14 m = (m13 123 15).toInt - (m 123 15).toInt) → (SUZ (tR m) m m13) → IV BB m13 → fr (wl [(123, 123, some 12), (123, 123, some 14), (123, 123, some 15), (123, 123, some 16), (123, 123, some 17), (123, 123, some 19), (130, 130, none), (131, 131, none)]) m m13 → ((160 - (m13 123 12).toInt) : Int).toNat < fuel17 → PV none g mX12_readsSum (sqI T BB (wl [(123, 123, some 12), (123, 123, some 14), (123, 123, some 15), (123, 123, some 16), (123, 123, some 17), (123, 123, some 19), (130, 130, none), (131, 131, none)]) r m 0 1 (fun m' v => ((v.toInt = 0 ∧ FLT (SU (tR m) (eo (m 123 15).toInt) (m 123 12).toInt) (m' 123 14).toInt) ∨ (v.toInt = 1 ∧ RS cb (c + 1) m m' ∧ SU (tR m) (eo (m 123 15).toInt) (m 123 12).toInt = (0, (m' 123 12).toInt) ∧ (m' 123 15).toInt = (m 123 15).toInt)) ∧ IFZ v.toInt (SRZ m m' (SUD (tR m) (eo (m 123 15).toInt) (m 123 12).toInt)))) 5 0 0 14 [.ref 123, .int v2, pv_U] [] (mk T m13 n14 r) := by
      intro fuel17
      induction fuel17 with
      | zero => intro  m13 n14 b20 b21 b22 b23 b24 I15 K16 z25; omega
      | succ fuel17 ih19 =>
        intro  m13 n14 b20 b21 b22 b23 b24 I15 K16 z25
        have z26 : 0 ≤ (m13 123 12).toInt ∧ (m13 123 12).toInt ≤ 160 := I15 123 12
        have z27 : 0 ≤ (m13 123 13).toInt ∧ (m13 123 13).toInt ≤ 160 := I15 123 13
        have z28 : 0 ≤ (m13 123 16).toInt ∧ (m13 123 16).toInt ≤ 180 := I15 123 16
        have z29 : 0 ≤ (m13 123 17).toInt ∧ (m13 123 17).toInt ≤ 180 := I15 123 17
        have kg := (show RLs cb (c + 1) m m13 by assumption)
        have kg2 := kg.2.2.2.2.1
        have kg3 := kg.2.2.2.2.2.2.2.2.1
        have kg4 := kg.2.2.2.2.2.2.2.2.2
        have kg5 : (m13 123 16).toInt ≤ (m13 123 12).toInt := SLK_cm (m := m13) (by have := kg.2.1; omega)
        have kg6 := kg.2.2.2.1
        have kg7 := kg.2.1
        have kg8 := kg.2.2.2.2.2.2.2.1
        have kgk := (show KI (tR m) (m 123 15).toInt (m 123 12).toInt (m13 123 15).toInt (m13 123 12).toInt by assumption)
        have kt14 : tR m13 = tR m := tR_eq (K16 123 13 rfl) (fun j => K16 129 j rfl)
        have kgk1 := kgk.1
        have kgk2 := kgk.2.1
        have kgz := (show SUZ (tR m) m m13 by assumption)
        refine pv_aload_n (M := mX12_readsSum) 0 dX12_readsSum_14 15 rfl rfl rfl ?_
        refine pv_callv (M := mX12_readsSum) (as := []) (st := []) (kc2 := 0) (ks2 := 0) dX12_readsSum_15 wd1417 YX12_here ⟨wd1419, wd60⟩ (mk_get (tl123 hT)) rfl rfl (s_X12_here g hT I15) rfl rfl (Nat.le_of_ble_eq_true rfl) (by decide) rfl rfl 18 rfl (fun rv h1 q43 => ?_)
        obtain ⟨v44, rfl, rfl, pv44, qv44, rv44⟩ := q43
        replace rv44 : v44.toInt = hereV m13 ∧ (v44.toInt = -1 ∨ (m13 123 12).toInt < (m13 123 13).toInt) := rv44
        show PV _ _ _ _ _ _ _ 18 [.ref 123, .int v2, pv_U] [.int v44] _
        have k18 : v44.toInt = tR m (m13 123 12).toInt := rv44.1.trans (congrFun kt14 _)
        refine pv_calls (M := mX12_readsSum) (as := [.int v44]) (st := []) (kc2 := 0) (ks2 := 0) dX12_readsSum_18 wd1453 YX12_sumSign wd1454 (s_X12_sumSign_vz g hT I15 v44) rfl rfl (Nat.le_of_ble_eq_true rfl) (by decide) rfl rfl 21 rfl (fun rv h1 q46 => ?_)
        obtain ⟨v47, rfl, rfl, pv47, qv47, rv47⟩ := q46
        replace rv47 : ((v47.toInt = -1 ∨ (2 ≤ v47.toInt ∧ 0 ≤ v44.toInt)) ∧ ((v47.toInt = -1 ∧ isS v44.toInt = false) ∨ (2 ≤ v47.toInt ∧ isS v44.toInt = true))) ∧ IFZ (v47.toInt + 1) (opc v47.toInt = v44.toInt ∧ ((4 ≤ v47.toInt ∧ isT v44.toInt = true) ∨ (v47.toInt ≤ 3 ∧ isT v44.toInt = false))) := rv47
        show PV _ _ _ _ _ _ _ 21 [.ref 123, .int v2, pv_U] [.int v47] _
        have k21 := rv47.1.2
        have k21z := rv47.2
        refine pv_istore_n (M := mX12_readsSum) 2 (lo2 := [.ref 123, .int v2, .int v47]) dX12_readsSum_21 22 rfl rfl (by decide) rfl rfl ?_
        refine pv_iload_n (M := mX12_readsSum) 2 dX12_readsSum_22 23 rfl rfl rfl ?_
        refine pv_iconst (M := mX12_readsSum) (v := (-1)) dX12_readsSum_23 24 rfl (by decide) ?_
        refine pv_icmp_eq (M := mX12_readsSum) (tgt := 83) dX12_readsSum_24 27 rfl (by decide) (fun c50 => ?_) (fun c50 => ?_)
        · have c50 := iv_eq (X := v47.toInt) (Y := (-1)) c50 rfl (by decide)
          have kS0 : isS (tR m (m13 123 12).toInt) = false := by rw [← k18]; exact (k21.resolve_right (fun q => by have q1 := q.1; omega)).2
          refine pv_aload_n (M := mX12_readsSum) 0 dX12_readsSum_83 84 rfl rfl rfl ?_
          refine pv_callv (M := mX12_readsSum) (as := []) (st := []) (kc2 := 0) (ks2 := 0) dX12_readsSum_84 wd1417 YX12_here ⟨wd1419, wd60⟩ (mk_get (tl123 hT)) rfl rfl (s_X12_here g hT I15) rfl rfl (Nat.le_of_ble_eq_true rfl) (by decide) rfl rfl 87 rfl (fun rv h1 q52 => ?_)
          obtain ⟨v53, rfl, rfl, pv53, qv53, rv53⟩ := q52
          replace rv53 : v53.toInt = hereV m13 ∧ (v53.toInt = -1 ∨ (m13 123 12).toInt < (m13 123 13).toInt) := rv53
          show PV _ _ _ _ _ _ _ 87 [.ref 123, .int v2, .int v47] [.int v53] _
          have k87 : v53.toInt = tR m (m13 123 12).toInt := rv53.1.trans (congrFun kt14 _)
          refine pv_bipush (M := mX12_readsSum) (v := 93) dX12_readsSum_87 89 rfl (by decide) ?_
          refine pv_icmp_ne (M := mX12_readsSum) (tgt := 138) dX12_readsSum_89 92 rfl (by decide) (fun c55 => ?_) (fun c55 => ?_)
          · have c55 := iv_ne (X := v53.toInt) (Y := 93) c55 rfl (by decide)
            refine pv_aload_n (M := mX12_readsSum) 0 dX12_readsSum_138 139 rfl rfl rfl ?_
            refine pv_iload_n (M := mX12_readsSum) 1 dX12_readsSum_139 140 rfl rfl rfl ?_
            refine pv_callv (M := mX12_readsSum) (as := [.int v2]) (st := []) (kc2 := 0) (ks2 := 0) dX12_readsSum_140 wd1464 YX12_hasOpenSum ⟨wd1466, wd70⟩ (mk_get (tl123 hT)) rfl rfl (s_X12_hasOpenSum g hT I15 v2 (by omega) (by omega)) rfl rfl (Nat.le_of_ble_eq_true rfl) (by decide) rfl rfl 143 rfl (fun rv h1 q56 => ?_)
            obtain ⟨v57, rfl, rfl, pv57, qv57, rv57⟩ := q56
            replace rv57 : (v57.toInt = 1 ∧ ∃ j : Nat, v2.toInt ≤ j ∧ (j : Int) < (m13 123 17).toInt ∧ opv (m13 131 j) = 14) ∨ (v57.toInt = 0 ∧ ∀ j : Nat, v2.toInt ≤ j → (j : Int) < (m13 123 17).toInt → opv (m13 131 j) ≠ 14) := rv57
            show PV _ _ _ _ _ _ _ 143 [.ref 123, .int v2, .int v47] [.int v57] _
            have kH2 := rv57
            refine pv_if_eq (M := mX12_readsSum) (tgt := 156) dX12_readsSum_143 146 rfl (by decide) (fun c59 => ?_) (fun c59 => ?_)
            · have c59 := iv_eq (X := v57.toInt) (Y := 0) c59 rfl (by decide)
              have kC3 : C14 m13 = C14 m := C14_hasnt kg (by omega) (fun j j1 j2 => (kH2.resolve_left (fun q => by have q1 := q.1; omega)).2 j (by omega) j2)
              refine pv_aload_n (M := mX12_readsSum) 0 dX12_readsSum_156 157 rfl rfl rfl ?_
              refine pv_iconst (M := mX12_readsSum) (v := 1) dX12_readsSum_157 158 rfl (by decide) ?_
              have z61 : (1 : Int32).toInt = 1 := by decide
              refine pv_callv (M := mX12_readsSum) (as := [.int 1]) (st := []) (kc2 := 0) (ks2 := 0) dX12_readsSum_158 wd1456 YX12_closesSums ⟨wd1458, wd68⟩ (mk_get (tl123 hT)) rfl rfl (s_X12_closesSums_vz g hT I15 1 (by decide) (by decide) cb (c + 1) kg.1 (by omega) (by have := kg.2.1; omega)) rfl rfl (Nat.le_of_ble_eq_true rfl) (by decide) rfl rfl 161 rfl (fun rv h1 q62 => ?_)
              obtain ⟨m63, n64, rfl, rfl, I65, K66, rm63⟩ := q62
              replace rm63 : (CSI cb (c + 1) m13 m63 ∧ ((1 : Int) ≠ 0 → (m63 123 17).toInt = 0 ∨ ¬ (2 ≤ opv (m63 131 ((m63 123 17).toInt - 1).toNat) ∧ opv (m63 131 ((m63 123 17).toInt - 1).toNat) ≤ 6))) ∧ CSX m13 m63 ∧ ((m63 123 17).toInt = 0 ∨ ¬ (4 ≤ opv (m63 131 ((m63 123 17).toInt - 1).toNat) ∧ opv (m63 131 ((m63 123 17).toInt - 1).toNat) ≤ 6)) ∧ CTZ (1 : Int) m13 m63 := by have q_ := rm63; (try rw [z61] at q_); exact q_
              have K66c := K66
              have w67 : (m63 123 12).toInt = (m13 123 12).toInt := congrArg Int32.toInt (K66 123 12 rfl)
              have w68 : (m63 123 13).toInt = (m13 123 13).toInt := congrArg Int32.toInt (K66 123 13 rfl)
              have w69 : (m63 123 14).toInt = (m13 123 14).toInt := congrArg Int32.toInt (K66 123 14 rfl)
              have w70 : (m63 123 15).toInt = (m13 123 15).toInt := congrArg Int32.toInt (K66 123 15 rfl)
              have K66 := K16.trans (K66.sub (wl_sub (by decide)))
              show PV _ _ _ _ _ _ _ 161 [.ref 123, .int v2, .int v47] [] _
              have kC := rm63.1
              have kL := RLs.cls kg hp5 (by omega) kC.1 (K66c 123 12 rfl) (K66c 123 13 rfl)
              have kL2 := kL.2.2.2.2.1
              have kL3 := kL.2.2.2.1
              have kL4 := kL.2.1
              have kZ := RLs.fin kg kL (by omega) kC.1 (fun j a b => (kH2.resolve_left (fun q => by have := q.1; omega)).2 j (by omega) b) (kC.2 (by decide))
              have kC14c : C14 m63 = C14 m13 := C14_csi kC.1
              have kOc : (m63 123 15).toInt = (m13 123 15).toInt := congrArg Int32.toInt (K66c 123 15 rfl)
              have kcs := rm63.2.1
              have kcq := rm63.2.2.1
              have kcz := rm63.2.2.2
              have kSd := SUZ_end kgz (KI_end kgk kS0 (by omega)) kS0 (by omega) kcs (by have := kZ.2.2.2.1; omega) (by omega) (fun i hi => kC.1.2.2.2.2.2.2 (wtN m13 - 1 - i) (by unfold wtN; omega) (by unfold wtN; omega))
              refine pv_iconst (M := mX12_readsSum) (v := 1) dX12_readsSum_161 162 rfl (by decide) ?_
              have z83 : (1 : Int32).toInt = 1 := by decide
              exact pv_iret (M := mX12_readsSum) dX12_readsSum_162 rfl rfl ⟨_, _, _, rfl, rfl, I65, K66, by decide, by decide, ⟨(Or.inr ⟨by decide, kZ, by rw [KI_end kgk kS0 (by omega), show (m13 123 12).toInt = (m63 123 12).toInt by omega], by omega⟩), IFZ.is kSd⟩⟩
            · have c59 := iv_ne (X := v57.toInt) (Y := 0) c59 rfl (by decide)
              have kC2 : C14 m + 1 ≤ C14 m13 := by obtain ⟨j, j1, j2, j3⟩ := (kH2.resolve_right (fun q => by have q1 := q.1; omega)).2; exact C14_has kg (by omega) (by omega) j2 j3
              refine pv_aload_n (M := mX12_readsSum) 0 dX12_readsSum_146 147 rfl rfl rfl ?_
              refine pv_iconst (M := mX12_readsSum) (v := 1) dX12_readsSum_147 148 rfl (by decide) ?_
              refine pv_aload_n (M := mX12_readsSum) 0 dX12_readsSum_148 149 rfl rfl rfl ?_
              refine iv_get (M := mX12_readsSum) (l1 := 0) (l2 := 160) dX12_readsSum_149 FX12 12 wd1185 (by decide) (tl123 hT) rfl I15 rfl 152 rfl (fun v85 ev85 pv85 qv85 => ?_)
              have wv85 : v85.toInt = (m13 123 12).toInt := congrArg Int32.toInt ev85
              have z86 : (1 : Int32).toInt = 1 := by decide
              refine pv_callv (M := mX12_readsSum) (as := [.int 1, .int v85]) (st := []) (kc2 := 0) (ks2 := 0) dX12_readsSum_152 wd1421 YX12_wrongAt ⟨wd1423, wd61⟩ (mk_get (tl123 hT)) rfl rfl (s_X12_wrongAt_vx g hT I15 1 (by decide) (by decide) v85 (by omega) (by omega)) rfl rfl (Nat.le_of_ble_eq_true rfl) (by decide) rfl rfl 155 rfl (fun rv h1 q87 => ?_)
              obtain ⟨m88, n89, v92, rfl, rfl, I90, K91, pv92, qv92, rv92⟩ := q87
              replace rv92 : (m88 123 14).toInt = -1000 * (1 : Int) - v85.toInt := by have q_ := rv92; (try rw [z86] at q_); exact q_
              have K91c := K91
              have w93 : (m88 123 12).toInt = (m13 123 12).toInt := congrArg Int32.toInt (K91 123 12 rfl)
              have w94 : (m88 123 13).toInt = (m13 123 13).toInt := congrArg Int32.toInt (K91 123 13 rfl)
              have w95 : (m88 123 16).toInt = (m13 123 16).toInt := congrArg Int32.toInt (K91 123 16 rfl)
              have w96 : (m88 123 17).toInt = (m13 123 17).toInt := congrArg Int32.toInt (K91 123 17 rfl)
              have w97 : (m88 123 15).toInt = (m13 123 15).toInt := congrArg Int32.toInt (K91 123 15 rfl)
              have K91 := K16.trans (K91.sub (wl_sub (by decide)))
              show PV _ _ _ _ _ _ _ 155 [.ref 123, .int v2, .int v47] [.int v92] _
              exact pv_iret (M := mX12_readsSum) dX12_readsSum_155 rfl (iv_nz (by omega) (by omega)) ⟨_, _, _, rfl, rfl, I90, K91, by omega, by omega, ⟨(by first | exact Or.inl ⟨by omega, KI_wrong kgk kS0 (by omega) (by omega) (by omega)⟩ | (exfalso; obtain ⟨j, j1, j2, j3⟩ := (kH2.resolve_right (fun q => by have q1 := q.1; omega)).2; exact absurd j3 ((kH.resolve_left (fun q => by have q1 := q.1; omega)).2 j j1 j2))), IFZ.no (by omega)⟩⟩
          · have c55 := iv_eq (X := v53.toInt) (Y := 93) c55 rfl (by decide)
            refine pv_aload_n (M := mX12_readsSum) 0 dX12_readsSum_92 93 rfl rfl rfl ?_
            refine pv_iload_n (M := mX12_readsSum) 1 dX12_readsSum_93 94 rfl rfl rfl ?_
            refine pv_callv (M := mX12_readsSum) (as := [.int v2]) (st := []) (kc2 := 0) (ks2 := 0) dX12_readsSum_94 wd1464 YX12_hasOpenSum ⟨wd1466, wd70⟩ (mk_get (tl123 hT)) rfl rfl (s_X12_hasOpenSum g hT I15 v2 (by omega) (by omega)) rfl rfl (Nat.le_of_ble_eq_true rfl) (by decide) rfl rfl 97 rfl (fun rv h1 q98 => ?_)
            obtain ⟨v99, rfl, rfl, pv99, qv99, rv99⟩ := q98
            replace rv99 : (v99.toInt = 1 ∧ ∃ j : Nat, v2.toInt ≤ j ∧ (j : Int) < (m13 123 17).toInt ∧ opv (m13 131 j) = 14) ∨ (v99.toInt = 0 ∧ ∀ j : Nat, v2.toInt ≤ j → (j : Int) < (m13 123 17).toInt → opv (m13 131 j) ≠ 14) := rv99
            show PV _ _ _ _ _ _ _ 97 [.ref 123, .int v2, .int v47] [.int v99] _
            have kH := rv99
            refine pv_if_eq (M := mX12_readsSum) (tgt := 138) dX12_readsSum_97 100 rfl (by decide) (fun c101 => ?_) (fun c101 => ?_)
            · have c101 := iv_eq (X := v99.toInt) (Y := 0) c101 rfl (by decide)
              refine pv_aload_n (M := mX12_readsSum) 0 dX12_readsSum_138 139 rfl rfl rfl ?_
              refine pv_iload_n (M := mX12_readsSum) 1 dX12_readsSum_139 140 rfl rfl rfl ?_
              refine pv_callv (M := mX12_readsSum) (as := [.int v2]) (st := []) (kc2 := 0) (ks2 := 0) dX12_readsSum_140 wd1464 YX12_hasOpenSum ⟨wd1466, wd70⟩ (mk_get (tl123 hT)) rfl rfl (s_X12_hasOpenSum g hT I15 v2 (by omega) (by omega)) rfl rfl (Nat.le_of_ble_eq_true rfl) (by decide) rfl rfl 143 rfl (fun rv h1 q102 => ?_)
              obtain ⟨v103, rfl, rfl, pv103, qv103, rv103⟩ := q102
              replace rv103 : (v103.toInt = 1 ∧ ∃ j : Nat, v2.toInt ≤ j ∧ (j : Int) < (m13 123 17).toInt ∧ opv (m13 131 j) = 14) ∨ (v103.toInt = 0 ∧ ∀ j : Nat, v2.toInt ≤ j → (j : Int) < (m13 123 17).toInt → opv (m13 131 j) ≠ 14) := rv103
              show PV _ _ _ _ _ _ _ 143 [.ref 123, .int v2, .int v47] [.int v103] _
              have kH2 := rv103
              refine pv_if_eq (M := mX12_readsSum) (tgt := 156) dX12_readsSum_143 146 rfl (by decide) (fun c105 => ?_) (fun c105 => ?_)
              · have c105 := iv_eq (X := v103.toInt) (Y := 0) c105 rfl (by decide)
                have kC3 : C14 m13 = C14 m := C14_hasnt kg (by omega) (fun j j1 j2 => (kH2.resolve_left (fun q => by have q1 := q.1; omega)).2 j (by omega) j2)
                refine pv_aload_n (M := mX12_readsSum) 0 dX12_readsSum_156 157 rfl rfl rfl ?_
                refine pv_iconst (M := mX12_readsSum) (v := 1) dX12_readsSum_157 158 rfl (by decide) ?_
                have z107 : (1 : Int32).toInt = 1 := by decide
                refine pv_callv (M := mX12_readsSum) (as := [.int 1]) (st := []) (kc2 := 0) (ks2 := 0) dX12_readsSum_158 wd1456 YX12_closesSums ⟨wd1458, wd68⟩ (mk_get (tl123 hT)) rfl rfl (s_X12_closesSums_vz g hT I15 1 (by decide) (by decide) cb (c + 1) kg.1 (by omega) (by have := kg.2.1; omega)) rfl rfl (Nat.le_of_ble_eq_true rfl) (by decide) rfl rfl 161 rfl (fun rv h1 q108 => ?_)
                obtain ⟨m109, n110, rfl, rfl, I111, K112, rm109⟩ := q108
                replace rm109 : (CSI cb (c + 1) m13 m109 ∧ ((1 : Int) ≠ 0 → (m109 123 17).toInt = 0 ∨ ¬ (2 ≤ opv (m109 131 ((m109 123 17).toInt - 1).toNat) ∧ opv (m109 131 ((m109 123 17).toInt - 1).toNat) ≤ 6))) ∧ CSX m13 m109 ∧ ((m109 123 17).toInt = 0 ∨ ¬ (4 ≤ opv (m109 131 ((m109 123 17).toInt - 1).toNat) ∧ opv (m109 131 ((m109 123 17).toInt - 1).toNat) ≤ 6)) ∧ CTZ (1 : Int) m13 m109 := by have q_ := rm109; (try rw [z107] at q_); exact q_
                have K112c := K112
                have w113 : (m109 123 12).toInt = (m13 123 12).toInt := congrArg Int32.toInt (K112 123 12 rfl)
                have w114 : (m109 123 13).toInt = (m13 123 13).toInt := congrArg Int32.toInt (K112 123 13 rfl)
                have w115 : (m109 123 14).toInt = (m13 123 14).toInt := congrArg Int32.toInt (K112 123 14 rfl)
                have w116 : (m109 123 15).toInt = (m13 123 15).toInt := congrArg Int32.toInt (K112 123 15 rfl)
                have K112 := K16.trans (K112.sub (wl_sub (by decide)))
                show PV _ _ _ _ _ _ _ 161 [.ref 123, .int v2, .int v47] [] _
                have kC := rm109.1
                have kL := RLs.cls kg hp5 (by omega) kC.1 (K112c 123 12 rfl) (K112c 123 13 rfl)
                have kL2 := kL.2.2.2.2.1
                have kL3 := kL.2.2.2.1
                have kL4 := kL.2.1
                have kZ := RLs.fin kg kL (by omega) kC.1 (fun j a b => (kH2.resolve_left (fun q => by have := q.1; omega)).2 j (by omega) b) (kC.2 (by decide))
                have kC14c : C14 m109 = C14 m13 := C14_csi kC.1
                have kOc : (m109 123 15).toInt = (m13 123 15).toInt := congrArg Int32.toInt (K112c 123 15 rfl)
                have kcs := rm109.2.1
                have kcq := rm109.2.2.1
                have kcz := rm109.2.2.2
                have kSd := SUZ_end kgz (KI_end kgk kS0 (by omega)) kS0 (by omega) kcs (by have := kZ.2.2.2.1; omega) (by omega) (fun i hi => kC.1.2.2.2.2.2.2 (wtN m13 - 1 - i) (by unfold wtN; omega) (by unfold wtN; omega))
                refine pv_iconst (M := mX12_readsSum) (v := 1) dX12_readsSum_161 162 rfl (by decide) ?_
                have z129 : (1 : Int32).toInt = 1 := by decide
                exact pv_iret (M := mX12_readsSum) dX12_readsSum_162 rfl rfl ⟨_, _, _, rfl, rfl, I111, K112, by decide, by decide, ⟨(Or.inr ⟨by decide, kZ, by rw [KI_end kgk kS0 (by omega), show (m13 123 12).toInt = (m109 123 12).toInt by omega], by omega⟩), IFZ.is kSd⟩⟩
              · have c105 := iv_ne (X := v103.toInt) (Y := 0) c105 rfl (by decide)
                have kC2 : C14 m + 1 ≤ C14 m13 := by obtain ⟨j, j1, j2, j3⟩ := (kH2.resolve_right (fun q => by have q1 := q.1; omega)).2; exact C14_has kg (by omega) (by omega) j2 j3
                refine pv_aload_n (M := mX12_readsSum) 0 dX12_readsSum_146 147 rfl rfl rfl ?_
                refine pv_iconst (M := mX12_readsSum) (v := 1) dX12_readsSum_147 148 rfl (by decide) ?_
                refine pv_aload_n (M := mX12_readsSum) 0 dX12_readsSum_148 149 rfl rfl rfl ?_
                refine iv_get (M := mX12_readsSum) (l1 := 0) (l2 := 160) dX12_readsSum_149 FX12 12 wd1185 (by decide) (tl123 hT) rfl I15 rfl 152 rfl (fun v131 ev131 pv131 qv131 => ?_)
                have wv131 : v131.toInt = (m13 123 12).toInt := congrArg Int32.toInt ev131
                have z132 : (1 : Int32).toInt = 1 := by decide
                refine pv_callv (M := mX12_readsSum) (as := [.int 1, .int v131]) (st := []) (kc2 := 0) (ks2 := 0) dX12_readsSum_152 wd1421 YX12_wrongAt ⟨wd1423, wd61⟩ (mk_get (tl123 hT)) rfl rfl (s_X12_wrongAt_vx g hT I15 1 (by decide) (by decide) v131 (by omega) (by omega)) rfl rfl (Nat.le_of_ble_eq_true rfl) (by decide) rfl rfl 155 rfl (fun rv h1 q133 => ?_)
                obtain ⟨m134, n135, v138, rfl, rfl, I136, K137, pv138, qv138, rv138⟩ := q133
                replace rv138 : (m134 123 14).toInt = -1000 * (1 : Int) - v131.toInt := by have q_ := rv138; (try rw [z132] at q_); exact q_
                have K137c := K137
                have w139 : (m134 123 12).toInt = (m13 123 12).toInt := congrArg Int32.toInt (K137 123 12 rfl)
                have w140 : (m134 123 13).toInt = (m13 123 13).toInt := congrArg Int32.toInt (K137 123 13 rfl)
                have w141 : (m134 123 16).toInt = (m13 123 16).toInt := congrArg Int32.toInt (K137 123 16 rfl)
                have w142 : (m134 123 17).toInt = (m13 123 17).toInt := congrArg Int32.toInt (K137 123 17 rfl)
                have w143 : (m134 123 15).toInt = (m13 123 15).toInt := congrArg Int32.toInt (K137 123 15 rfl)
                have K137 := K16.trans (K137.sub (wl_sub (by decide)))
                show PV _ _ _ _ _ _ _ 155 [.ref 123, .int v2, .int v47] [.int v138] _
                exact pv_iret (M := mX12_readsSum) dX12_readsSum_155 rfl (iv_nz (by omega) (by omega)) ⟨_, _, _, rfl, rfl, I136, K137, by omega, by omega, ⟨(by first | exact Or.inl ⟨by omega, KI_wrong kgk kS0 (by omega) (by omega) (by omega)⟩ | (exfalso; obtain ⟨j, j1, j2, j3⟩ := (kH2.resolve_right (fun q => by have q1 := q.1; omega)).2; exact absurd j3 ((kH.resolve_left (fun q => by have q1 := q.1; omega)).2 j j1 j2))), IFZ.no (by omega)⟩⟩
            · have c101 := iv_ne (X := v99.toInt) (Y := 0) c101 rfl (by decide)
              have k93 : tR m (m13 123 12).toInt = 93 := by omega
              have kC1 : C14 m + 1 ≤ C14 m13 := by obtain ⟨j, j1, j2, j3⟩ := (kH.resolve_right (fun q => by have q1 := q.1; omega)).2; exact C14_has kg (by omega) (by omega) j2 j3
              refine pv_aload_n (M := mX12_readsSum) 0 dX12_readsSum_100 101 rfl rfl rfl ?_
              refine pv_iconst (M := mX12_readsSum) (v := 1) dX12_readsSum_101 102 rfl (by decide) ?_
              have z146 : (1 : Int32).toInt = 1 := by decide
              refine pv_callv (M := mX12_readsSum) (as := [.int 1]) (st := []) (kc2 := 0) (ks2 := 0) dX12_readsSum_102 wd1456 YX12_closesSums ⟨wd1458, wd68⟩ (mk_get (tl123 hT)) rfl rfl (s_X12_closesSums_vz g hT I15 1 (by decide) (by decide) cb (c + 1) kg.1 (by omega) (by have := kg.2.1; omega)) rfl rfl (Nat.le_of_ble_eq_true rfl) (by decide) rfl rfl 105 rfl (fun rv h1 q147 => ?_)
              obtain ⟨m148, n149, rfl, rfl, I150, K151, rm148⟩ := q147
              replace rm148 : (CSI cb (c + 1) m13 m148 ∧ ((1 : Int) ≠ 0 → (m148 123 17).toInt = 0 ∨ ¬ (2 ≤ opv (m148 131 ((m148 123 17).toInt - 1).toNat) ∧ opv (m148 131 ((m148 123 17).toInt - 1).toNat) ≤ 6))) ∧ CSX m13 m148 ∧ ((m148 123 17).toInt = 0 ∨ ¬ (4 ≤ opv (m148 131 ((m148 123 17).toInt - 1).toNat) ∧ opv (m148 131 ((m148 123 17).toInt - 1).toNat) ≤ 6)) ∧ CTZ (1 : Int) m13 m148 := by have q_ := rm148; (try rw [z146] at q_); exact q_
              have K151c := K151
              have w152 : (m148 123 12).toInt = (m13 123 12).toInt := congrArg Int32.toInt (K151 123 12 rfl)
              have w153 : (m148 123 13).toInt = (m13 123 13).toInt := congrArg Int32.toInt (K151 123 13 rfl)
              have w154 : (m148 123 14).toInt = (m13 123 14).toInt := congrArg Int32.toInt (K151 123 14 rfl)
              have w155 : (m148 123 15).toInt = (m13 123 15).toInt := congrArg Int32.toInt (K151 123 15 rfl)
              have K151 := K16.trans (K151.sub (wl_sub (by decide)))
              show PV _ _ _ _ _ _ _ 105 [.ref 123, .int v2, .int v47] [] _
              have kC := rm148.1
              have kL := RLs.cls kg hp5 (by omega) kC.1 (K151c 123 12 rfl) (K151c 123 13 rfl)
              have kL2 := kL.2.2.2.2.1
              have kL3 := kL.2.2.2.1
              have kL4 := kL.2.1
              have kj := (kH.resolve_right (fun q => by have := q.1; omega)).2
              have kw : 1 ≤ (m148 123 17).toInt := by obtain ⟨j, j1, j2, j3⟩ := kj; have := kC.1.wt1 (j := j) (by omega) (by omega); omega
              have kC14c : C14 m148 = C14 m13 := C14_csi kC.1
              have kOc : (m148 123 15).toInt = (m13 123 15).toInt := congrArg Int32.toInt (K151c 123 15 rfl)
              have kw2 : (m 123 17).toInt < (m148 123 17).toInt := by obtain ⟨j, j1, j2, j3⟩ := kj; have := kC.1.wt1 (j := j) (by omega) (by omega); omega
              have ktp := RLs_top kL (by omega) kw2 (kC.2 (by decide))
              have kcs := rm148.2.1
              have kcq := rm148.2.2.1
              have kcz := rm148.2.2.2
              refine pv_aload_n (M := mX12_readsSum) 0 dX12_readsSum_105 106 rfl rfl rfl ?_
              refine pv_aload_n (M := mX12_readsSum) 0 dX12_readsSum_106 107 rfl rfl rfl ?_
              refine iv_get (M := mX12_readsSum) (l1 := 0) (l2 := 180) dX12_readsSum_107 FX12 17 wd1190 (by decide) (tl123 hT) rfl I150 rfl 110 rfl (fun v170 ev170 pv170 qv170 => ?_)
              have wv170 : v170.toInt = (m148 123 17).toInt := congrArg Int32.toInt ev170
              refine pv_iconst (M := mX12_readsSum) (v := 1) dX12_readsSum_110 111 rfl (by decide) ?_
              refine iv_isub (M := mX12_readsSum) (X := v170.toInt) (Y := 1) dX12_readsSum_111 112 rfl rfl (by decide) (by omega) (by omega) (fun v171 ev171 => ?_)
              refine iv_put (M := mX12_readsSum) (l1 := 0) (l2 := 180) dX12_readsSum_112 FX12 17 wd1190 (by decide) rfl (tl123 hT) rfl rfl rfl I150 rfl (by omega) (by omega) 115 rfl (fun m172 e175 I173 => ?_)
              have K174 := K151.set e175 rfl
              have w176 : (m172 123 12).toInt = (m148 123 12).toInt := by rw [e175, up2_ne (by omega)]
              have w177 : (m172 123 13).toInt = (m148 123 13).toInt := by rw [e175, up2_ne (by omega)]
              have w178 : (m172 123 16).toInt = (m148 123 16).toInt := by rw [e175, up2_ne (by omega)]
              have w179 : (m172 123 17).toInt = v171.toInt := by rw [e175, up2_eq]
              have w180 : (m172 123 14).toInt = (m148 123 14).toInt := by rw [e175, up2_ne (by omega)]
              have w181 : (m172 123 15).toInt = (m148 123 15).toInt := by rw [e175, up2_ne (by omega)]
              refine pv_aload_n (M := mX12_readsSum) 0 dX12_readsSum_115 116 rfl rfl rfl ?_
              refine pv_aload_n (M := mX12_readsSum) 0 dX12_readsSum_116 117 rfl rfl rfl ?_
              refine iv_get (M := mX12_readsSum) (l1 := (-2147483648)) (l2 := 2147483647) dX12_readsSum_117 FX12 15 wd1188 (by decide) (tl123 hT) rfl I173 rfl 120 rfl (fun v182 ev182 pv182 qv182 => ?_)
              have wv182 : v182.toInt = (m172 123 15).toInt := congrArg Int32.toInt ev182
              refine pv_iconst (M := mX12_readsSum) (v := 1) dX12_readsSum_120 121 rfl (by decide) ?_
              refine iv_isub (M := mX12_readsSum) (X := v182.toInt) (Y := 1) dX12_readsSum_121 122 rfl rfl (by decide) (by omega) (by omega) (fun v183 ev183 => ?_)
              refine iv_put (M := mX12_readsSum) (l1 := (-2147483648)) (l2 := 2147483647) dX12_readsSum_122 FX12 15 wd1188 (by decide) rfl (tl123 hT) rfl rfl rfl I173 rfl (iv_rng v183).1 (iv_rng v183).2 125 rfl (fun m184 e187 I185 => ?_)
              have K186 := K174.set e187 rfl
              have w188 : (m184 123 12).toInt = (m172 123 12).toInt := by rw [e187, up2_ne (by omega)]
              have w189 : (m184 123 13).toInt = (m172 123 13).toInt := by rw [e187, up2_ne (by omega)]
              have w190 : (m184 123 16).toInt = (m172 123 16).toInt := by rw [e187, up2_ne (by omega)]
              have w191 : (m184 123 17).toInt = (m172 123 17).toInt := by rw [e187, up2_ne (by omega)]
              have w192 : (m184 123 14).toInt = (m172 123 14).toInt := by rw [e187, up2_ne (by omega)]
              have w193 : (m184 123 15).toInt = v183.toInt := by rw [e187, up2_eq]
              refine pv_aload_n (M := mX12_readsSum) 0 dX12_readsSum_125 126 rfl rfl rfl ?_
              refine pv_aload_n (M := mX12_readsSum) 0 dX12_readsSum_126 127 rfl rfl rfl ?_
              refine iv_get (M := mX12_readsSum) (l1 := 0) (l2 := 160) dX12_readsSum_127 FX12 12 wd1185 (by decide) (tl123 hT) rfl I185 rfl 130 rfl (fun v194 ev194 pv194 qv194 => ?_)
              have wv194 : v194.toInt = (m184 123 12).toInt := congrArg Int32.toInt ev194
              refine pv_iconst (M := mX12_readsSum) (v := 1) dX12_readsSum_130 131 rfl (by decide) ?_
              refine iv_iadd (M := mX12_readsSum) (X := v194.toInt) (Y := 1) dX12_readsSum_131 132 rfl rfl (by decide) (by omega) (by omega) (fun v195 ev195 => ?_)
              refine iv_put (M := mX12_readsSum) (l1 := 0) (l2 := 160) dX12_readsSum_132 FX12 12 wd1185 (by decide) rfl (tl123 hT) rfl rfl rfl I185 rfl (by omega) (by omega) 135 rfl (fun m196 e199 I197 => ?_)
              have K198 := K186.set e199 rfl
              have w200 : (m196 123 12).toInt = v195.toInt := by rw [e199, up2_eq]
              have w201 : (m196 123 13).toInt = (m184 123 13).toInt := by rw [e199, up2_ne (by omega)]
              have w202 : (m196 123 16).toInt = (m184 123 16).toInt := by rw [e199, up2_ne (by omega)]
              have w203 : (m196 123 17).toInt = (m184 123 17).toInt := by rw [e199, up2_ne (by omega)]
              have w204 : (m196 123 14).toInt = (m184 123 14).toInt := by rw [e199, up2_ne (by omega)]
              have w205 : (m196 123 15).toInt = (m184 123 15).toInt := by rw [e199, up2_ne (by omega)]
              have kX := (RLs.close kg kL (by omega) kC.1 (by obtain ⟨j, j1, j2, j3⟩ := kj; exact ⟨j, by omega, j2, j3⟩) (kC.2 (by decide)) e175 (by omega) e187 e199 (by omega) (by omega)).1
              have kC14p := C14_pop (m := m148) (m' := m196) (by omega) (fun j => by rw [e199, up2_ne (by omega), e187, up2_ne (by omega), e175, up2_ne (by omega)]) (by omega)
              rw [ktp] at kC14p
              have kKc : KI (tR m) (m 123 15).toInt (m 123 12).toInt (m196 123 15).toInt (m196 123 12).toInt := KI_close kgk k93 (by omega) (by omega) (by omega)
              have kzc : SUZ (tR m) m m196 := SUZ_close (m1 := m148) kgz k93 (by omega) kcs (by omega) (by omega) (fun i hi => kC.1.2.2.2.2.2.2 (wtN m13 - 1 - i) (by unfold wtN; omega) (by unfold wtN; omega)) (by rw [← kC.1.2.2.2.2.2.1 (wtN m148 - 1), show wtN m148 - 1 = ((m148 123 17).toInt - 1).toNat by unfold wtN; omega]; exact g14_1 ktp) (fun j => (show m196 131 j = m148 131 j by rw [e199, up2_ne (by omega), e187, up2_ne (by omega), e175, up2_ne (by omega)]).trans (kC.1.2.2.2.2.2.1 j)) (by omega) (fun j => by rw [e199, up2_ne (by omega), e187, up2_ne (by omega), e175, up2_ne (by omega)]) (by rw [e199, up2_ne (by omega), e187, up2_ne (by omega), e175, up2_ne (by omega)]) (by omega) (by omega) (by omega) (by omega)
              refine pv_goto (M := mX12_readsSum) (tgt := 163) dX12_readsSum_135 (by decide) ?_
              refine pv_goto (M := mX12_readsSum) (tgt := 14) dX12_readsSum_163 (by decide) ?_
              refine pv_fg (lo2 := [.ref 123, .int v2, pv_U]) ⟨Or.inr rfl, ⟨Or.inr rfl, ⟨Or.inl rfl, trivial⟩⟩⟩ ?_
              have krl : RLs cb (c + 1) m m196 := by first | exact kX | exact kS.trans (kR2.resolve_left (fun q => by have q1 := q.1; omega)).2.1
              have kbk : (m13 123 12).toInt + 1 ≤ (m196 123 12).toInt := by first | omega | (have := (kR2.resolve_left (fun q => by have q1 := q.1; omega)).2.1.2.2.2.2.2.2.2.1; omega)
              have kkb : KI (tR m) (m 123 15).toInt (m 123 12).toInt (m196 123 15).toInt (m196 123 12).toInt := by first | exact kKc | exact KI_sign kgk kTX (by omega) kSg (kR2.resolve_left (fun q => by have q1 := q.1; omega)).2.2.1
              have kcb : C14 m196 - C14 m = (m196 123 15).toInt - (m 123 15).toInt := by first | omega | (have q := (kR2.resolve_left (fun q => by have q1 := q.1; omega)).2.2.2; omega)
              have kzb : SUZ (tR m) m m196 := by first | exact kzc | exact SUZ_sign (m1 := no_m41) (m2 := no_m74z) kgz kgk kTX (by omega) kSg (by omega) kcs (by omega) (by omega) (fun i hi => by have q := kC.1.2.2.2.2.2.2 (wtN m13 - 1 - i) (by unfold wtN; omega) (by unfold wtN; omega); have z := k27z.2; by_cases y : 4 ≤ opv (m13 131 (wtN m13 - 1 - i)); exact Or.inl ⟨y, q.2⟩; exact Or.inr ⟨by rcases z with z | z; exfalso; omega; exact z.2, by omega⟩) kw1 kw2x (by omega) kc1x kc2x kO74 (by omega) (Or.inr ⟨by rcases k27z.2 with z | z; exfalso; omega; exact z.2, by omega, (by rw [← kC.1.2.2.2.2.2.1 (wtN no_m41 - 1), show wtN no_m41 - 1 = ((no_m41 123 17).toInt - 1).toNat by unfold wtN; omega]; exact kC.2 (by decide))⟩) k27z.1 (IFZ.get kR2z (by omega)) | exact SUZ_sign (m1 := no_m41) (m2 := no_m74z) kgz kgk kTX (by omega) kSg (by omega) kcs (by omega) (by omega) (fun i hi => by have q := kC.1.2.2.2.2.2.2 (wtN m13 - 1 - i) (by unfold wtN; omega) (by unfold wtN; omega); exact Or.inl ⟨kcz (by decide) i hi, q.2⟩) kw1 kw2x (by omega) kc1x kc2x kO74 (by omega) (Or.inl ⟨by rcases k27z.2 with z | z; exact z.2; exfalso; omega, by omega, by omega, (by rw [← kC.1.2.2.2.2.2.1 (wtN no_m41 - 1), show wtN no_m41 - 1 = ((no_m41 123 17).toInt - 1).toNat by unfold wtN; omega]; exact kcq)⟩) k27z.1 (IFZ.get kR2z (by omega))
              exact ih19  m196 n149 (by first | omega | assumption | (show v2.toInt = (m 123 17).toInt; omega) | decide) krl kkb kcb kzb I197 K198 (by omega)
        · have c50 := iv_ne (X := v47.toInt) (Y := (-1)) c50 rfl (by decide)
          have kSg : isS (tR m (m13 123 12).toInt) = true := by rw [← k18]; exact (k21.resolve_left (fun q => by have q1 := q.1; omega)).2
          have k27z := IFZ.get k21z (by omega)
          rw [k18] at k27z
          refine pv_aload_n (M := mX12_readsSum) 0 dX12_readsSum_27 28 rfl rfl rfl ?_
          refine pv_iload_n (M := mX12_readsSum) 2 dX12_readsSum_28 29 rfl rfl rfl ?_
          refine pv_iconst (M := mX12_readsSum) (v := 4) dX12_readsSum_29 30 rfl (by decide) ?_
          refine pv_icmp_ge (M := mX12_readsSum) (tgt := 37) dX12_readsSum_30 33 rfl (by decide) (fun c219 => ?_) (fun c219 => ?_)
          · have c219 := iv_le (X := 4) (Y := v47.toInt) c219 (by decide) rfl
            refine pv_iconst (M := mX12_readsSum) (v := 0) dX12_readsSum_37 38 rfl (by decide) ?_
            have z220 : (0 : Int32).toInt = 0 := by decide
            refine pv_callv (M := mX12_readsSum) (as := [.int 0]) (st := []) (kc2 := 0) (ks2 := 0) dX12_readsSum_38 wd1456 YX12_closesSums ⟨wd1458, wd68⟩ (mk_get (tl123 hT)) rfl rfl (s_X12_closesSums_vz g hT I15 0 (by decide) (by decide) cb (c + 1) kg.1 (by omega) (by have := kg.2.1; omega)) rfl rfl (Nat.le_of_ble_eq_true rfl) (by decide) rfl rfl 41 rfl (fun rv h1 q221 => ?_)
            obtain ⟨m222, n223, rfl, rfl, I224, K225, rm222⟩ := q221
            replace rm222 : (CSI cb (c + 1) m13 m222 ∧ ((0 : Int) ≠ 0 → (m222 123 17).toInt = 0 ∨ ¬ (2 ≤ opv (m222 131 ((m222 123 17).toInt - 1).toNat) ∧ opv (m222 131 ((m222 123 17).toInt - 1).toNat) ≤ 6))) ∧ CSX m13 m222 ∧ ((m222 123 17).toInt = 0 ∨ ¬ (4 ≤ opv (m222 131 ((m222 123 17).toInt - 1).toNat) ∧ opv (m222 131 ((m222 123 17).toInt - 1).toNat) ≤ 6)) ∧ CTZ (0 : Int) m13 m222 := by have q_ := rm222; (try rw [z220] at q_); exact q_
            have K225c := K225
            have w226 : (m222 123 12).toInt = (m13 123 12).toInt := congrArg Int32.toInt (K225 123 12 rfl)
            have w227 : (m222 123 13).toInt = (m13 123 13).toInt := congrArg Int32.toInt (K225 123 13 rfl)
            have w228 : (m222 123 14).toInt = (m13 123 14).toInt := congrArg Int32.toInt (K225 123 14 rfl)
            have w229 : (m222 123 15).toInt = (m13 123 15).toInt := congrArg Int32.toInt (K225 123 15 rfl)
            have K225 := K16.trans (K225.sub (wl_sub (by decide)))
            show PV _ _ _ _ _ _ _ 41 [.ref 123, .int v2, .int v47] [] _
            have kC := rm222.1
            have kL := RLs.cls kg hp5 (by omega) kC.1 (K225c 123 12 rfl) (K225c 123 13 rfl)
            have kL2 := kL.2.2.2.2.1
            have kL3 := kL.2.2.2.1
            have kL4 := kL.2.1
            have kC14c : C14 m222 = C14 m13 := C14_csi kC.1
            have kOc : (m222 123 15).toInt = (m13 123 15).toInt := congrArg Int32.toInt (K225c 123 15 rfl)
            have kcs := rm222.2.1
            have kcq := rm222.2.2.1
            have kcz := rm222.2.2.2
            refine pv_aload_n (M := mX12_readsSum) 0 dX12_readsSum_41 42 rfl rfl rfl ?_
            refine mv_get (M := mX12_readsSum) (v := .ref 131) dX12_readsSum_42 FX12 22 wd1195 (by decide) (tl123 hT) rfl rfl 45 rfl ?_
            refine pv_aload_n (M := mX12_readsSum) 0 dX12_readsSum_45 46 rfl rfl rfl ?_
            refine iv_get (M := mX12_readsSum) (l1 := 0) (l2 := 180) dX12_readsSum_46 FX12 17 wd1190 (by decide) (tl123 hT) rfl I224 rfl 49 rfl (fun v240 ev240 pv240 qv240 => ?_)
            have wv240 : v240.toInt = (m222 123 17).toInt := congrArg Int32.toInt ev240
            refine pv_ldc (M := mX12_readsSum) (v := 1048576) dX12_readsSum_49 51 rfl wd1437 ?_
            refine pv_iload_n (M := mX12_readsSum) 2 dX12_readsSum_51 52 rfl rfl rfl ?_
            refine iv_imul (M := mX12_readsSum) (X := 1048576) (Y := v47.toInt) dX12_readsSum_52 53 rfl (by decide) rfl (by omega) (by omega) (fun v241 ev241 => ?_)
            have k53 : g14 v241 = 0 := by unfold g14 opv; rw [if_neg (by omega)]
            refine iv_iast (M := mX12_readsSum) (X := v240.toInt) (l1 := 0) (l2 := 15728639) dX12_readsSum_53 (tl131 hT) rfl (by omega) (by omega) I224 (fun _ => rfl) (by omega) (by omega) 54 rfl (fun m243 e246 I244 => ?_)
            have K245 := K225.set e246 rfl
            have w247 : (m243 123 12).toInt = (m222 123 12).toInt := by rw [e246, up2_ne (by omega)]
            have w248 : (m243 123 13).toInt = (m222 123 13).toInt := by rw [e246, up2_ne (by omega)]
            have w249 : (m243 123 16).toInt = (m222 123 16).toInt := by rw [e246, up2_ne (by omega)]
            have w250 : (m243 123 17).toInt = (m222 123 17).toInt := by rw [e246, up2_ne (by omega)]
            have w251 : (m243 123 14).toInt = (m222 123 14).toInt := by rw [e246, up2_ne (by omega)]
            have w252 : (m243 123 15).toInt = (m222 123 15).toInt := by rw [e246, up2_ne (by omega)]
            have k54 := (e246).trans (up2_ix (j := (m222 123 17).toInt.toNat) (by omega))
            refine pv_aload_n (M := mX12_readsSum) 0 dX12_readsSum_54 55 rfl rfl rfl ?_
            refine pv_aload_n (M := mX12_readsSum) 0 dX12_readsSum_55 56 rfl rfl rfl ?_
            refine iv_get (M := mX12_readsSum) (l1 := 0) (l2 := 180) dX12_readsSum_56 FX12 17 wd1190 (by decide) (tl123 hT) rfl I244 rfl 59 rfl (fun v254 ev254 pv254 qv254 => ?_)
            have wv254 : v254.toInt = (m243 123 17).toInt := congrArg Int32.toInt ev254
            refine pv_iconst (M := mX12_readsSum) (v := 1) dX12_readsSum_59 60 rfl (by decide) ?_
            refine iv_iadd (M := mX12_readsSum) (X := v254.toInt) (Y := 1) dX12_readsSum_60 61 rfl rfl (by decide) (by omega) (by omega) (fun v255 ev255 => ?_)
            refine iv_put (M := mX12_readsSum) (l1 := 0) (l2 := 180) dX12_readsSum_61 FX12 17 wd1190 (by decide) rfl (tl123 hT) rfl rfl rfl I244 rfl (by omega) (by omega) 64 rfl (fun m256 e259 I257 => ?_)
            have K258 := K245.set e259 rfl
            have w260 : (m256 123 12).toInt = (m243 123 12).toInt := by rw [e259, up2_ne (by omega)]
            have w261 : (m256 123 13).toInt = (m243 123 13).toInt := by rw [e259, up2_ne (by omega)]
            have w262 : (m256 123 16).toInt = (m243 123 16).toInt := by rw [e259, up2_ne (by omega)]
            have w263 : (m256 123 17).toInt = v255.toInt := by rw [e259, up2_eq]
            have w264 : (m256 123 14).toInt = (m243 123 14).toInt := by rw [e259, up2_ne (by omega)]
            have w265 : (m256 123 15).toInt = (m243 123 15).toInt := by rw [e259, up2_ne (by omega)]
            refine pv_aload_n (M := mX12_readsSum) 0 dX12_readsSum_64 65 rfl rfl rfl ?_
            refine pv_aload_n (M := mX12_readsSum) 0 dX12_readsSum_65 66 rfl rfl rfl ?_
            refine iv_get (M := mX12_readsSum) (l1 := 0) (l2 := 160) dX12_readsSum_66 FX12 12 wd1185 (by decide) (tl123 hT) rfl I257 rfl 69 rfl (fun v266 ev266 pv266 qv266 => ?_)
            have wv266 : v266.toInt = (m256 123 12).toInt := congrArg Int32.toInt ev266
            refine pv_iconst (M := mX12_readsSum) (v := 1) dX12_readsSum_69 70 rfl (by decide) ?_
            refine iv_iadd (M := mX12_readsSum) (X := v266.toInt) (Y := 1) dX12_readsSum_70 71 rfl rfl (by decide) (by omega) (by omega) (fun v267 ev267 => ?_)
            refine iv_put (M := mX12_readsSum) (l1 := 0) (l2 := 160) dX12_readsSum_71 FX12 12 wd1185 (by decide) rfl (tl123 hT) rfl rfl rfl I257 rfl (by omega) (by omega) 74 rfl (fun m268 e271 I269 => ?_)
            have K270 := K258.set e271 rfl
            have w272 : (m268 123 12).toInt = v267.toInt := by rw [e271, up2_eq]
            have w273 : (m268 123 13).toInt = (m256 123 13).toInt := by rw [e271, up2_ne (by omega)]
            have w274 : (m268 123 16).toInt = (m256 123 16).toInt := by rw [e271, up2_ne (by omega)]
            have w275 : (m268 123 17).toInt = (m256 123 17).toInt := by rw [e271, up2_ne (by omega)]
            have w276 : (m268 123 14).toInt = (m256 123 14).toInt := by rw [e271, up2_ne (by omega)]
            have w277 : (m268 123 15).toInt = (m256 123 15).toInt := by rw [e271, up2_ne (by omega)]
            have kS := RLs.sign (s := v47.toInt) kL (by omega) (by omega) (by omega) k54 (by omega) e259 (by omega) e271 (by omega) (by omega)
            have kS1 : HW cb c m268 := by have q := kS.1; rw [show c + 1 - 1 = c by omega] at q; exact q
            have kt74 : tR m268 = tR m := tR_eq (K270 123 13 rfl) (fun j => K270 129 j rfl)
            have kC14s := C14_push (m := m222) (m' := m268) (by omega) (fun j hj => by rw [e271, up2_ne (by omega), e259, up2_ne (by omega), k54, up2_ne (by omega)]) (by rw [e271, up2_ne (by omega), e259, up2_ne (by omega), k54, up2_f]) (by omega)
            rw [k53] at kC14s
            have kO74 : (m268 123 15).toInt = (m13 123 15).toInt := by rw [e271, up2_ne (by omega), e259, up2_ne (by omega), k54, up2_ne (by omega)]; exact kOc
            have kw1 : ∀ j : Nat, (j : Int) < (m222 123 17).toInt → m268 131 j = m13 131 j := fun j hj => (show m268 131 j = m222 131 j by rw [e271, up2_ne (by omega), e259, up2_ne (by omega), k54, up2_ne (by omega)]).trans (kC.1.2.2.2.2.2.1 j)
            have kw2x : opv (m268 131 (wtN m222)) = v47.toInt := by rw [show m268 131 (wtN m222) = m268 131 (m222 123 17).toInt.toNat from rfl, e271, up2_ne (by omega), e259, up2_ne (by omega), k54, up2_f]; unfold opv; omega
            have kc1x : ∀ j, m268 130 j = m222 130 j := fun j => by rw [e271, up2_ne (by omega), e259, up2_ne (by omega), k54, up2_ne (by omega)]
            have kc2x : m268 123 16 = m222 123 16 := by rw [e271, up2_ne (by omega), e259, up2_ne (by omega), k54, up2_ne (by omega)]
            refine pv_aload_n (M := mX12_readsSum) 0 dX12_readsSum_74 75 rfl rfl rfl ?_
            refine pv_callv (M := mX12_readsSum) (as := []) (st := []) (kc2 := 0) (ks2 := 0) dX12_readsSum_75 wd1429 YX12_readsFactor ⟨wd1431, wd63⟩ (mk_get (tl123 hT)) rfl rfl (s_X12_readsFactor_vz g hT I269 cb c kS1 (by have := kS.2.1; omega) (by omega) (by omega) (by first | omega | assumption | exact (iv_rng _).2 | exact (iv_rng _).1 | decide) (by first | omega | assumption | exact (iv_rng _).2 | exact (iv_rng _).1 | decide)) rfl rfl (Nat.le_of_ble_eq_true rfl) (by decide) rfl rfl 78 rfl (fun rv h1 q288 => ?_)
            obtain ⟨m289, n290, v293, rfl, rfl, I291, K292, pv293, qv293, rv293⟩ := q288
            replace rv293 : ((v293.toInt = 0 ∧ FPF (tR m268) (m268 123 15).toInt (m268 123 12).toInt (m289 123 14).toInt) ∨ (v293.toInt = 1 ∧ RLs cb (c + 1) m268 m289 ∧ FPR (tR m268) (m268 123 15).toInt (m268 123 12).toInt (m289 123 15).toInt (m289 123 12).toInt ∧ C14 m289 - C14 m268 = (m289 123 15).toInt - (m268 123 15).toInt)) ∧ IFZ v293.toInt (FAZ (tR m268) m268 m289) := rv293
            have K292c := K292
            have w294 : (m289 123 13).toInt = (m268 123 13).toInt := congrArg Int32.toInt (K292 123 13 rfl)
            have K292 := K270.trans (K292.sub (fun _ _ q => q))
            show PV _ _ _ _ _ _ _ 78 [.ref 123, .int v2, .int v47] [.int v293] _
            have kR2 := rv293.1
            rw [kt74] at kR2
            rw [kO74, show (m268 123 12).toInt = (m13 123 12).toInt + 1 by omega] at kR2
            have kR2z := rv293.2
            rw [kt74] at kR2z
            refine pv_if_ne (M := mX12_readsSum) (tgt := 163) dX12_readsSum_78 81 rfl (by decide) (fun c300 => ?_) (fun c300 => ?_)
            · have c300 := iv_ne (X := v293.toInt) (Y := 0) c300 rfl (by decide)
              refine pv_goto (M := mX12_readsSum) (tgt := 14) dX12_readsSum_163 (by decide) ?_
              refine pv_fg (lo2 := [.ref 123, .int v2, pv_U]) ⟨Or.inr rfl, ⟨Or.inr rfl, ⟨Or.inl rfl, trivial⟩⟩⟩ ?_
              have krl : RLs cb (c + 1) m m289 := by first | exact kX | exact kS.trans (kR2.resolve_left (fun q => by have q1 := q.1; omega)).2.1
              have kbk : (m13 123 12).toInt + 1 ≤ (m289 123 12).toInt := by first | omega | (have := (kR2.resolve_left (fun q => by have q1 := q.1; omega)).2.1.2.2.2.2.2.2.2.1; omega)
              have kkb : KI (tR m) (m 123 15).toInt (m 123 12).toInt (m289 123 15).toInt (m289 123 12).toInt := by first | exact kKc | exact KI_sign kgk kTX (by omega) kSg (kR2.resolve_left (fun q => by have q1 := q.1; omega)).2.2.1
              have kcb : C14 m289 - C14 m = (m289 123 15).toInt - (m 123 15).toInt := by first | omega | (have q := (kR2.resolve_left (fun q => by have q1 := q.1; omega)).2.2.2; omega)
              have kzb : SUZ (tR m) m m289 := by first | exact kzc | exact SUZ_sign (m1 := m222) (m2 := m268) kgz kgk kTX (by omega) kSg (by omega) kcs (by omega) (by omega) (fun i hi => by have q := kC.1.2.2.2.2.2.2 (wtN m13 - 1 - i) (by unfold wtN; omega) (by unfold wtN; omega); have z := k27z.2; by_cases y : 4 ≤ opv (m13 131 (wtN m13 - 1 - i)); exact Or.inl ⟨y, q.2⟩; exact Or.inr ⟨by rcases z with z | z; exfalso; omega; exact z.2, by omega⟩) kw1 kw2x (by omega) kc1x kc2x kO74 (by omega) (Or.inr ⟨by rcases k27z.2 with z | z; exfalso; omega; exact z.2, by omega, (by rw [← kC.1.2.2.2.2.2.1 (wtN m222 - 1), show wtN m222 - 1 = ((m222 123 17).toInt - 1).toNat by unfold wtN; omega]; exact kC.2 (by decide))⟩) k27z.1 (IFZ.get kR2z (by omega)) | exact SUZ_sign (m1 := m222) (m2 := m268) kgz kgk kTX (by omega) kSg (by omega) kcs (by omega) (by omega) (fun i hi => by have q := kC.1.2.2.2.2.2.2 (wtN m13 - 1 - i) (by unfold wtN; omega) (by unfold wtN; omega); exact Or.inl ⟨kcz (by decide) i hi, q.2⟩) kw1 kw2x (by omega) kc1x kc2x kO74 (by omega) (Or.inl ⟨by rcases k27z.2 with z | z; exact z.2; exfalso; omega, by omega, by omega, (by rw [← kC.1.2.2.2.2.2.1 (wtN m222 - 1), show wtN m222 - 1 = ((m222 123 17).toInt - 1).toNat by unfold wtN; omega]; exact kcq)⟩) k27z.1 (IFZ.get kR2z (by omega))
              exact ih19  m289 n290 (by first | omega | assumption | (show v2.toInt = (m 123 17).toInt; omega) | decide) krl kkb kcb kzb I291 K292 (by omega)
            · have c300 := iv_eq (X := v293.toInt) (Y := 0) c300 rfl (by decide)
              refine pv_iconst (M := mX12_readsSum) (v := 0) dX12_readsSum_81 82 rfl (by decide) ?_
              have z306 : (0 : Int32).toInt = 0 := by decide
              exact pv_iret (M := mX12_readsSum) dX12_readsSum_82 rfl rfl ⟨_, _, _, rfl, rfl, I291, K292, by decide, by decide, ⟨(Or.inl ⟨by decide, KI_sfl kgk kTX (by omega) kSg (kR2.resolve_right (fun q => by have q1 := q.1; omega)).2⟩), IFZ.no (by decide)⟩⟩
          · have c219 := iv_nle (X := 4) (Y := v47.toInt) c219 (by decide) rfl
            refine pv_iconst (M := mX12_readsSum) (v := 1) dX12_readsSum_33 34 rfl (by decide) ?_
            refine pv_goto (M := mX12_readsSum) (tgt := 38) dX12_readsSum_34 (by decide) ?_
            have z307 : (1 : Int32).toInt = 1 := by decide
            refine pv_callv (M := mX12_readsSum) (as := [.int 1]) (st := []) (kc2 := 0) (ks2 := 0) dX12_readsSum_38 wd1456 YX12_closesSums ⟨wd1458, wd68⟩ (mk_get (tl123 hT)) rfl rfl (s_X12_closesSums_vz g hT I15 1 (by decide) (by decide) cb (c + 1) kg.1 (by omega) (by have := kg.2.1; omega)) rfl rfl (Nat.le_of_ble_eq_true rfl) (by decide) rfl rfl 41 rfl (fun rv h1 q308 => ?_)
            obtain ⟨m309, n310, rfl, rfl, I311, K312, rm309⟩ := q308
            replace rm309 : (CSI cb (c + 1) m13 m309 ∧ ((1 : Int) ≠ 0 → (m309 123 17).toInt = 0 ∨ ¬ (2 ≤ opv (m309 131 ((m309 123 17).toInt - 1).toNat) ∧ opv (m309 131 ((m309 123 17).toInt - 1).toNat) ≤ 6))) ∧ CSX m13 m309 ∧ ((m309 123 17).toInt = 0 ∨ ¬ (4 ≤ opv (m309 131 ((m309 123 17).toInt - 1).toNat) ∧ opv (m309 131 ((m309 123 17).toInt - 1).toNat) ≤ 6)) ∧ CTZ (1 : Int) m13 m309 := by have q_ := rm309; (try rw [z307] at q_); exact q_
            have K312c := K312
            have w313 : (m309 123 12).toInt = (m13 123 12).toInt := congrArg Int32.toInt (K312 123 12 rfl)
            have w314 : (m309 123 13).toInt = (m13 123 13).toInt := congrArg Int32.toInt (K312 123 13 rfl)
            have w315 : (m309 123 14).toInt = (m13 123 14).toInt := congrArg Int32.toInt (K312 123 14 rfl)
            have w316 : (m309 123 15).toInt = (m13 123 15).toInt := congrArg Int32.toInt (K312 123 15 rfl)
            have K312 := K16.trans (K312.sub (wl_sub (by decide)))
            show PV _ _ _ _ _ _ _ 41 [.ref 123, .int v2, .int v47] [] _
            have kC := rm309.1
            have kL := RLs.cls kg hp5 (by omega) kC.1 (K312c 123 12 rfl) (K312c 123 13 rfl)
            have kL2 := kL.2.2.2.2.1
            have kL3 := kL.2.2.2.1
            have kL4 := kL.2.1
            have kC14c : C14 m309 = C14 m13 := C14_csi kC.1
            have kOc : (m309 123 15).toInt = (m13 123 15).toInt := congrArg Int32.toInt (K312c 123 15 rfl)
            have kcs := rm309.2.1
            have kcq := rm309.2.2.1
            have kcz := rm309.2.2.2
            refine pv_aload_n (M := mX12_readsSum) 0 dX12_readsSum_41 42 rfl rfl rfl ?_
            refine mv_get (M := mX12_readsSum) (v := .ref 131) dX12_readsSum_42 FX12 22 wd1195 (by decide) (tl123 hT) rfl rfl 45 rfl ?_
            refine pv_aload_n (M := mX12_readsSum) 0 dX12_readsSum_45 46 rfl rfl rfl ?_
            refine iv_get (M := mX12_readsSum) (l1 := 0) (l2 := 180) dX12_readsSum_46 FX12 17 wd1190 (by decide) (tl123 hT) rfl I311 rfl 49 rfl (fun v327 ev327 pv327 qv327 => ?_)
            have wv327 : v327.toInt = (m309 123 17).toInt := congrArg Int32.toInt ev327
            refine pv_ldc (M := mX12_readsSum) (v := 1048576) dX12_readsSum_49 51 rfl wd1437 ?_
            refine pv_iload_n (M := mX12_readsSum) 2 dX12_readsSum_51 52 rfl rfl rfl ?_
            refine iv_imul (M := mX12_readsSum) (X := 1048576) (Y := v47.toInt) dX12_readsSum_52 53 rfl (by decide) rfl (by omega) (by omega) (fun v328 ev328 => ?_)
            have k53 : g14 v328 = 0 := by unfold g14 opv; rw [if_neg (by omega)]
            refine iv_iast (M := mX12_readsSum) (X := v327.toInt) (l1 := 0) (l2 := 15728639) dX12_readsSum_53 (tl131 hT) rfl (by omega) (by omega) I311 (fun _ => rfl) (by omega) (by omega) 54 rfl (fun m330 e333 I331 => ?_)
            have K332 := K312.set e333 rfl
            have w334 : (m330 123 12).toInt = (m309 123 12).toInt := by rw [e333, up2_ne (by omega)]
            have w335 : (m330 123 13).toInt = (m309 123 13).toInt := by rw [e333, up2_ne (by omega)]
            have w336 : (m330 123 16).toInt = (m309 123 16).toInt := by rw [e333, up2_ne (by omega)]
            have w337 : (m330 123 17).toInt = (m309 123 17).toInt := by rw [e333, up2_ne (by omega)]
            have w338 : (m330 123 14).toInt = (m309 123 14).toInt := by rw [e333, up2_ne (by omega)]
            have w339 : (m330 123 15).toInt = (m309 123 15).toInt := by rw [e333, up2_ne (by omega)]
            have k54 := (e333).trans (up2_ix (j := (m309 123 17).toInt.toNat) (by omega))
            refine pv_aload_n (M := mX12_readsSum) 0 dX12_readsSum_54 55 rfl rfl rfl ?_
            refine pv_aload_n (M := mX12_readsSum) 0 dX12_readsSum_55 56 rfl rfl rfl ?_
            refine iv_get (M := mX12_readsSum) (l1 := 0) (l2 := 180) dX12_readsSum_56 FX12 17 wd1190 (by decide) (tl123 hT) rfl I331 rfl 59 rfl (fun v341 ev341 pv341 qv341 => ?_)
            have wv341 : v341.toInt = (m330 123 17).toInt := congrArg Int32.toInt ev341
            refine pv_iconst (M := mX12_readsSum) (v := 1) dX12_readsSum_59 60 rfl (by decide) ?_
            refine iv_iadd (M := mX12_readsSum) (X := v341.toInt) (Y := 1) dX12_readsSum_60 61 rfl rfl (by decide) (by omega) (by omega) (fun v342 ev342 => ?_)
            refine iv_put (M := mX12_readsSum) (l1 := 0) (l2 := 180) dX12_readsSum_61 FX12 17 wd1190 (by decide) rfl (tl123 hT) rfl rfl rfl I331 rfl (by omega) (by omega) 64 rfl (fun m343 e346 I344 => ?_)
            have K345 := K332.set e346 rfl
            have w347 : (m343 123 12).toInt = (m330 123 12).toInt := by rw [e346, up2_ne (by omega)]
            have w348 : (m343 123 13).toInt = (m330 123 13).toInt := by rw [e346, up2_ne (by omega)]
            have w349 : (m343 123 16).toInt = (m330 123 16).toInt := by rw [e346, up2_ne (by omega)]
            have w350 : (m343 123 17).toInt = v342.toInt := by rw [e346, up2_eq]
            have w351 : (m343 123 14).toInt = (m330 123 14).toInt := by rw [e346, up2_ne (by omega)]
            have w352 : (m343 123 15).toInt = (m330 123 15).toInt := by rw [e346, up2_ne (by omega)]
            refine pv_aload_n (M := mX12_readsSum) 0 dX12_readsSum_64 65 rfl rfl rfl ?_
            refine pv_aload_n (M := mX12_readsSum) 0 dX12_readsSum_65 66 rfl rfl rfl ?_
            refine iv_get (M := mX12_readsSum) (l1 := 0) (l2 := 160) dX12_readsSum_66 FX12 12 wd1185 (by decide) (tl123 hT) rfl I344 rfl 69 rfl (fun v353 ev353 pv353 qv353 => ?_)
            have wv353 : v353.toInt = (m343 123 12).toInt := congrArg Int32.toInt ev353
            refine pv_iconst (M := mX12_readsSum) (v := 1) dX12_readsSum_69 70 rfl (by decide) ?_
            refine iv_iadd (M := mX12_readsSum) (X := v353.toInt) (Y := 1) dX12_readsSum_70 71 rfl rfl (by decide) (by omega) (by omega) (fun v354 ev354 => ?_)
            refine iv_put (M := mX12_readsSum) (l1 := 0) (l2 := 160) dX12_readsSum_71 FX12 12 wd1185 (by decide) rfl (tl123 hT) rfl rfl rfl I344 rfl (by omega) (by omega) 74 rfl (fun m355 e358 I356 => ?_)
            have K357 := K345.set e358 rfl
            have w359 : (m355 123 12).toInt = v354.toInt := by rw [e358, up2_eq]
            have w360 : (m355 123 13).toInt = (m343 123 13).toInt := by rw [e358, up2_ne (by omega)]
            have w361 : (m355 123 16).toInt = (m343 123 16).toInt := by rw [e358, up2_ne (by omega)]
            have w362 : (m355 123 17).toInt = (m343 123 17).toInt := by rw [e358, up2_ne (by omega)]
            have w363 : (m355 123 14).toInt = (m343 123 14).toInt := by rw [e358, up2_ne (by omega)]
            have w364 : (m355 123 15).toInt = (m343 123 15).toInt := by rw [e358, up2_ne (by omega)]
            have kS := RLs.sign (s := v47.toInt) kL (by omega) (by omega) (by omega) k54 (by omega) e346 (by omega) e358 (by omega) (by omega)
            have kS1 : HW cb c m355 := by have q := kS.1; rw [show c + 1 - 1 = c by omega] at q; exact q
            have kt74 : tR m355 = tR m := tR_eq (K357 123 13 rfl) (fun j => K357 129 j rfl)
            have kC14s := C14_push (m := m309) (m' := m355) (by omega) (fun j hj => by rw [e358, up2_ne (by omega), e346, up2_ne (by omega), k54, up2_ne (by omega)]) (by rw [e358, up2_ne (by omega), e346, up2_ne (by omega), k54, up2_f]) (by omega)
            rw [k53] at kC14s
            have kO74 : (m355 123 15).toInt = (m13 123 15).toInt := by rw [e358, up2_ne (by omega), e346, up2_ne (by omega), k54, up2_ne (by omega)]; exact kOc
            have kw1 : ∀ j : Nat, (j : Int) < (m309 123 17).toInt → m355 131 j = m13 131 j := fun j hj => (show m355 131 j = m309 131 j by rw [e358, up2_ne (by omega), e346, up2_ne (by omega), k54, up2_ne (by omega)]).trans (kC.1.2.2.2.2.2.1 j)
            have kw2x : opv (m355 131 (wtN m309)) = v47.toInt := by rw [show m355 131 (wtN m309) = m355 131 (m309 123 17).toInt.toNat from rfl, e358, up2_ne (by omega), e346, up2_ne (by omega), k54, up2_f]; unfold opv; omega
            have kc1x : ∀ j, m355 130 j = m309 130 j := fun j => by rw [e358, up2_ne (by omega), e346, up2_ne (by omega), k54, up2_ne (by omega)]
            have kc2x : m355 123 16 = m309 123 16 := by rw [e358, up2_ne (by omega), e346, up2_ne (by omega), k54, up2_ne (by omega)]
            refine pv_aload_n (M := mX12_readsSum) 0 dX12_readsSum_74 75 rfl rfl rfl ?_
            refine pv_callv (M := mX12_readsSum) (as := []) (st := []) (kc2 := 0) (ks2 := 0) dX12_readsSum_75 wd1429 YX12_readsFactor ⟨wd1431, wd63⟩ (mk_get (tl123 hT)) rfl rfl (s_X12_readsFactor_vz g hT I356 cb c kS1 (by have := kS.2.1; omega) (by omega) (by omega) (by first | omega | assumption | exact (iv_rng _).2 | exact (iv_rng _).1 | decide) (by first | omega | assumption | exact (iv_rng _).2 | exact (iv_rng _).1 | decide)) rfl rfl (Nat.le_of_ble_eq_true rfl) (by decide) rfl rfl 78 rfl (fun rv h1 q375 => ?_)
            obtain ⟨m376, n377, v380, rfl, rfl, I378, K379, pv380, qv380, rv380⟩ := q375
            replace rv380 : ((v380.toInt = 0 ∧ FPF (tR m355) (m355 123 15).toInt (m355 123 12).toInt (m376 123 14).toInt) ∨ (v380.toInt = 1 ∧ RLs cb (c + 1) m355 m376 ∧ FPR (tR m355) (m355 123 15).toInt (m355 123 12).toInt (m376 123 15).toInt (m376 123 12).toInt ∧ C14 m376 - C14 m355 = (m376 123 15).toInt - (m355 123 15).toInt)) ∧ IFZ v380.toInt (FAZ (tR m355) m355 m376) := rv380
            have K379c := K379
            have w381 : (m376 123 13).toInt = (m355 123 13).toInt := congrArg Int32.toInt (K379 123 13 rfl)
            have K379 := K357.trans (K379.sub (fun _ _ q => q))
            show PV _ _ _ _ _ _ _ 78 [.ref 123, .int v2, .int v47] [.int v380] _
            have kR2 := rv380.1
            rw [kt74] at kR2
            rw [kO74, show (m355 123 12).toInt = (m13 123 12).toInt + 1 by omega] at kR2
            have kR2z := rv380.2
            rw [kt74] at kR2z
            refine pv_if_ne (M := mX12_readsSum) (tgt := 163) dX12_readsSum_78 81 rfl (by decide) (fun c387 => ?_) (fun c387 => ?_)
            · have c387 := iv_ne (X := v380.toInt) (Y := 0) c387 rfl (by decide)
              refine pv_goto (M := mX12_readsSum) (tgt := 14) dX12_readsSum_163 (by decide) ?_
              refine pv_fg (lo2 := [.ref 123, .int v2, pv_U]) ⟨Or.inr rfl, ⟨Or.inr rfl, ⟨Or.inl rfl, trivial⟩⟩⟩ ?_
              have krl : RLs cb (c + 1) m m376 := by first | exact kX | exact kS.trans (kR2.resolve_left (fun q => by have q1 := q.1; omega)).2.1
              have kbk : (m13 123 12).toInt + 1 ≤ (m376 123 12).toInt := by first | omega | (have := (kR2.resolve_left (fun q => by have q1 := q.1; omega)).2.1.2.2.2.2.2.2.2.1; omega)
              have kkb : KI (tR m) (m 123 15).toInt (m 123 12).toInt (m376 123 15).toInt (m376 123 12).toInt := by first | exact kKc | exact KI_sign kgk kTX (by omega) kSg (kR2.resolve_left (fun q => by have q1 := q.1; omega)).2.2.1
              have kcb : C14 m376 - C14 m = (m376 123 15).toInt - (m 123 15).toInt := by first | omega | (have q := (kR2.resolve_left (fun q => by have q1 := q.1; omega)).2.2.2; omega)
              have kzb : SUZ (tR m) m m376 := by first | exact kzc | exact SUZ_sign (m1 := m309) (m2 := m355) kgz kgk kTX (by omega) kSg (by omega) kcs (by omega) (by omega) (fun i hi => by have q := kC.1.2.2.2.2.2.2 (wtN m13 - 1 - i) (by unfold wtN; omega) (by unfold wtN; omega); have z := k27z.2; by_cases y : 4 ≤ opv (m13 131 (wtN m13 - 1 - i)); exact Or.inl ⟨y, q.2⟩; exact Or.inr ⟨by rcases z with z | z; exfalso; omega; exact z.2, by omega⟩) kw1 kw2x (by omega) kc1x kc2x kO74 (by omega) (Or.inr ⟨by rcases k27z.2 with z | z; exfalso; omega; exact z.2, by omega, (by rw [← kC.1.2.2.2.2.2.1 (wtN m309 - 1), show wtN m309 - 1 = ((m309 123 17).toInt - 1).toNat by unfold wtN; omega]; exact kC.2 (by decide))⟩) k27z.1 (IFZ.get kR2z (by omega)) | exact SUZ_sign (m1 := m309) (m2 := m355) kgz kgk kTX (by omega) kSg (by omega) kcs (by omega) (by omega) (fun i hi => by have q := kC.1.2.2.2.2.2.2 (wtN m13 - 1 - i) (by unfold wtN; omega) (by unfold wtN; omega); exact Or.inl ⟨kcz (by decide) i hi, q.2⟩) kw1 kw2x (by omega) kc1x kc2x kO74 (by omega) (Or.inl ⟨by rcases k27z.2 with z | z; exact z.2; exfalso; omega, by omega, by omega, (by rw [← kC.1.2.2.2.2.2.1 (wtN m309 - 1), show wtN m309 - 1 = ((m309 123 17).toInt - 1).toNat by unfold wtN; omega]; exact kcq)⟩) k27z.1 (IFZ.get kR2z (by omega))
              exact ih19  m376 n377 (by first | omega | assumption | (show v2.toInt = (m 123 17).toInt; omega) | decide) krl kkb kcb kzb I378 K379 (by omega)
            · have c387 := iv_eq (X := v380.toInt) (Y := 0) c387 rfl (by decide)
              refine pv_iconst (M := mX12_readsSum) (v := 0) dX12_readsSum_81 82 rfl (by decide) ?_
              have z393 : (0 : Int32).toInt = 0 := by decide
              exact pv_iret (M := mX12_readsSum) dX12_readsSum_82 rfl rfl ⟨_, _, _, rfl, rfl, I378, K379, by decide, by decide, ⟨(Or.inl ⟨by decide, KI_sfl kgk kTX (by omega) kSg (kR2.resolve_right (fun q => by have q1 := q.1; omega)).2⟩), IFZ.no (by decide)⟩⟩
    have kr2 := (kR.resolve_left (fun q => by have q1 := q.1; omega)).2
    have kr0 := kr2.1
    have kk0 := KI_0 kr2.2.1
    have kc0 := kr2.2.2
    have kz0 := SUZ_0 (IFZ.get kRz (by omega))
    exact lp18 (((160 - (m4 123 12).toInt) : Int).toNat + 1)  m4 n5 (by first | omega | assumption | (show v2.toInt = (m 123 17).toInt; omega) | decide) kr0 kk0 kc0 kz0 I6 K7 (by omega)
  · have c12 := iv_eq (X := v8.toInt) (Y := 0) c12 rfl (by decide)
    refine pv_iconst (M := mX12_readsSum) (v := 0) dX12_readsSum_12 13 rfl (by decide) ?_
    have z399 : (0 : Int32).toInt = 0 := by decide
    exact pv_iret (M := mX12_readsSum) dX12_readsSum_13 rfl rfl ⟨_, _, _, rfl, rfl, I6, K7, by decide, by decide, ⟨(Or.inl ⟨by decide, KI_f0 (kR.resolve_right (fun q => by have q1 := q.1; omega)).2⟩), IFZ.no (by decide)⟩⟩
