set_option maxHeartbeats 2000000 in
set_option maxRecDepth 20000 in
theorem s_X12_endsPiece_vx (g : pv_G) {T : List mv_T} {m : Nat → Nat → Int32} {n : Nat → Nat → Int64} {r : Nat → Value} (hT : TX T) (I : IV BB m) (cb : Int) (c : Int) (hp0 : HW cb c m) (hp1 : 1 ≤ c) (hp2 : 0 ≤ SLK m) (hp3 : 0 ≤ (m 123 15).toInt) (hp4 : (m 123 15).toInt ≤ 6) : PM g mX12_endsPiece yX12_endsPiece (sqV T BB (wl [(123, 123, some 15), (123, 123, some 16), (123, 123, some 17), (130, 130, none)]) r m (fun m' => (EPI cb c m m' ∧ ((m' 123 17).toInt = 0 ∨ opv (m' 131 ((m' 123 17).toInt - 1).toNat) ≠ 10)) ∧ (m' 123 15).toInt - (m' 123 17).toInt = (m 123 15).toInt - (m 123 17).toInt)) 2 0 0 [.ref 123] (mk T m n r) := by
  have Kp : fr (wl [(123, 123, some 15), (123, 123, some 16), (123, 123, some 17), (130, 130, none)]) m m := fr.rf
  have z60 : 0 ≤ (m 123 12).toInt ∧ (m 123 12).toInt ≤ 160 := I 123 12
  have z61 : 0 ≤ (m 123 13).toInt ∧ (m 123 13).toInt ≤ 160 := I 123 13
  have z62 : 0 ≤ (m 123 16).toInt ∧ (m 123 16).toInt ≤ 180 := I 123 16
  have z63 : 0 ≤ (m 123 17).toInt ∧ (m 123 17).toInt ≤ 180 := I 123 17
  refine PM.of 0 (lo := [.ref 123]) rfl (by decide) rfl rfl (Nat.le_of_ble_eq_true rfl) ?_
  have lp6 : ∀ (fuel5 : Nat)  (m1 : Nat → Nat → Int32) (n2 : Nat → Nat → Int64), (EPI cb c m m1) → ((m1 123 15).toInt - (m1 123 17).toInt = (m 123 15).toInt - (m 123 17).toInt) → IV BB m1 → fr (wl [(123, 123, some 15), (123, 123, some 16), (123, 123, some 17), (130, 130, none)]) m m1 → (((m1 123 17).toInt) : Int).toNat < fuel5 → PV none g mX12_endsPiece (sqV T BB (wl [(123, 123, some 15), (123, 123, some 16), (123, 123, some 17), (130, 130, none)]) r m (fun m' => (EPI cb c m m' ∧ ((m' 123 17).toInt = 0 ∨ opv (m' 131 ((m' 123 17).toInt - 1).toNat) ≠ 10)) ∧ (m' 123 15).toInt - (m' 123 17).toInt = (m 123 15).toInt - (m 123 17).toInt)) 2 0 0 0 [.ref 123] [] (mk T m1 n2 r) := by
    intro fuel5
    induction fuel5 with
    | zero => intro  m1 n2 b8 b9 I3 K4 z10; omega
    | succ fuel5 ih7 =>
      intro  m1 n2 b8 b9 I3 K4 z10
      have z11 : 0 ≤ (m1 123 12).toInt ∧ (m1 123 12).toInt ≤ 160 := I3 123 12
      have z12 : 0 ≤ (m1 123 13).toInt ∧ (m1 123 13).toInt ≤ 160 := I3 123 13
      have z13 : 0 ≤ (m1 123 16).toInt ∧ (m1 123 16).toInt ≤ 180 := I3 123 16
      have z14 : 0 ≤ (m1 123 17).toInt ∧ (m1 123 17).toInt ≤ 180 := I3 123 17
      have kg := (show EPI cb c m m1 by assumption)
      have kg2 : (m1 123 16).toInt ≤ (m1 123 12).toInt := SLK_cm (m := m1) (by rw [kg.2.1]; exact hp2)
      have kg3 : 0 ≤ (m1 123 17).toInt := kg.2.2.2.2.1
      have kg4 : (m1 123 12).toInt ≤ 160 := (I3 123 12).2
      refine pv_aload_n (M := mX12_endsPiece) 0 dX12_endsPiece_0 1 rfl rfl rfl ?_
      refine pv_callv (M := mX12_endsPiece) (as := []) (st := []) (kc2 := 0) (ks2 := 0) dX12_endsPiece_1 wd1460 YX12_top ⟨wd1462, wd69⟩ (mk_get (tl123 hT)) rfl rfl (s_X12_top g hT I3) rfl rfl (Nat.le_of_ble_eq_true rfl) (by decide) rfl rfl 4 rfl (fun rv h1 q19 => ?_)
      obtain ⟨v20, rfl, rfl, pv20, qv20, rv20⟩ := q19
      replace rv20 : (v20.toInt = -1 ∧ (m1 123 17).toInt = 0) ∨ (1 ≤ (m1 123 17).toInt ∧ v20.toInt = opv (m1 131 ((m1 123 17).toInt - 1).toNat)) := rv20
      show PV _ _ _ _ _ _ _ 4 [.ref 123] [.int v20] _
      refine pv_bipush (M := mX12_endsPiece) (v := 10) dX12_endsPiece_4 6 rfl (by decide) ?_
      refine pv_icmp_ne (M := mX12_endsPiece) (tgt := 39) dX12_endsPiece_6 9 rfl (by decide) (fun c21 => ?_) (fun c21 => ?_)
      · have c21 := iv_ne (X := v20.toInt) (Y := 10) c21 rfl (by decide)
        exact pv_vret (M := mX12_endsPiece) dX12_endsPiece_39 rfl ⟨_, _, rfl, rfl, I3, K4, ⟨⟨kg, by omega⟩, by omega⟩⟩
      · have c21 := iv_eq (X := v20.toInt) (Y := 10) c21 rfl (by decide)
        refine pv_aload_n (M := mX12_endsPiece) 0 dX12_endsPiece_9 10 rfl rfl rfl ?_
        refine pv_bipush (M := mX12_endsPiece) (v := 10) dX12_endsPiece_10 12 rfl (by decide) ?_
        refine pv_iconst (M := mX12_endsPiece) (v := 0) dX12_endsPiece_12 13 rfl (by decide) ?_
        have z22 : (10 : Int32).toInt = 10 := by decide
        have z23 : (0 : Int32).toInt = 0 := by decide
        refine pv_callv (M := mX12_endsPiece) (as := [.int 10, .int 0]) (st := []) (kc2 := 0) (ks2 := 0) dX12_endsPiece_13 wd1446 YX12_notes ⟨wd1448, wd67⟩ (mk_get (tl123 hT)) rfl rfl (s_X12_notes g hT I3 10 (by decide) (by decide) 0 (by decide) (by decide) (by first | omega | assumption | exact (iv_rng _).2 | exact (iv_rng _).1 | decide)) rfl rfl (Nat.le_of_ble_eq_true rfl) (by decide) rfl rfl 16 rfl (fun rv h1 q24 => ?_)
        obtain ⟨m25, n26, rfl, rfl, I27, K28, rm25⟩ := q24
        replace rm25 : NOTE (10 : Int) (0 : Int) m1 m25 := by have q_ := rm25; (try rw [z22] at q_); (try rw [z23] at q_); exact q_
        have K28c := K28
        have w29 : (m25 123 12).toInt = (m1 123 12).toInt := congrArg Int32.toInt (K28 123 12 rfl)
        have w30 : (m25 123 13).toInt = (m1 123 13).toInt := congrArg Int32.toInt (K28 123 13 rfl)
        have w31 : (m25 123 17).toInt = (m1 123 17).toInt := congrArg Int32.toInt (K28 123 17 rfl)
        have w32 : (m25 123 14).toInt = (m1 123 14).toInt := congrArg Int32.toInt (K28 123 14 rfl)
        have w33 : (m25 123 15).toInt = (m1 123 15).toInt := congrArg Int32.toInt (K28 123 15 rfl)
        have K28 := K4.trans (K28.sub (wl_sub (by decide)))
        show PV _ _ _ _ _ _ _ 16 [.ref 123] [] _
        have kN := rm25
        refine pv_aload_n (M := mX12_endsPiece) 0 dX12_endsPiece_16 17 rfl rfl rfl ?_
        refine pv_aload_n (M := mX12_endsPiece) 0 dX12_endsPiece_17 18 rfl rfl rfl ?_
        refine iv_get (M := mX12_endsPiece) (l1 := 0) (l2 := 180) dX12_endsPiece_18 FX12 17 wd1190 (by decide) (tl123 hT) rfl I27 rfl 21 rfl (fun v35 ev35 pv35 qv35 => ?_)
        have wv35 : v35.toInt = (m25 123 17).toInt := congrArg Int32.toInt ev35
        refine pv_iconst (M := mX12_endsPiece) (v := 1) dX12_endsPiece_21 22 rfl (by decide) ?_
        refine iv_isub (M := mX12_endsPiece) (X := v35.toInt) (Y := 1) dX12_endsPiece_22 23 rfl rfl (by decide) (by omega) (by omega) (fun v36 ev36 => ?_)
        refine iv_put (M := mX12_endsPiece) (l1 := 0) (l2 := 180) dX12_endsPiece_23 FX12 17 wd1190 (by decide) rfl (tl123 hT) rfl rfl rfl I27 rfl (by omega) (by omega) 26 rfl (fun m37 e40 I38 => ?_)
        have K39 := K28.set e40 rfl
        have w41 : (m37 123 12).toInt = (m25 123 12).toInt := by rw [e40, up2_ne (by omega)]
        have w42 : (m37 123 13).toInt = (m25 123 13).toInt := by rw [e40, up2_ne (by omega)]
        have w43 : (m37 123 16).toInt = (m25 123 16).toInt := by rw [e40, up2_ne (by omega)]
        have w44 : (m37 123 17).toInt = v36.toInt := by rw [e40, up2_eq]
        have w45 : (m37 123 14).toInt = (m25 123 14).toInt := by rw [e40, up2_ne (by omega)]
        have w46 : (m37 123 15).toInt = (m25 123 15).toInt := by rw [e40, up2_ne (by omega)]
        refine pv_aload_n (M := mX12_endsPiece) 0 dX12_endsPiece_26 27 rfl rfl rfl ?_
        refine pv_aload_n (M := mX12_endsPiece) 0 dX12_endsPiece_27 28 rfl rfl rfl ?_
        refine iv_get (M := mX12_endsPiece) (l1 := (-2147483648)) (l2 := 2147483647) dX12_endsPiece_28 FX12 15 wd1188 (by decide) (tl123 hT) rfl I38 rfl 31 rfl (fun v47 ev47 pv47 qv47 => ?_)
        have wv47 : v47.toInt = (m37 123 15).toInt := congrArg Int32.toInt ev47
        refine pv_iconst (M := mX12_endsPiece) (v := 1) dX12_endsPiece_31 32 rfl (by decide) ?_
        refine iv_isub (M := mX12_endsPiece) (X := v47.toInt) (Y := 1) dX12_endsPiece_32 33 rfl rfl (by decide) (by omega) (by omega) (fun v48 ev48 => ?_)
        refine iv_put (M := mX12_endsPiece) (l1 := (-2147483648)) (l2 := 2147483647) dX12_endsPiece_33 FX12 15 wd1188 (by decide) rfl (tl123 hT) rfl rfl rfl I38 rfl (iv_rng v48).1 (iv_rng v48).2 36 rfl (fun m49 e52 I50 => ?_)
        have K51 := K39.set e52 rfl
        have w53 : (m49 123 12).toInt = (m37 123 12).toInt := by rw [e52, up2_ne (by omega)]
        have w54 : (m49 123 13).toInt = (m37 123 13).toInt := by rw [e52, up2_ne (by omega)]
        have w55 : (m49 123 16).toInt = (m37 123 16).toInt := by rw [e52, up2_ne (by omega)]
        have w56 : (m49 123 17).toInt = (m37 123 17).toInt := by rw [e52, up2_ne (by omega)]
        have w57 : (m49 123 14).toInt = (m37 123 14).toInt := by rw [e52, up2_ne (by omega)]
        have w58 : (m49 123 15).toInt = v48.toInt := by rw [e52, up2_eq]
        refine pv_goto (M := mX12_endsPiece) (tgt := 0) dX12_endsPiece_36 (by decide) ?_
        have kes := EPI.step kg hp1 (by omega) (by omega) kN e40 (by omega) e52
        exact ih7  m49 n26 kes (by first | omega | assumption | (show (m49 123 15).toInt - (m49 123 17).toInt = (m 123 15).toInt - (m 123 17).toInt; omega) | decide) I50 K51 (by omega)
  exact lp6 ((((m 123 17).toInt) : Int).toNat + 1)  m n (EPI.start hp0 (by omega)) (by first | omega | assumption | (show (m 123 15).toInt - (m 123 17).toInt = (m 123 15).toInt - (m 123 17).toInt; omega) | decide) I Kp (by omega)

set_option maxHeartbeats 2000000 in
set_option maxRecDepth 20000 in
theorem s_X12_readsCompared_vx (g : pv_G) {T : List mv_T} {m : Nat → Nat → Int32} {n : Nat → Nat → Int64} {r : Nat → Value} (hT : TX T) (I : IV BB m) (cb : Int) (hp0 : HW cb 0 m) (hp1 : 0 ≤ SLK m) (hp2 : (m 123 12).toInt ≤ (m 123 13).toInt) (hp3 : (m 123 17).toInt ≤ (m 123 12).toInt) (hp4 : NS m) (hp5 : 0 ≤ (m 123 15).toInt) (hp6 : (m 123 15).toInt ≤ 6) : PM g mX12_readsCompared yX12_readsCompared (sqI T BB (wl [(123, 123, some 12), (123, 123, some 14), (123, 123, some 15), (123, 123, some 16), (123, 123, some 17), (123, 123, some 19), (130, 130, none), (131, 131, none)]) r m 0 1 (fun m' v => (v.toInt = 0 ∧ FLT (CM (tR m) (eo (m 123 15).toInt) (m 123 12).toInt) (m' 123 14).toInt) ∨ (v.toInt = 1 ∧ RC cb m m' ∧ CM (tR m) (eo (m 123 15).toInt) (m 123 12).toInt = (0, (m' 123 12).toInt) ∧ (m' 123 15).toInt - (m' 123 17).toInt = (m 123 15).toInt - (m 123 17).toInt ∧ ((m' 123 17).toInt = 0 ∨ opv (m' 131 ((m' 123 17).toInt - 1).toNat) ≠ 10)))) 6 0 0 [.ref 123] (mk T m n r) := by
  have Kp : fr (wl [(123, 123, some 12), (123, 123, some 14), (123, 123, some 15), (123, 123, some 16), (123, 123, some 17), (123, 123, some 19), (130, 130, none), (131, 131, none)]) m m := fr.rf
  have z241 : 0 ≤ (m 123 12).toInt ∧ (m 123 12).toInt ≤ 160 := I 123 12
  have z242 : 0 ≤ (m 123 13).toInt ∧ (m 123 13).toInt ≤ 160 := I 123 13
  have z243 : 0 ≤ (m 123 16).toInt ∧ (m 123 16).toInt ≤ 180 := I 123 16
  have z244 : 0 ≤ (m 123 17).toInt ∧ (m 123 17).toInt ≤ 180 := I 123 17
  refine PM.of 1 (lo := [.ref 123, pv_U]) rfl (by decide) rfl rfl (Nat.le_of_ble_eq_true rfl) ?_
  refine pv_aload_n (M := mX12_readsCompared) 0 dX12_readsCompared_0 1 rfl rfl rfl ?_
  refine pv_callv (M := mX12_readsCompared) (as := []) (st := []) (kc2 := 0) (ks2 := 0) dX12_readsCompared_1 wd1425 YX12_readsSum ⟨wd1427, wd62⟩ (mk_get (tl123 hT)) rfl rfl (s_X12_readsSum_vx g hT I cb 0 hp0 (by omega) (by first | omega | assumption | exact (iv_rng _).2 | exact (iv_rng _).1 | decide) (by first | omega | assumption | exact (iv_rng _).2 | exact (iv_rng _).1 | decide) (by first | omega | assumption | exact (iv_rng _).2 | exact (iv_rng _).1 | decide) hp4 (by first | omega | assumption | exact (iv_rng _).2 | exact (iv_rng _).1 | decide) (by first | omega | assumption | exact (iv_rng _).2 | exact (iv_rng _).1 | decide)) rfl rfl (Nat.le_of_ble_eq_true rfl) (by decide) rfl rfl 4 rfl (fun rv h1 q1 => ?_)
  obtain ⟨m2, n3, v6, rfl, rfl, I4, K5, pv6, qv6, rv6⟩ := q1
  replace rv6 : (v6.toInt = 0 ∧ FLT (SU (tR m) (eo (m 123 15).toInt) (m 123 12).toInt) (m2 123 14).toInt) ∨ (v6.toInt = 1 ∧ RS cb (0 + 1) m m2 ∧ SU (tR m) (eo (m 123 15).toInt) (m 123 12).toInt = (0, (m2 123 12).toInt) ∧ (m2 123 15).toInt = (m 123 15).toInt) := rv6
  have K5c := K5
  have w7 : (m2 123 13).toInt = (m 123 13).toInt := congrArg Int32.toInt (K5 123 13 rfl)
  have K5 := Kp.trans (K5.sub (fun _ _ q => q))
  show PV _ _ _ _ _ _ _ 4 [.ref 123, pv_U] [.int v6] _
  have kR := rv6
  refine pv_if_ne (M := mX12_readsCompared) (tgt := 9) dX12_readsCompared_4 7 rfl (by decide) (fun c9 => ?_) (fun c9 => ?_)
  · have c9 := iv_ne (X := v6.toInt) (Y := 0) c9 rfl (by decide)
    have kab := (kR.resolve_left (fun q => by have q1 := q.1; omega)).2
    have ka : RS cb 1 m m2 := kab.1
    have kaS := kab.2.1
    have kaO := kab.2.2
    have ka2 := ka.2.1
    have ka3 := ka.2.2.2.1
    have ka4 := ka.2.2.2.2.2.1
    have ka5 := ka.2.2.2.2.2.2.1
    have kt9 : tR m2 = tR m := tR_eq (K5 123 13 rfl) (fun j => K5 129 j rfl)
    refine pv_aload_n (M := mX12_readsCompared) 0 dX12_readsCompared_9 10 rfl rfl rfl ?_
    refine pv_callv (M := mX12_readsCompared) (as := []) (st := []) (kc2 := 0) (ks2 := 0) dX12_readsCompared_10 wd1417 YX12_here ⟨wd1419, wd60⟩ (mk_get (tl123 hT)) rfl rfl (s_X12_here g hT I4) rfl rfl (Nat.le_of_ble_eq_true rfl) (by decide) rfl rfl 13 rfl (fun rv h1 q19 => ?_)
    obtain ⟨v20, rfl, rfl, pv20, qv20, rv20⟩ := q19
    replace rv20 : v20.toInt = hereV m2 ∧ (v20.toInt = -1 ∨ (m2 123 12).toInt < (m2 123 13).toInt) := rv20
    show PV _ _ _ _ _ _ _ 13 [.ref 123, pv_U] [.int v20] _
    have k13 : v20.toInt = tR m (m2 123 12).toInt := rv20.1.trans (congrFun kt9 _)
    refine pv_bipush (M := mX12_readsCompared) (v := 60) dX12_readsCompared_13 15 rfl (by decide) ?_
    refine pv_icmp_ne (M := mX12_readsCompared) (tgt := 23) dX12_readsCompared_15 18 rfl (by decide) (fun c22 => ?_) (fun c22 => ?_)
    · have c22 := iv_ne (X := v20.toInt) (Y := 60) c22 rfl (by decide)
      refine pv_aload_n (M := mX12_readsCompared) 0 dX12_readsCompared_23 24 rfl rfl rfl ?_
      refine pv_callv (M := mX12_readsCompared) (as := []) (st := []) (kc2 := 0) (ks2 := 0) dX12_readsCompared_24 wd1417 YX12_here ⟨wd1419, wd60⟩ (mk_get (tl123 hT)) rfl rfl (s_X12_here g hT I4) rfl rfl (Nat.le_of_ble_eq_true rfl) (by decide) rfl rfl 27 rfl (fun rv h1 q23 => ?_)
      obtain ⟨v24, rfl, rfl, pv24, qv24, rv24⟩ := q23
      replace rv24 : v24.toInt = hereV m2 ∧ (v24.toInt = -1 ∨ (m2 123 12).toInt < (m2 123 13).toInt) := rv24
      show PV _ _ _ _ _ _ _ 27 [.ref 123, pv_U] [.int v24] _
      have k27 : v24.toInt = tR m (m2 123 12).toInt := rv24.1.trans (congrFun kt9 _)
      refine pv_bipush (M := mX12_readsCompared) (v := 62) dX12_readsCompared_27 29 rfl (by decide) ?_
      refine pv_icmp_ne (M := mX12_readsCompared) (tgt := 37) dX12_readsCompared_29 32 rfl (by decide) (fun c26 => ?_) (fun c26 => ?_)
      · have c26 := iv_ne (X := v24.toInt) (Y := 62) c26 rfl (by decide)
        refine pv_aload_n (M := mX12_readsCompared) 0 dX12_readsCompared_37 38 rfl rfl rfl ?_
        refine pv_callv (M := mX12_readsCompared) (as := []) (st := []) (kc2 := 0) (ks2 := 0) dX12_readsCompared_38 wd1417 YX12_here ⟨wd1419, wd60⟩ (mk_get (tl123 hT)) rfl rfl (s_X12_here g hT I4) rfl rfl (Nat.le_of_ble_eq_true rfl) (by decide) rfl rfl 41 rfl (fun rv h1 q27 => ?_)
        obtain ⟨v28, rfl, rfl, pv28, qv28, rv28⟩ := q27
        replace rv28 : v28.toInt = hereV m2 ∧ (v28.toInt = -1 ∨ (m2 123 12).toInt < (m2 123 13).toInt) := rv28
        show PV _ _ _ _ _ _ _ 41 [.ref 123, pv_U] [.int v28] _
        have k41 : v28.toInt = tR m (m2 123 12).toInt := rv28.1.trans (congrFun kt9 _)
        refine pv_bipush (M := mX12_readsCompared) (v := 61) dX12_readsCompared_41 43 rfl (by decide) ?_
        refine pv_icmp_ne (M := mX12_readsCompared) (tgt := 51) dX12_readsCompared_43 46 rfl (by decide) (fun c30 => ?_) (fun c30 => ?_)
        · have c30 := iv_ne (X := v28.toInt) (Y := 61) c30 rfl (by decide)
          refine pv_iconst (M := mX12_readsCompared) (v := (-1)) dX12_readsCompared_51 52 rfl (by decide) ?_
          refine pv_istore_n (M := mX12_readsCompared) 1 (lo2 := [.ref 123, .int (-1)]) dX12_readsCompared_52 53 rfl rfl (by decide) rfl rfl ?_
          refine pv_iload_n (M := mX12_readsCompared) 1 dX12_readsCompared_53 54 rfl rfl rfl ?_
          refine pv_iconst (M := mX12_readsCompared) (v := (-1)) dX12_readsCompared_54 55 rfl (by decide) ?_
          refine pv_icmp_ne (M := mX12_readsCompared) (tgt := 68) dX12_readsCompared_55 58 rfl (by decide) (fun q => absurd (by decide) q) (fun _ => ?_)
          refine pv_aload_n (M := mX12_readsCompared) 0 dX12_readsCompared_58 59 rfl rfl rfl ?_
          refine pv_iconst (M := mX12_readsCompared) (v := 1) dX12_readsCompared_59 60 rfl (by decide) ?_
          refine pv_aload_n (M := mX12_readsCompared) 0 dX12_readsCompared_60 61 rfl rfl rfl ?_
          refine iv_get (M := mX12_readsCompared) (l1 := 0) (l2 := 160) dX12_readsCompared_61 FX12 12 wd1185 (by decide) (tl123 hT) rfl I4 rfl 64 rfl (fun v32 ev32 pv32 qv32 => ?_)
          have wv32 : v32.toInt = (m2 123 12).toInt := congrArg Int32.toInt ev32
          have z33 : (1 : Int32).toInt = 1 := by decide
          refine pv_callv (M := mX12_readsCompared) (as := [.int 1, .int v32]) (st := []) (kc2 := 0) (ks2 := 0) dX12_readsCompared_64 wd1421 YX12_wrongAt ⟨wd1423, wd61⟩ (mk_get (tl123 hT)) rfl rfl (s_X12_wrongAt_vx g hT I4 1 (by decide) (by decide) v32 (by omega) (by omega)) rfl rfl (Nat.le_of_ble_eq_true rfl) (by decide) rfl rfl 67 rfl (fun rv h1 q34 => ?_)
          obtain ⟨m35, n36, v39, rfl, rfl, I37, K38, pv39, qv39, rv39⟩ := q34
          replace rv39 : (m35 123 14).toInt = -1000 * (1 : Int) - v32.toInt := by have q_ := rv39; (try rw [z33] at q_); exact q_
          have K38c := K38
          have w40 : (m35 123 12).toInt = (m2 123 12).toInt := congrArg Int32.toInt (K38 123 12 rfl)
          have w41 : (m35 123 13).toInt = (m2 123 13).toInt := congrArg Int32.toInt (K38 123 13 rfl)
          have w42 : (m35 123 16).toInt = (m2 123 16).toInt := congrArg Int32.toInt (K38 123 16 rfl)
          have w43 : (m35 123 17).toInt = (m2 123 17).toInt := congrArg Int32.toInt (K38 123 17 rfl)
          have w44 : (m35 123 15).toInt = (m2 123 15).toInt := congrArg Int32.toInt (K38 123 15 rfl)
          have K38 := K5.trans (K38.sub (wl_sub (by decide)))
          show PV _ _ _ _ _ _ _ 67 [.ref 123, .int (-1)] [.int v39] _
          exact pv_iret (M := mX12_readsCompared) dX12_readsCompared_67 rfl (iv_nz (by omega) (by omega)) ⟨_, _, _, rfl, rfl, I37, K38, by omega, by omega, (Or.inl ⟨by omega, CM_no kaS (isC_no (by omega) (by omega) (by omega)) (by omega)⟩)⟩
        · have c30 := iv_eq (X := v28.toInt) (Y := 61) c30 rfl (by decide)
          refine pv_bipush (M := mX12_readsCompared) (v := 9) dX12_readsCompared_46 48 rfl (by decide) ?_
          refine pv_goto (M := mX12_readsCompared) (tgt := 52) dX12_readsCompared_48 (by decide) ?_
          refine pv_istore_n (M := mX12_readsCompared) 1 (lo2 := [.ref 123, .int 9]) dX12_readsCompared_52 53 rfl rfl (by decide) rfl rfl ?_
          refine pv_iload_n (M := mX12_readsCompared) 1 dX12_readsCompared_53 54 rfl rfl rfl ?_
          refine pv_iconst (M := mX12_readsCompared) (v := (-1)) dX12_readsCompared_54 55 rfl (by decide) ?_
          refine pv_icmp_ne (M := mX12_readsCompared) (tgt := 68) dX12_readsCompared_55 58 rfl (by decide) (fun _ => ?_) (fun q => absurd q (by decide))
          refine pv_aload_n (M := mX12_readsCompared) 0 dX12_readsCompared_68 69 rfl rfl rfl ?_
          refine pv_aload_n (M := mX12_readsCompared) 0 dX12_readsCompared_69 70 rfl rfl rfl ?_
          refine iv_get (M := mX12_readsCompared) (l1 := 0) (l2 := 160) dX12_readsCompared_70 FX12 12 wd1185 (by decide) (tl123 hT) rfl I4 rfl 73 rfl (fun v46 ev46 pv46 qv46 => ?_)
          have wv46 : v46.toInt = (m2 123 12).toInt := congrArg Int32.toInt ev46
          refine pv_iconst (M := mX12_readsCompared) (v := 1) dX12_readsCompared_73 74 rfl (by decide) ?_
          refine iv_iadd (M := mX12_readsCompared) (X := v46.toInt) (Y := 1) dX12_readsCompared_74 75 rfl rfl (by decide) (by omega) (by omega) (fun v47 ev47 => ?_)
          refine iv_put (M := mX12_readsCompared) (l1 := 0) (l2 := 160) dX12_readsCompared_75 FX12 12 wd1185 (by decide) rfl (tl123 hT) rfl rfl rfl I4 rfl (by omega) (by omega) 78 rfl (fun m48 e51 I49 => ?_)
          have K50 := K5.set e51 rfl
          have w52 : (m48 123 12).toInt = v47.toInt := by rw [e51, up2_eq]
          have w53 : (m48 123 13).toInt = (m2 123 13).toInt := by rw [e51, up2_ne (by omega)]
          have w54 : (m48 123 16).toInt = (m2 123 16).toInt := by rw [e51, up2_ne (by omega)]
          have w55 : (m48 123 17).toInt = (m2 123 17).toInt := by rw [e51, up2_ne (by omega)]
          have w56 : (m48 123 14).toInt = (m2 123 14).toInt := by rw [e51, up2_ne (by omega)]
          have w57 : (m48 123 15).toInt = (m2 123 15).toInt := by rw [e51, up2_ne (by omega)]
          have kA : HW cb 1 m48 ∧ SLK m2 + 1 ≤ SLK m48 ∧ 0 ≤ SLK m2 ∧ NS m48 := ⟨(HW_move ka.1 (by rw [e51, up2_ne (by omega)]) (by rw [e51, up2_ne (by omega)]) (fun j => by rw [e51, up2_ne (by omega)]) (fun j => by rw [e51, up2_ne (by omega)])).1, by have := (HW_move (m' := m48) ka.1 (by rw [e51, up2_ne (by omega)]) (by rw [e51, up2_ne (by omega)]) (fun j => by rw [e51, up2_ne (by omega)]) (fun j => by rw [e51, up2_ne (by omega)])).2; omega, by omega, NS_eq hp4 (by omega) (fun j hj => by rw [e51, up2_ne (by omega)]; exact ka.2.2.2.2.1 j (by omega))⟩
          have ke := e51
          have kA2 := kA.2.1
          have kt78 : tR m48 = tR m := tR_eq (K50 123 13 rfl) (fun j => K50 129 j rfl)
          have kC : isC (tR m (m2 123 12).toInt) = true := isC_y (by omega)
          have kp78 : (m48 123 12).toInt = (m2 123 12).toInt + 1 := by omega
          have ko78 : (m48 123 15).toInt = (m 123 15).toInt := by omega
          refine pv_aload_n (M := mX12_readsCompared) 0 dX12_readsCompared_78 79 rfl rfl rfl ?_
          refine pv_callv (M := mX12_readsCompared) (as := []) (st := []) (kc2 := 0) (ks2 := 0) dX12_readsCompared_79 wd1425 YX12_readsSum ⟨wd1427, wd62⟩ (mk_get (tl123 hT)) rfl rfl (s_X12_readsSum_vx g hT I49 cb 1 kA.1 (by omega) (by have := kA.2.1; have := kA.2.2.1; omega) (by omega) (by omega) kA.2.2.2 (by first | omega | assumption | exact (iv_rng _).2 | exact (iv_rng _).1 | decide) (by first | omega | assumption | exact (iv_rng _).2 | exact (iv_rng _).1 | decide)) rfl rfl (Nat.le_of_ble_eq_true rfl) (by decide) rfl rfl 82 rfl (fun rv h1 q65 => ?_)
          obtain ⟨m66, n67, v70, rfl, rfl, I68, K69, pv70, qv70, rv70⟩ := q65
          replace rv70 : (v70.toInt = 0 ∧ FLT (SU (tR m48) (eo (m48 123 15).toInt) (m48 123 12).toInt) (m66 123 14).toInt) ∨ (v70.toInt = 1 ∧ RS cb (1 + 1) m48 m66 ∧ SU (tR m48) (eo (m48 123 15).toInt) (m48 123 12).toInt = (0, (m66 123 12).toInt) ∧ (m66 123 15).toInt = (m48 123 15).toInt) := rv70
          have K69c := K69
          have w71 : (m66 123 13).toInt = (m48 123 13).toInt := congrArg Int32.toInt (K69 123 13 rfl)
          have K69 := K50.trans (K69.sub (fun _ _ q => q))
          show PV _ _ _ _ _ _ _ 82 [.ref 123, .int 9] [.int v70] _
          have kR2 := rv70
          rw [kt78, ko78, kp78] at kR2
          refine pv_if_ne (M := mX12_readsCompared) (tgt := 87) dX12_readsCompared_82 85 rfl (by decide) (fun c74 => ?_) (fun c74 => ?_)
          · have c74 := iv_ne (X := v70.toInt) (Y := 0) c74 rfl (by decide)
            have kbb := (kR2.resolve_left (fun q => by have q1 := q.1; omega)).2
            have kb : RS cb 2 _ m66 := kbb.1
            have kbS := kbb.2.1
            have kbO := kbb.2.2
            have kbw := kbb.1.2.2.2.1
            have kb2 := kb.2.1
            have kb3 : (m66 123 16).toInt ≤ (m66 123 12).toInt := SLK_cm (m := m66) (by omega)
            have kb4 : (m66 123 12).toInt ≤ 160 := (I68 123 12).2
            refine pv_aload_n (M := mX12_readsCompared) 0 dX12_readsCompared_87 88 rfl rfl rfl ?_
            refine pv_iload_n (M := mX12_readsCompared) 1 dX12_readsCompared_88 89 rfl rfl rfl ?_
            refine pv_iconst (M := mX12_readsCompared) (v := 0) dX12_readsCompared_89 90 rfl (by decide) ?_
            have z83 : (9 : Int32).toInt = 9 := by decide
            have z84 : (0 : Int32).toInt = 0 := by decide
            refine pv_callv (M := mX12_readsCompared) (as := [.int 9, .int 0]) (st := []) (kc2 := 0) (ks2 := 0) dX12_readsCompared_90 wd1446 YX12_notes ⟨wd1448, wd67⟩ (mk_get (tl123 hT)) rfl rfl (s_X12_notes g hT I68 9 (by decide) (by decide) 0 (by decide) (by decide) (by first | omega | assumption | exact (iv_rng _).2 | exact (iv_rng _).1 | decide)) rfl rfl (Nat.le_of_ble_eq_true rfl) (by decide) rfl rfl 93 rfl (fun rv h1 q85 => ?_)
            obtain ⟨m86, n87, rfl, rfl, I88, K89, rm86⟩ := q85
            replace rm86 : NOTE (9 : Int) (0 : Int) m66 m86 := by have q_ := rm86; (try rw [z83] at q_); (try rw [z84] at q_); exact q_
            have K89c := K89
            have w90 : (m86 123 12).toInt = (m66 123 12).toInt := congrArg Int32.toInt (K89 123 12 rfl)
            have w91 : (m86 123 13).toInt = (m66 123 13).toInt := congrArg Int32.toInt (K89 123 13 rfl)
            have w92 : (m86 123 17).toInt = (m66 123 17).toInt := congrArg Int32.toInt (K89 123 17 rfl)
            have w93 : (m86 123 14).toInt = (m66 123 14).toInt := congrArg Int32.toInt (K89 123 14 rfl)
            have w94 : (m86 123 15).toInt = (m66 123 15).toInt := congrArg Int32.toInt (K89 123 15 rfl)
            have K89 := K69.trans (K89.sub (wl_sub (by decide)))
            show PV _ _ _ _ _ _ _ 93 [.ref 123, .int 9] [] _
            have kN := rm86
            have kB := NOTE_HW (d := -1) kN kb.1 (by omega) (by omega) (Or.inr (Or.inr (Or.inr ⟨by omega, by omega, rfl, by have := OPS_ge m66; omega⟩)))
            have kB : HW cb 1 m86 ∧ SLK m86 = SLK m66 - 1 := ⟨kB.1, kB.2.1⟩
            refine pv_aload_n (M := mX12_readsCompared) 0 dX12_readsCompared_93 94 rfl rfl rfl ?_
            refine pv_callv (M := mX12_readsCompared) (as := []) (st := []) (kc2 := 0) (ks2 := 0) dX12_readsCompared_94 wd1476 YX12_endsPiece ⟨wd1478, wd73⟩ (mk_get (tl123 hT)) rfl rfl (s_X12_endsPiece_vx g hT I88 cb 1 kB.1 (by omega) (by omega) (by first | omega | assumption | exact (iv_rng _).2 | exact (iv_rng _).1 | decide) (by first | omega | assumption | exact (iv_rng _).2 | exact (iv_rng _).1 | decide)) rfl rfl (Nat.le_of_ble_eq_true rfl) (by decide) rfl rfl 97 rfl (fun rv h1 q98 => ?_)
            obtain ⟨m99, n100, rfl, rfl, I101, K102, rm99⟩ := q98
            replace rm99 : (EPI cb 1 m86 m99 ∧ ((m99 123 17).toInt = 0 ∨ opv (m99 131 ((m99 123 17).toInt - 1).toNat) ≠ 10)) ∧ (m99 123 15).toInt - (m99 123 17).toInt = (m86 123 15).toInt - (m86 123 17).toInt := rm99
            have K102c := K102
            have w103 : (m99 123 12).toInt = (m86 123 12).toInt := congrArg Int32.toInt (K102 123 12 rfl)
            have w104 : (m99 123 13).toInt = (m86 123 13).toInt := congrArg Int32.toInt (K102 123 13 rfl)
            have w105 : (m99 123 14).toInt = (m86 123 14).toInt := congrArg Int32.toInt (K102 123 14 rfl)
            have K102 := K89.trans (K102.sub (wl_sub (by decide)))
            show PV _ _ _ _ _ _ _ 97 [.ref 123, .int 9] [] _
            have kE := rm99.1
            have kEo := rm99.2
            refine pv_iconst (M := mX12_readsCompared) (v := 1) dX12_readsCompared_97 98 rfl (by decide) ?_
            have z108 : (1 : Int32).toInt = 1 := by decide
            exact pv_iret (M := mX12_readsCompared) dX12_readsCompared_98 rfl rfl ⟨_, _, _, rfl, rfl, I101, K102, by decide, by decide, (Or.inr ⟨by decide, RC.of (by omega) ka ke (by omega) kb kN (by omega) (by omega) kE.1 (K102c 123 12 rfl) (K102c 123 13 rfl), by rw [CM_ok kaS kC, kbS, show (m66 123 12).toInt = (m99 123 12).toInt by omega], by omega, kE.2⟩)⟩
          · have c74 := iv_eq (X := v70.toInt) (Y := 0) c74 rfl (by decide)
            refine pv_iconst (M := mX12_readsCompared) (v := 0) dX12_readsCompared_85 86 rfl (by decide) ?_
            have z109 : (0 : Int32).toInt = 0 := by decide
            exact pv_iret (M := mX12_readsCompared) dX12_readsCompared_86 rfl rfl ⟨_, _, _, rfl, rfl, I68, K69, by decide, by decide, (Or.inl ⟨by decide, by rw [CM_ok kaS kC]; exact (kR2.resolve_right (fun q => by have q1 := q.1; omega)).2⟩)⟩
      · have c26 := iv_eq (X := v24.toInt) (Y := 62) c26 rfl (by decide)
        refine pv_bipush (M := mX12_readsCompared) (v := 8) dX12_readsCompared_32 34 rfl (by decide) ?_
        refine pv_goto (M := mX12_readsCompared) (tgt := 52) dX12_readsCompared_34 (by decide) ?_
        refine pv_istore_n (M := mX12_readsCompared) 1 (lo2 := [.ref 123, .int 8]) dX12_readsCompared_52 53 rfl rfl (by decide) rfl rfl ?_
        refine pv_iload_n (M := mX12_readsCompared) 1 dX12_readsCompared_53 54 rfl rfl rfl ?_
        refine pv_iconst (M := mX12_readsCompared) (v := (-1)) dX12_readsCompared_54 55 rfl (by decide) ?_
        refine pv_icmp_ne (M := mX12_readsCompared) (tgt := 68) dX12_readsCompared_55 58 rfl (by decide) (fun _ => ?_) (fun q => absurd q (by decide))
        refine pv_aload_n (M := mX12_readsCompared) 0 dX12_readsCompared_68 69 rfl rfl rfl ?_
        refine pv_aload_n (M := mX12_readsCompared) 0 dX12_readsCompared_69 70 rfl rfl rfl ?_
        refine iv_get (M := mX12_readsCompared) (l1 := 0) (l2 := 160) dX12_readsCompared_70 FX12 12 wd1185 (by decide) (tl123 hT) rfl I4 rfl 73 rfl (fun v111 ev111 pv111 qv111 => ?_)
        have wv111 : v111.toInt = (m2 123 12).toInt := congrArg Int32.toInt ev111
        refine pv_iconst (M := mX12_readsCompared) (v := 1) dX12_readsCompared_73 74 rfl (by decide) ?_
        refine iv_iadd (M := mX12_readsCompared) (X := v111.toInt) (Y := 1) dX12_readsCompared_74 75 rfl rfl (by decide) (by omega) (by omega) (fun v112 ev112 => ?_)
        refine iv_put (M := mX12_readsCompared) (l1 := 0) (l2 := 160) dX12_readsCompared_75 FX12 12 wd1185 (by decide) rfl (tl123 hT) rfl rfl rfl I4 rfl (by omega) (by omega) 78 rfl (fun m113 e116 I114 => ?_)
        have K115 := K5.set e116 rfl
        have w117 : (m113 123 12).toInt = v112.toInt := by rw [e116, up2_eq]
        have w118 : (m113 123 13).toInt = (m2 123 13).toInt := by rw [e116, up2_ne (by omega)]
        have w119 : (m113 123 16).toInt = (m2 123 16).toInt := by rw [e116, up2_ne (by omega)]
        have w120 : (m113 123 17).toInt = (m2 123 17).toInt := by rw [e116, up2_ne (by omega)]
        have w121 : (m113 123 14).toInt = (m2 123 14).toInt := by rw [e116, up2_ne (by omega)]
        have w122 : (m113 123 15).toInt = (m2 123 15).toInt := by rw [e116, up2_ne (by omega)]
        have kA : HW cb 1 m113 ∧ SLK m2 + 1 ≤ SLK m113 ∧ 0 ≤ SLK m2 ∧ NS m113 := ⟨(HW_move ka.1 (by rw [e116, up2_ne (by omega)]) (by rw [e116, up2_ne (by omega)]) (fun j => by rw [e116, up2_ne (by omega)]) (fun j => by rw [e116, up2_ne (by omega)])).1, by have := (HW_move (m' := m113) ka.1 (by rw [e116, up2_ne (by omega)]) (by rw [e116, up2_ne (by omega)]) (fun j => by rw [e116, up2_ne (by omega)]) (fun j => by rw [e116, up2_ne (by omega)])).2; omega, by omega, NS_eq hp4 (by omega) (fun j hj => by rw [e116, up2_ne (by omega)]; exact ka.2.2.2.2.1 j (by omega))⟩
        have ke := e116
        have kA2 := kA.2.1
        have kt78 : tR m113 = tR m := tR_eq (K115 123 13 rfl) (fun j => K115 129 j rfl)
        have kC : isC (tR m (m2 123 12).toInt) = true := isC_y (by omega)
        have kp78 : (m113 123 12).toInt = (m2 123 12).toInt + 1 := by omega
        have ko78 : (m113 123 15).toInt = (m 123 15).toInt := by omega
        refine pv_aload_n (M := mX12_readsCompared) 0 dX12_readsCompared_78 79 rfl rfl rfl ?_
        refine pv_callv (M := mX12_readsCompared) (as := []) (st := []) (kc2 := 0) (ks2 := 0) dX12_readsCompared_79 wd1425 YX12_readsSum ⟨wd1427, wd62⟩ (mk_get (tl123 hT)) rfl rfl (s_X12_readsSum_vx g hT I114 cb 1 kA.1 (by omega) (by have := kA.2.1; have := kA.2.2.1; omega) (by omega) (by omega) kA.2.2.2 (by first | omega | assumption | exact (iv_rng _).2 | exact (iv_rng _).1 | decide) (by first | omega | assumption | exact (iv_rng _).2 | exact (iv_rng _).1 | decide)) rfl rfl (Nat.le_of_ble_eq_true rfl) (by decide) rfl rfl 82 rfl (fun rv h1 q130 => ?_)
        obtain ⟨m131, n132, v135, rfl, rfl, I133, K134, pv135, qv135, rv135⟩ := q130
        replace rv135 : (v135.toInt = 0 ∧ FLT (SU (tR m113) (eo (m113 123 15).toInt) (m113 123 12).toInt) (m131 123 14).toInt) ∨ (v135.toInt = 1 ∧ RS cb (1 + 1) m113 m131 ∧ SU (tR m113) (eo (m113 123 15).toInt) (m113 123 12).toInt = (0, (m131 123 12).toInt) ∧ (m131 123 15).toInt = (m113 123 15).toInt) := rv135
        have K134c := K134
        have w136 : (m131 123 13).toInt = (m113 123 13).toInt := congrArg Int32.toInt (K134 123 13 rfl)
        have K134 := K115.trans (K134.sub (fun _ _ q => q))
        show PV _ _ _ _ _ _ _ 82 [.ref 123, .int 8] [.int v135] _
        have kR2 := rv135
        rw [kt78, ko78, kp78] at kR2
        refine pv_if_ne (M := mX12_readsCompared) (tgt := 87) dX12_readsCompared_82 85 rfl (by decide) (fun c139 => ?_) (fun c139 => ?_)
        · have c139 := iv_ne (X := v135.toInt) (Y := 0) c139 rfl (by decide)
          have kbb := (kR2.resolve_left (fun q => by have q1 := q.1; omega)).2
          have kb : RS cb 2 _ m131 := kbb.1
          have kbS := kbb.2.1
          have kbO := kbb.2.2
          have kbw := kbb.1.2.2.2.1
          have kb2 := kb.2.1
          have kb3 : (m131 123 16).toInt ≤ (m131 123 12).toInt := SLK_cm (m := m131) (by omega)
          have kb4 : (m131 123 12).toInt ≤ 160 := (I133 123 12).2
          refine pv_aload_n (M := mX12_readsCompared) 0 dX12_readsCompared_87 88 rfl rfl rfl ?_
          refine pv_iload_n (M := mX12_readsCompared) 1 dX12_readsCompared_88 89 rfl rfl rfl ?_
          refine pv_iconst (M := mX12_readsCompared) (v := 0) dX12_readsCompared_89 90 rfl (by decide) ?_
          have z148 : (8 : Int32).toInt = 8 := by decide
          have z149 : (0 : Int32).toInt = 0 := by decide
          refine pv_callv (M := mX12_readsCompared) (as := [.int 8, .int 0]) (st := []) (kc2 := 0) (ks2 := 0) dX12_readsCompared_90 wd1446 YX12_notes ⟨wd1448, wd67⟩ (mk_get (tl123 hT)) rfl rfl (s_X12_notes g hT I133 8 (by decide) (by decide) 0 (by decide) (by decide) (by first | omega | assumption | exact (iv_rng _).2 | exact (iv_rng _).1 | decide)) rfl rfl (Nat.le_of_ble_eq_true rfl) (by decide) rfl rfl 93 rfl (fun rv h1 q150 => ?_)
          obtain ⟨m151, n152, rfl, rfl, I153, K154, rm151⟩ := q150
          replace rm151 : NOTE (8 : Int) (0 : Int) m131 m151 := by have q_ := rm151; (try rw [z148] at q_); (try rw [z149] at q_); exact q_
          have K154c := K154
          have w155 : (m151 123 12).toInt = (m131 123 12).toInt := congrArg Int32.toInt (K154 123 12 rfl)
          have w156 : (m151 123 13).toInt = (m131 123 13).toInt := congrArg Int32.toInt (K154 123 13 rfl)
          have w157 : (m151 123 17).toInt = (m131 123 17).toInt := congrArg Int32.toInt (K154 123 17 rfl)
          have w158 : (m151 123 14).toInt = (m131 123 14).toInt := congrArg Int32.toInt (K154 123 14 rfl)
          have w159 : (m151 123 15).toInt = (m131 123 15).toInt := congrArg Int32.toInt (K154 123 15 rfl)
          have K154 := K134.trans (K154.sub (wl_sub (by decide)))
          show PV _ _ _ _ _ _ _ 93 [.ref 123, .int 8] [] _
          have kN := rm151
          have kB := NOTE_HW (d := -1) kN kb.1 (by omega) (by omega) (Or.inr (Or.inr (Or.inr ⟨by omega, by omega, rfl, by have := OPS_ge m131; omega⟩)))
          have kB : HW cb 1 m151 ∧ SLK m151 = SLK m131 - 1 := ⟨kB.1, kB.2.1⟩
          refine pv_aload_n (M := mX12_readsCompared) 0 dX12_readsCompared_93 94 rfl rfl rfl ?_
          refine pv_callv (M := mX12_readsCompared) (as := []) (st := []) (kc2 := 0) (ks2 := 0) dX12_readsCompared_94 wd1476 YX12_endsPiece ⟨wd1478, wd73⟩ (mk_get (tl123 hT)) rfl rfl (s_X12_endsPiece_vx g hT I153 cb 1 kB.1 (by omega) (by omega) (by first | omega | assumption | exact (iv_rng _).2 | exact (iv_rng _).1 | decide) (by first | omega | assumption | exact (iv_rng _).2 | exact (iv_rng _).1 | decide)) rfl rfl (Nat.le_of_ble_eq_true rfl) (by decide) rfl rfl 97 rfl (fun rv h1 q163 => ?_)
          obtain ⟨m164, n165, rfl, rfl, I166, K167, rm164⟩ := q163
          replace rm164 : (EPI cb 1 m151 m164 ∧ ((m164 123 17).toInt = 0 ∨ opv (m164 131 ((m164 123 17).toInt - 1).toNat) ≠ 10)) ∧ (m164 123 15).toInt - (m164 123 17).toInt = (m151 123 15).toInt - (m151 123 17).toInt := rm164
          have K167c := K167
          have w168 : (m164 123 12).toInt = (m151 123 12).toInt := congrArg Int32.toInt (K167 123 12 rfl)
          have w169 : (m164 123 13).toInt = (m151 123 13).toInt := congrArg Int32.toInt (K167 123 13 rfl)
          have w170 : (m164 123 14).toInt = (m151 123 14).toInt := congrArg Int32.toInt (K167 123 14 rfl)
          have K167 := K154.trans (K167.sub (wl_sub (by decide)))
          show PV _ _ _ _ _ _ _ 97 [.ref 123, .int 8] [] _
          have kE := rm164.1
          have kEo := rm164.2
          refine pv_iconst (M := mX12_readsCompared) (v := 1) dX12_readsCompared_97 98 rfl (by decide) ?_
          have z173 : (1 : Int32).toInt = 1 := by decide
          exact pv_iret (M := mX12_readsCompared) dX12_readsCompared_98 rfl rfl ⟨_, _, _, rfl, rfl, I166, K167, by decide, by decide, (Or.inr ⟨by decide, RC.of (by omega) ka ke (by omega) kb kN (by omega) (by omega) kE.1 (K167c 123 12 rfl) (K167c 123 13 rfl), by rw [CM_ok kaS kC, kbS, show (m131 123 12).toInt = (m164 123 12).toInt by omega], by omega, kE.2⟩)⟩
        · have c139 := iv_eq (X := v135.toInt) (Y := 0) c139 rfl (by decide)
          refine pv_iconst (M := mX12_readsCompared) (v := 0) dX12_readsCompared_85 86 rfl (by decide) ?_
          have z174 : (0 : Int32).toInt = 0 := by decide
          exact pv_iret (M := mX12_readsCompared) dX12_readsCompared_86 rfl rfl ⟨_, _, _, rfl, rfl, I133, K134, by decide, by decide, (Or.inl ⟨by decide, by rw [CM_ok kaS kC]; exact (kR2.resolve_right (fun q => by have q1 := q.1; omega)).2⟩)⟩
    · have c22 := iv_eq (X := v20.toInt) (Y := 60) c22 rfl (by decide)
      refine pv_bipush (M := mX12_readsCompared) (v := 7) dX12_readsCompared_18 20 rfl (by decide) ?_
      refine pv_goto (M := mX12_readsCompared) (tgt := 52) dX12_readsCompared_20 (by decide) ?_
      refine pv_istore_n (M := mX12_readsCompared) 1 (lo2 := [.ref 123, .int 7]) dX12_readsCompared_52 53 rfl rfl (by decide) rfl rfl ?_
      refine pv_iload_n (M := mX12_readsCompared) 1 dX12_readsCompared_53 54 rfl rfl rfl ?_
      refine pv_iconst (M := mX12_readsCompared) (v := (-1)) dX12_readsCompared_54 55 rfl (by decide) ?_
      refine pv_icmp_ne (M := mX12_readsCompared) (tgt := 68) dX12_readsCompared_55 58 rfl (by decide) (fun _ => ?_) (fun q => absurd q (by decide))
      refine pv_aload_n (M := mX12_readsCompared) 0 dX12_readsCompared_68 69 rfl rfl rfl ?_
      refine pv_aload_n (M := mX12_readsCompared) 0 dX12_readsCompared_69 70 rfl rfl rfl ?_
      refine iv_get (M := mX12_readsCompared) (l1 := 0) (l2 := 160) dX12_readsCompared_70 FX12 12 wd1185 (by decide) (tl123 hT) rfl I4 rfl 73 rfl (fun v176 ev176 pv176 qv176 => ?_)
      have wv176 : v176.toInt = (m2 123 12).toInt := congrArg Int32.toInt ev176
      refine pv_iconst (M := mX12_readsCompared) (v := 1) dX12_readsCompared_73 74 rfl (by decide) ?_
      refine iv_iadd (M := mX12_readsCompared) (X := v176.toInt) (Y := 1) dX12_readsCompared_74 75 rfl rfl (by decide) (by omega) (by omega) (fun v177 ev177 => ?_)
      refine iv_put (M := mX12_readsCompared) (l1 := 0) (l2 := 160) dX12_readsCompared_75 FX12 12 wd1185 (by decide) rfl (tl123 hT) rfl rfl rfl I4 rfl (by omega) (by omega) 78 rfl (fun m178 e181 I179 => ?_)
      have K180 := K5.set e181 rfl
      have w182 : (m178 123 12).toInt = v177.toInt := by rw [e181, up2_eq]
      have w183 : (m178 123 13).toInt = (m2 123 13).toInt := by rw [e181, up2_ne (by omega)]
      have w184 : (m178 123 16).toInt = (m2 123 16).toInt := by rw [e181, up2_ne (by omega)]
      have w185 : (m178 123 17).toInt = (m2 123 17).toInt := by rw [e181, up2_ne (by omega)]
      have w186 : (m178 123 14).toInt = (m2 123 14).toInt := by rw [e181, up2_ne (by omega)]
      have w187 : (m178 123 15).toInt = (m2 123 15).toInt := by rw [e181, up2_ne (by omega)]
      have kA : HW cb 1 m178 ∧ SLK m2 + 1 ≤ SLK m178 ∧ 0 ≤ SLK m2 ∧ NS m178 := ⟨(HW_move ka.1 (by rw [e181, up2_ne (by omega)]) (by rw [e181, up2_ne (by omega)]) (fun j => by rw [e181, up2_ne (by omega)]) (fun j => by rw [e181, up2_ne (by omega)])).1, by have := (HW_move (m' := m178) ka.1 (by rw [e181, up2_ne (by omega)]) (by rw [e181, up2_ne (by omega)]) (fun j => by rw [e181, up2_ne (by omega)]) (fun j => by rw [e181, up2_ne (by omega)])).2; omega, by omega, NS_eq hp4 (by omega) (fun j hj => by rw [e181, up2_ne (by omega)]; exact ka.2.2.2.2.1 j (by omega))⟩
      have ke := e181
      have kA2 := kA.2.1
      have kt78 : tR m178 = tR m := tR_eq (K180 123 13 rfl) (fun j => K180 129 j rfl)
      have kC : isC (tR m (m2 123 12).toInt) = true := isC_y (by omega)
      have kp78 : (m178 123 12).toInt = (m2 123 12).toInt + 1 := by omega
      have ko78 : (m178 123 15).toInt = (m 123 15).toInt := by omega
      refine pv_aload_n (M := mX12_readsCompared) 0 dX12_readsCompared_78 79 rfl rfl rfl ?_
      refine pv_callv (M := mX12_readsCompared) (as := []) (st := []) (kc2 := 0) (ks2 := 0) dX12_readsCompared_79 wd1425 YX12_readsSum ⟨wd1427, wd62⟩ (mk_get (tl123 hT)) rfl rfl (s_X12_readsSum_vx g hT I179 cb 1 kA.1 (by omega) (by have := kA.2.1; have := kA.2.2.1; omega) (by omega) (by omega) kA.2.2.2 (by first | omega | assumption | exact (iv_rng _).2 | exact (iv_rng _).1 | decide) (by first | omega | assumption | exact (iv_rng _).2 | exact (iv_rng _).1 | decide)) rfl rfl (Nat.le_of_ble_eq_true rfl) (by decide) rfl rfl 82 rfl (fun rv h1 q195 => ?_)
      obtain ⟨m196, n197, v200, rfl, rfl, I198, K199, pv200, qv200, rv200⟩ := q195
      replace rv200 : (v200.toInt = 0 ∧ FLT (SU (tR m178) (eo (m178 123 15).toInt) (m178 123 12).toInt) (m196 123 14).toInt) ∨ (v200.toInt = 1 ∧ RS cb (1 + 1) m178 m196 ∧ SU (tR m178) (eo (m178 123 15).toInt) (m178 123 12).toInt = (0, (m196 123 12).toInt) ∧ (m196 123 15).toInt = (m178 123 15).toInt) := rv200
      have K199c := K199
      have w201 : (m196 123 13).toInt = (m178 123 13).toInt := congrArg Int32.toInt (K199 123 13 rfl)
      have K199 := K180.trans (K199.sub (fun _ _ q => q))
      show PV _ _ _ _ _ _ _ 82 [.ref 123, .int 7] [.int v200] _
      have kR2 := rv200
      rw [kt78, ko78, kp78] at kR2
      refine pv_if_ne (M := mX12_readsCompared) (tgt := 87) dX12_readsCompared_82 85 rfl (by decide) (fun c204 => ?_) (fun c204 => ?_)
      · have c204 := iv_ne (X := v200.toInt) (Y := 0) c204 rfl (by decide)
        have kbb := (kR2.resolve_left (fun q => by have q1 := q.1; omega)).2
        have kb : RS cb 2 _ m196 := kbb.1
        have kbS := kbb.2.1
        have kbO := kbb.2.2
        have kbw := kbb.1.2.2.2.1
        have kb2 := kb.2.1
        have kb3 : (m196 123 16).toInt ≤ (m196 123 12).toInt := SLK_cm (m := m196) (by omega)
        have kb4 : (m196 123 12).toInt ≤ 160 := (I198 123 12).2
        refine pv_aload_n (M := mX12_readsCompared) 0 dX12_readsCompared_87 88 rfl rfl rfl ?_
        refine pv_iload_n (M := mX12_readsCompared) 1 dX12_readsCompared_88 89 rfl rfl rfl ?_
        refine pv_iconst (M := mX12_readsCompared) (v := 0) dX12_readsCompared_89 90 rfl (by decide) ?_
        have z213 : (7 : Int32).toInt = 7 := by decide
        have z214 : (0 : Int32).toInt = 0 := by decide
        refine pv_callv (M := mX12_readsCompared) (as := [.int 7, .int 0]) (st := []) (kc2 := 0) (ks2 := 0) dX12_readsCompared_90 wd1446 YX12_notes ⟨wd1448, wd67⟩ (mk_get (tl123 hT)) rfl rfl (s_X12_notes g hT I198 7 (by decide) (by decide) 0 (by decide) (by decide) (by first | omega | assumption | exact (iv_rng _).2 | exact (iv_rng _).1 | decide)) rfl rfl (Nat.le_of_ble_eq_true rfl) (by decide) rfl rfl 93 rfl (fun rv h1 q215 => ?_)
        obtain ⟨m216, n217, rfl, rfl, I218, K219, rm216⟩ := q215
        replace rm216 : NOTE (7 : Int) (0 : Int) m196 m216 := by have q_ := rm216; (try rw [z213] at q_); (try rw [z214] at q_); exact q_
        have K219c := K219
        have w220 : (m216 123 12).toInt = (m196 123 12).toInt := congrArg Int32.toInt (K219 123 12 rfl)
        have w221 : (m216 123 13).toInt = (m196 123 13).toInt := congrArg Int32.toInt (K219 123 13 rfl)
        have w222 : (m216 123 17).toInt = (m196 123 17).toInt := congrArg Int32.toInt (K219 123 17 rfl)
        have w223 : (m216 123 14).toInt = (m196 123 14).toInt := congrArg Int32.toInt (K219 123 14 rfl)
        have w224 : (m216 123 15).toInt = (m196 123 15).toInt := congrArg Int32.toInt (K219 123 15 rfl)
        have K219 := K199.trans (K219.sub (wl_sub (by decide)))
        show PV _ _ _ _ _ _ _ 93 [.ref 123, .int 7] [] _
        have kN := rm216
        have kB := NOTE_HW (d := -1) kN kb.1 (by omega) (by omega) (Or.inr (Or.inr (Or.inr ⟨by omega, by omega, rfl, by have := OPS_ge m196; omega⟩)))
        have kB : HW cb 1 m216 ∧ SLK m216 = SLK m196 - 1 := ⟨kB.1, kB.2.1⟩
        refine pv_aload_n (M := mX12_readsCompared) 0 dX12_readsCompared_93 94 rfl rfl rfl ?_
        refine pv_callv (M := mX12_readsCompared) (as := []) (st := []) (kc2 := 0) (ks2 := 0) dX12_readsCompared_94 wd1476 YX12_endsPiece ⟨wd1478, wd73⟩ (mk_get (tl123 hT)) rfl rfl (s_X12_endsPiece_vx g hT I218 cb 1 kB.1 (by omega) (by omega) (by first | omega | assumption | exact (iv_rng _).2 | exact (iv_rng _).1 | decide) (by first | omega | assumption | exact (iv_rng _).2 | exact (iv_rng _).1 | decide)) rfl rfl (Nat.le_of_ble_eq_true rfl) (by decide) rfl rfl 97 rfl (fun rv h1 q228 => ?_)
        obtain ⟨m229, n230, rfl, rfl, I231, K232, rm229⟩ := q228
        replace rm229 : (EPI cb 1 m216 m229 ∧ ((m229 123 17).toInt = 0 ∨ opv (m229 131 ((m229 123 17).toInt - 1).toNat) ≠ 10)) ∧ (m229 123 15).toInt - (m229 123 17).toInt = (m216 123 15).toInt - (m216 123 17).toInt := rm229
        have K232c := K232
        have w233 : (m229 123 12).toInt = (m216 123 12).toInt := congrArg Int32.toInt (K232 123 12 rfl)
        have w234 : (m229 123 13).toInt = (m216 123 13).toInt := congrArg Int32.toInt (K232 123 13 rfl)
        have w235 : (m229 123 14).toInt = (m216 123 14).toInt := congrArg Int32.toInt (K232 123 14 rfl)
        have K232 := K219.trans (K232.sub (wl_sub (by decide)))
        show PV _ _ _ _ _ _ _ 97 [.ref 123, .int 7] [] _
        have kE := rm229.1
        have kEo := rm229.2
        refine pv_iconst (M := mX12_readsCompared) (v := 1) dX12_readsCompared_97 98 rfl (by decide) ?_
        have z238 : (1 : Int32).toInt = 1 := by decide
        exact pv_iret (M := mX12_readsCompared) dX12_readsCompared_98 rfl rfl ⟨_, _, _, rfl, rfl, I231, K232, by decide, by decide, (Or.inr ⟨by decide, RC.of (by omega) ka ke (by omega) kb kN (by omega) (by omega) kE.1 (K232c 123 12 rfl) (K232c 123 13 rfl), by rw [CM_ok kaS kC, kbS, show (m196 123 12).toInt = (m229 123 12).toInt by omega], by omega, kE.2⟩)⟩
      · have c204 := iv_eq (X := v200.toInt) (Y := 0) c204 rfl (by decide)
        refine pv_iconst (M := mX12_readsCompared) (v := 0) dX12_readsCompared_85 86 rfl (by decide) ?_
        have z239 : (0 : Int32).toInt = 0 := by decide
        exact pv_iret (M := mX12_readsCompared) dX12_readsCompared_86 rfl rfl ⟨_, _, _, rfl, rfl, I198, K199, by decide, by decide, (Or.inl ⟨by decide, by rw [CM_ok kaS kC]; exact (kR2.resolve_right (fun q => by have q1 := q.1; omega)).2⟩)⟩
  · have c9 := iv_eq (X := v6.toInt) (Y := 0) c9 rfl (by decide)
    refine pv_iconst (M := mX12_readsCompared) (v := 0) dX12_readsCompared_7 8 rfl (by decide) ?_
    have z240 : (0 : Int32).toInt = 0 := by decide
    exact pv_iret (M := mX12_readsCompared) dX12_readsCompared_8 rfl rfl ⟨_, _, _, rfl, rfl, I4, K5, by decide, by decide, (Or.inl ⟨by decide, CM_fl (kR.resolve_right (fun q => by have q1 := q.1; omega)).2⟩)⟩

set_option maxHeartbeats 2000000 in
set_option maxRecDepth 20000 in
theorem s_X12_readsCondition_vb (g : pv_G) {T : List mv_T} {m : Nat → Nat → Int32} {n : Nat → Nat → Int64} {r : Nat → Value} {m0 : Nat → Nat → Int32} (hT : TX T) (I : IV BB m) (Kp : fr (wl [(123, 123, some 12), (123, 123, some 14), (123, 123, some 15), (123, 123, some 16), (123, 123, some 17), (123, 123, some 19), (130, 130, none), (131, 131, none)]) m0 m) (cb : Int) (p40 : Int) (kk : ∀ (m2 : Nat → Nat → Int32) (n2 : Nat → Nat → Int64), QC cb 0 m0 m2 → QS (tR m0) (CND (tR m0) (m0 123 12).toInt) m2 → IV BB m2 → fr (wl [(123, 123, some 12), (123, 123, some 14), (123, 123, some 15), (123, 123, some 16), (123, 123, some 17), (123, 123, some 19), (130, 130, none), (131, 131, none)]) m0 m2 → p40 + 1 ≤ (m2 123 12).toInt → PV none g mX12_readsCondition (sqI T BB (wl [(123, 123, some 12), (123, 123, some 14), (123, 123, some 15), (123, 123, some 16), (123, 123, some 17), (123, 123, some 19), (130, 130, none), (131, 131, none)]) r m0 0 1 (fun m' v => (v.toInt = 0 ∧ FLT (CND (tR m0) (m0 123 12).toInt) (m' 123 14).toInt) ∨ (v.toInt = 1 ∧ (WFc (m' 130) cb.toNat (m' 123 16).toInt.toNat ∧ KB cb m0 m' ∧ 0 ≤ SLK m' ∧ cb ≤ (m' 123 16).toInt ∧ (m0 123 12).toInt ≤ (m' 123 12).toInt ∧ (m' 123 12).toInt ≤ (m' 123 13).toInt ∧ (m' 123 13).toInt = (m0 123 13).toInt ∧ (m' 123 17).toInt = 0) ∧ CND (tR m0) (m0 123 12).toInt = (0, (m' 123 12).toInt)))) 7 0 0 40 [.ref 123] [] (mk T m2 n2 r)) (hp0 : QC cb 1 m0 m) (hp1 : PSs (tR m0) (CND (tR m0) (m0 123 12).toInt) m) (hp2 : opv (m 131 ((m 123 17).toInt - 1).toNat) ≠ 10) (hp3 : p40 ≤ (m 123 12).toInt) : PV none g mX12_readsCondition (sqI T BB (wl [(123, 123, some 12), (123, 123, some 14), (123, 123, some 15), (123, 123, some 16), (123, 123, some 17), (123, 123, some 19), (130, 130, none), (131, 131, none)]) r m0 0 1 (fun m' v => (v.toInt = 0 ∧ FLT (CND (tR m0) (m0 123 12).toInt) (m' 123 14).toInt) ∨ (v.toInt = 1 ∧ (WFc (m' 130) cb.toNat (m' 123 16).toInt.toNat ∧ KB cb m0 m' ∧ 0 ≤ SLK m' ∧ cb ≤ (m' 123 16).toInt ∧ (m0 123 12).toInt ≤ (m' 123 12).toInt ∧ (m' 123 12).toInt ≤ (m' 123 13).toInt ∧ (m' 123 13).toInt = (m0 123 13).toInt ∧ (m' 123 17).toInt = 0) ∧ CND (tR m0) (m0 123 12).toInt = (0, (m' 123 12).toInt)))) 7 0 0 92 [.ref 123] [] (mk T m n r) := by
  have z231 : 0 ≤ (m 123 12).toInt ∧ (m 123 12).toInt ≤ 160 := I 123 12
  have z232 : 0 ≤ (m 123 13).toInt ∧ (m 123 13).toInt ≤ 160 := I 123 13
  have z233 : 0 ≤ (m 123 16).toInt ∧ (m 123 16).toInt ≤ 180 := I 123 16
  have z234 : 0 ≤ (m 123 17).toInt ∧ (m 123 17).toInt ≤ 180 := I 123 17
  have lp6 : ∀ (fuel5 : Nat)  (m1 : Nat → Nat → Int32) (n2 : Nat → Nat → Int64), (QC cb 1 m0 m1) → (p40 ≤ (m1 123 12).toInt) → (PSs (tR m0) (CND (tR m0) (m0 123 12).toInt) m1) → (opv (m1 131 ((m1 123 17).toInt - 1).toNat) ≠ 10) → IV BB m1 → fr (wl [(123, 123, some 12), (123, 123, some 14), (123, 123, some 15), (123, 123, some 16), (123, 123, some 17), (123, 123, some 19), (130, 130, none), (131, 131, none)]) m0 m1 → ((160 - (m1 123 12).toInt) : Int).toNat < fuel5 → PV none g mX12_readsCondition (sqI T BB (wl [(123, 123, some 12), (123, 123, some 14), (123, 123, some 15), (123, 123, some 16), (123, 123, some 17), (123, 123, some 19), (130, 130, none), (131, 131, none)]) r m0 0 1 (fun m' v => (v.toInt = 0 ∧ FLT (CND (tR m0) (m0 123 12).toInt) (m' 123 14).toInt) ∨ (v.toInt = 1 ∧ (WFc (m' 130) cb.toNat (m' 123 16).toInt.toNat ∧ KB cb m0 m' ∧ 0 ≤ SLK m' ∧ cb ≤ (m' 123 16).toInt ∧ (m0 123 12).toInt ≤ (m' 123 12).toInt ∧ (m' 123 12).toInt ≤ (m' 123 13).toInt ∧ (m' 123 13).toInt = (m0 123 13).toInt ∧ (m' 123 17).toInt = 0) ∧ CND (tR m0) (m0 123 12).toInt = (0, (m' 123 12).toInt)))) 7 0 0 92 [.ref 123] [] (mk T m1 n2 r) := by
    intro fuel5
    induction fuel5 with
    | zero => intro  m1 n2 b8 b9 b10 b11 I3 K4 z12; omega
    | succ fuel5 ih7 =>
      intro  m1 n2 b8 b9 b10 b11 I3 K4 z12
      have z13 : 0 ≤ (m1 123 12).toInt ∧ (m1 123 12).toInt ≤ 160 := I3 123 12
      have z14 : 0 ≤ (m1 123 13).toInt ∧ (m1 123 13).toInt ≤ 160 := I3 123 13
      have z15 : 0 ≤ (m1 123 16).toInt ∧ (m1 123 16).toInt ≤ 180 := I3 123 16
      have z16 : 0 ≤ (m1 123 17).toInt ∧ (m1 123 17).toInt ≤ 180 := I3 123 17
      have kg := (show QC cb 1 m0 m1 by assumption)
      have kg1 := kg.2.1
      have kg2 : (m1 123 16).toInt ≤ (m1 123 12).toInt := SLK_cm kg.2.1
      have kg3 := kg.2.2.2.1
      have kg4 := kg.2.2.2.2.1
      have kg5 := kg.2.2.2.2.2.2.2.1
      have kg6 := kg.2.2.2.2.2.2.2.2.1
      have kg7 := kg.2.2.2.2.2.2.2.2.2
      have kgp := (show PSs (tR m0) (CND (tR m0) (m0 123 12).toInt) m1 by assumption)
      have kgt := (show opv (m1 131 ((m1 123 17).toInt - 1).toNat) ≠ 10 by assumption)
      have kt92 : tR m1 = tR m0 := tR_eq (K4 123 13 rfl) (fun j => K4 129 j rfl)
      have kTX : TXT (tR m0) (m1 123 13).toInt := by rw [← kt92]; exact TXT_R I3
      have kpo := kgp.1.1
      have kpc := CON_ge m1
      have kpc2 := kgp.2.2
      refine pv_aload_n (M := mX12_readsCondition) 0 dX12_readsCondition_92 93 rfl rfl rfl ?_
      refine pv_callv (M := mX12_readsCondition) (as := []) (st := []) (kc2 := 0) (ks2 := 0) dX12_readsCondition_93 wd1417 YX12_here ⟨wd1419, wd60⟩ (mk_get (tl123 hT)) rfl rfl (s_X12_here g hT I3) rfl rfl (Nat.le_of_ble_eq_true rfl) (by decide) rfl rfl 96 rfl (fun rv h1 q32 => ?_)
      obtain ⟨v33, rfl, rfl, pv33, qv33, rv33⟩ := q32
      replace rv33 : v33.toInt = hereV m1 ∧ (v33.toInt = -1 ∨ (m1 123 12).toInt < (m1 123 13).toInt) := rv33
      show PV _ _ _ _ _ _ _ 96 [.ref 123] [.int v33] _
      have k96 : v33.toInt = tR m0 (m1 123 12).toInt := rv33.1.trans (congrFun kt92 _)
      refine pv_bipush (M := mX12_readsCondition) (v := 41) dX12_readsCondition_96 98 rfl (by decide) ?_
      refine pv_icmp_ne (M := mX12_readsCondition) (tgt := 152) dX12_readsCondition_98 101 rfl (by decide) (fun c35 => ?_) (fun c35 => ?_)
      · have c35 := iv_ne (X := v33.toInt) (Y := 41) c35 rfl (by decide)
        refine pv_aload_n (M := mX12_readsCondition) 0 dX12_readsCondition_152 153 rfl rfl rfl ?_
        refine pv_callv (M := mX12_readsCondition) (as := []) (st := []) (kc2 := 0) (ks2 := 0) dX12_readsCondition_153 wd1417 YX12_here ⟨wd1419, wd60⟩ (mk_get (tl123 hT)) rfl rfl (s_X12_here g hT I3) rfl rfl (Nat.le_of_ble_eq_true rfl) (by decide) rfl rfl 156 rfl (fun rv h1 q36 => ?_)
        obtain ⟨v37, rfl, rfl, pv37, qv37, rv37⟩ := q36
        replace rv37 : v37.toInt = hereV m1 ∧ (v37.toInt = -1 ∨ (m1 123 12).toInt < (m1 123 13).toInt) := rv37
        have sv37 : v33 = v37 := Int32.toInt_inj.mp (rv33.1.trans rv37.1.symm)
        subst sv37
        clear pv37 qv37 rv37
        show PV _ _ _ _ _ _ _ 156 [.ref 123] [.int v33] _
        have k156 : v33.toInt = tR m0 (m1 123 12).toInt := rv33.1.trans (congrFun kt92 _)
        refine pv_bipush (M := mX12_readsCondition) (v := 38) dX12_readsCondition_156 158 rfl (by decide) ?_
        refine pv_icmp_eq (M := mX12_readsCondition) (tgt := 180) dX12_readsCondition_158 161 rfl (by decide) (fun c39 => ?_) (fun c39 => ?_)
        · have c39 := iv_eq (X := v33.toInt) (Y := 38) c39 rfl (by decide)
          have kB : isB (tR m0 (m1 123 12).toInt) = true := isB_y (by omega)
          refine pv_aload_n (M := mX12_readsCondition) 0 dX12_readsCondition_180 181 rfl rfl rfl ?_
          refine pv_aload_n (M := mX12_readsCondition) 0 dX12_readsCondition_181 182 rfl rfl rfl ?_
          refine pv_callv (M := mX12_readsCondition) (as := []) (st := [.ref 123]) (kc2 := 0) (ks2 := 0) dX12_readsCondition_182 wd1417 YX12_here ⟨wd1419, wd60⟩ (mk_get (tl123 hT)) rfl rfl (s_X12_here g hT I3) rfl rfl (Nat.le_of_ble_eq_true rfl) (by decide) rfl rfl 185 rfl (fun rv h1 q41 => ?_)
          obtain ⟨v42, rfl, rfl, pv42, qv42, rv42⟩ := q41
          replace rv42 : v42.toInt = hereV m1 ∧ (v42.toInt = -1 ∨ (m1 123 12).toInt < (m1 123 13).toInt) := rv42
          have sv42 : v33 = v42 := Int32.toInt_inj.mp (rv33.1.trans rv42.1.symm)
          subst sv42
          clear pv42 qv42 rv42
          show PV _ _ _ _ _ _ _ 185 [.ref 123] [.int v33, .ref 123] _
          have k185 : v33.toInt = tR m0 (m1 123 12).toInt := rv33.1.trans (congrFun kt92 _)
          refine pv_bipush (M := mX12_readsCondition) (v := 124) dX12_readsCondition_185 187 rfl (by decide) ?_
          refine pv_icmp_ne (M := mX12_readsCondition) (tgt := 194) dX12_readsCondition_187 190 rfl (by decide) (fun c44 => ?_) (fun c44 => ?_)
          · have c44 := iv_ne (X := v33.toInt) (Y := 124) c44 rfl (by decide)
            refine pv_iconst (M := mX12_readsCondition) (v := 0) dX12_readsCondition_194 195 rfl (by decide) ?_
            have z45 : (0 : Int32).toInt = 0 := by decide
            refine pv_callv (M := mX12_readsCondition) (as := [.int 0]) (st := []) (kc2 := 0) (ks2 := 0) dX12_readsCondition_195 wd1480 YX12_lands ⟨wd1482, wd74⟩ (mk_get (tl123 hT)) rfl rfl (s_X12_lands g hT I3 0 (by decide) (by decide) cb 1 kg.1 (by rw [NS_ops kg.2.2.2.2.2.1]; decide) kg.2.1) rfl rfl (Nat.le_of_ble_eq_true rfl) (by decide) rfl rfl 198 rfl (fun rv h1 q46 => ?_)
            obtain ⟨m47, n48, rfl, rfl, I49, K50, rm47⟩ := q46
            replace rm47 : LDI cb 1 m1 m47 ∧ ((0 : Int) ≠ 0 → (m47 123 17).toInt = 0 ∨ (opv (m47 131 ((m47 123 17).toInt - 1).toNat) ≠ 11 ∧ opv (m47 131 ((m47 123 17).toInt - 1).toNat) ≠ 12)) := by have q_ := rm47; (try rw [z45] at q_); exact q_
            have K50c := K50
            have w51 : (m47 123 12).toInt = (m1 123 12).toInt := congrArg Int32.toInt (K50 123 12 rfl)
            have w52 : (m47 123 13).toInt = (m1 123 13).toInt := congrArg Int32.toInt (K50 123 13 rfl)
            have w53 : (m47 123 16).toInt = (m1 123 16).toInt := congrArg Int32.toInt (K50 123 16 rfl)
            have w54 : (m47 123 14).toInt = (m1 123 14).toInt := congrArg Int32.toInt (K50 123 14 rfl)
            have w55 : (m47 123 15).toInt = (m1 123 15).toInt := congrArg Int32.toInt (K50 123 15 rfl)
            have K50 := K4.trans (K50.sub (wl_sub (by decide)))
            show PV _ _ _ _ _ _ _ 198 [.ref 123] [] _
            have kl := rm47
            have kJ := QC.lnd kg kl.1 (K50c 123 12 rfl) (K50c 123 13 rfl)
            have kJ1 := kJ.2.1
            have kJ2 : (m47 123 16).toInt ≤ (m47 123 12).toInt := SLK_cm kJ.2.1
            have kJ3 := kJ.2.2.2.1
            have kJ4 := kJ.2.2.2.2.1
            have kJ6 := kJ.2.2.2.2.2.2.2.2.1
            have kJ7 := kJ.2.2.2.2.2.2.2.2.2
            have kJP := PSs_lands kgp kl.1 (congrArg Int32.toInt (K50c 123 15 rfl)) (congrArg Int32.toInt (K50c 123 12 rfl))
            have kJT := (LDI_top kgp.2.1 kgt kl.1).resolve_right (by omega)
            have kt198 : tR m47 = tR m0 := tR_eq (K50 123 13 rfl) (fun j => K50 129 j rfl)
            refine pv_aload_n (M := mX12_readsCondition) 0 dX12_readsCondition_198 199 rfl rfl rfl ?_
            refine pv_aload_n (M := mX12_readsCondition) 0 dX12_readsCondition_199 200 rfl rfl rfl ?_
            refine pv_callv (M := mX12_readsCondition) (as := []) (st := [.ref 123]) (kc2 := 0) (ks2 := 0) dX12_readsCondition_200 wd1417 YX12_here ⟨wd1419, wd60⟩ (mk_get (tl123 hT)) rfl rfl (s_X12_here g hT I49) rfl rfl (Nat.le_of_ble_eq_true rfl) (by decide) rfl rfl 203 rfl (fun rv h1 q67 => ?_)
            obtain ⟨v68, rfl, rfl, pv68, qv68, rv68⟩ := q67
            replace rv68 : v68.toInt = hereV m47 ∧ (v68.toInt = -1 ∨ (m47 123 12).toInt < (m47 123 13).toInt) := rv68
            have sv68 : v33 = v68 := Int32.toInt_inj.mp (rv33.1.trans ((show hereV m47 = hereV m1 by unfold hereV; rw [K50c 123 12 rfl, K50c 123 13 rfl, K50c 129 (m1 123 12).toInt.toNat rfl]).symm.trans rv68.1.symm))
            subst sv68
            clear pv68 qv68 rv68
            show PV _ _ _ _ _ _ _ 203 [.ref 123] [.int v33, .ref 123] _
            refine pv_bipush (M := mX12_readsCondition) (v := 38) dX12_readsCondition_203 205 rfl (by decide) ?_
            refine pv_icmp_ne (M := mX12_readsCondition) (tgt := 213) dX12_readsCondition_205 208 rfl (by decide) (fun c69 => ?_) (fun c69 => ?_)
            · have c69 := iv_ne (X := v33.toInt) (Y := 38) c69 rfl (by decide)
              omega
            · have c69 := iv_eq (X := v33.toInt) (Y := 38) c69 rfl (by decide)
              refine pv_bipush (M := mX12_readsCondition) (v := 11) dX12_readsCondition_208 210 rfl (by decide) ?_
              refine pv_goto (M := mX12_readsCondition) (tgt := 215) dX12_readsCondition_210 (by decide) ?_
              have z70 : (11 : Int32).toInt = 11 := by decide
              refine pv_callv (M := mX12_readsCondition) (as := [.int 11]) (st := []) (kc2 := 0) (ks2 := 0) dX12_readsCondition_215 wd1484 YX12_jumps ⟨wd1486, wd75⟩ (mk_get (tl123 hT)) rfl rfl (s_X12_jumps g hT I49 11 (by decide) (by decide) cb 1 kJ.1 (by omega) kJ.2.1 (by omega) (by omega)) rfl rfl (Nat.le_of_ble_eq_true rfl) (by decide) rfl rfl 218 rfl (fun rv h1 q71 => ?_)
              obtain ⟨m72, n73, rfl, rfl, I74, K75, rm72⟩ := q71
              replace rm72 : JPI cb (1 - 1) m47 m72 := rm72
              have K75c := K75
              have w76 : (m72 123 13).toInt = (m47 123 13).toInt := congrArg Int32.toInt (K75 123 13 rfl)
              have w77 : (m72 123 14).toInt = (m47 123 14).toInt := congrArg Int32.toInt (K75 123 14 rfl)
              have w78 : (m72 123 15).toInt = (m47 123 15).toInt := congrArg Int32.toInt (K75 123 15 rfl)
              have K75 := K50.trans (K75.sub (wl_sub (by decide)))
              show PV _ _ _ _ _ _ _ 218 [.ref 123] [] _
              have kj : JPI cb 0 _ m72 := rm72
              have kqJ := PSs_jump (m := m47) (m2 := m72) kJP (by omega) kTX (by omega) (by rw [show (m47 123 12).toInt = (m1 123 12).toInt by omega]; exact kB) kJT kj (congrArg Int32.toInt (K75c 123 15 rfl))
              refine pv_goto (M := mX12_readsCondition) (tgt := 40) dX12_readsCondition_218 (by decide) ?_
              have kbk : QC cb 0 m0 m72 := QC.jmp kJ kj (by omega)
              have kbm : p40 + 1 ≤ (m72 123 12).toInt := by have := kj.2.2.2.2.2.2.1; omega
              exact kk m72 n73 kbk kqJ I74 K75 kbm
          · have c44 := iv_eq (X := v33.toInt) (Y := 124) c44 rfl (by decide)
            omega
        · have c39 := iv_ne (X := v33.toInt) (Y := 38) c39 rfl (by decide)
          refine pv_aload_n (M := mX12_readsCondition) 0 dX12_readsCondition_161 162 rfl rfl rfl ?_
          refine pv_callv (M := mX12_readsCondition) (as := []) (st := []) (kc2 := 0) (ks2 := 0) dX12_readsCondition_162 wd1417 YX12_here ⟨wd1419, wd60⟩ (mk_get (tl123 hT)) rfl rfl (s_X12_here g hT I3) rfl rfl (Nat.le_of_ble_eq_true rfl) (by decide) rfl rfl 165 rfl (fun rv h1 q84 => ?_)
          obtain ⟨v85, rfl, rfl, pv85, qv85, rv85⟩ := q84
          replace rv85 : v85.toInt = hereV m1 ∧ (v85.toInt = -1 ∨ (m1 123 12).toInt < (m1 123 13).toInt) := rv85
          have sv85 : v33 = v85 := Int32.toInt_inj.mp (rv33.1.trans rv85.1.symm)
          subst sv85
          clear pv85 qv85 rv85
          show PV _ _ _ _ _ _ _ 165 [.ref 123] [.int v33] _
          have k165 : v33.toInt = tR m0 (m1 123 12).toInt := rv33.1.trans (congrFun kt92 _)
          refine pv_bipush (M := mX12_readsCondition) (v := 124) dX12_readsCondition_165 167 rfl (by decide) ?_
          refine pv_icmp_eq (M := mX12_readsCondition) (tgt := 180) dX12_readsCondition_167 170 rfl (by decide) (fun c87 => ?_) (fun c87 => ?_)
          · have c87 := iv_eq (X := v33.toInt) (Y := 124) c87 rfl (by decide)
            have kB : isB (tR m0 (m1 123 12).toInt) = true := isB_y (by omega)
            refine pv_aload_n (M := mX12_readsCondition) 0 dX12_readsCondition_180 181 rfl rfl rfl ?_
            refine pv_aload_n (M := mX12_readsCondition) 0 dX12_readsCondition_181 182 rfl rfl rfl ?_
            refine pv_callv (M := mX12_readsCondition) (as := []) (st := [.ref 123]) (kc2 := 0) (ks2 := 0) dX12_readsCondition_182 wd1417 YX12_here ⟨wd1419, wd60⟩ (mk_get (tl123 hT)) rfl rfl (s_X12_here g hT I3) rfl rfl (Nat.le_of_ble_eq_true rfl) (by decide) rfl rfl 185 rfl (fun rv h1 q89 => ?_)
            obtain ⟨v90, rfl, rfl, pv90, qv90, rv90⟩ := q89
            replace rv90 : v90.toInt = hereV m1 ∧ (v90.toInt = -1 ∨ (m1 123 12).toInt < (m1 123 13).toInt) := rv90
            have sv90 : v33 = v90 := Int32.toInt_inj.mp (rv33.1.trans rv90.1.symm)
            subst sv90
            clear pv90 qv90 rv90
            show PV _ _ _ _ _ _ _ 185 [.ref 123] [.int v33, .ref 123] _
            have k185 : v33.toInt = tR m0 (m1 123 12).toInt := rv33.1.trans (congrFun kt92 _)
            refine pv_bipush (M := mX12_readsCondition) (v := 124) dX12_readsCondition_185 187 rfl (by decide) ?_
            refine pv_icmp_ne (M := mX12_readsCondition) (tgt := 194) dX12_readsCondition_187 190 rfl (by decide) (fun c92 => ?_) (fun c92 => ?_)
            · have c92 := iv_ne (X := v33.toInt) (Y := 124) c92 rfl (by decide)
              omega
            · have c92 := iv_eq (X := v33.toInt) (Y := 124) c92 rfl (by decide)
              refine pv_iconst (M := mX12_readsCondition) (v := 1) dX12_readsCondition_190 191 rfl (by decide) ?_
              refine pv_goto (M := mX12_readsCondition) (tgt := 195) dX12_readsCondition_191 (by decide) ?_
              have z93 : (1 : Int32).toInt = 1 := by decide
              refine pv_callv (M := mX12_readsCondition) (as := [.int 1]) (st := []) (kc2 := 0) (ks2 := 0) dX12_readsCondition_195 wd1480 YX12_lands ⟨wd1482, wd74⟩ (mk_get (tl123 hT)) rfl rfl (s_X12_lands g hT I3 1 (by decide) (by decide) cb 1 kg.1 (by rw [NS_ops kg.2.2.2.2.2.1]; decide) kg.2.1) rfl rfl (Nat.le_of_ble_eq_true rfl) (by decide) rfl rfl 198 rfl (fun rv h1 q94 => ?_)
              obtain ⟨m95, n96, rfl, rfl, I97, K98, rm95⟩ := q94
              replace rm95 : LDI cb 1 m1 m95 ∧ ((1 : Int) ≠ 0 → (m95 123 17).toInt = 0 ∨ (opv (m95 131 ((m95 123 17).toInt - 1).toNat) ≠ 11 ∧ opv (m95 131 ((m95 123 17).toInt - 1).toNat) ≠ 12)) := by have q_ := rm95; (try rw [z93] at q_); exact q_
              have K98c := K98
              have w99 : (m95 123 12).toInt = (m1 123 12).toInt := congrArg Int32.toInt (K98 123 12 rfl)
              have w100 : (m95 123 13).toInt = (m1 123 13).toInt := congrArg Int32.toInt (K98 123 13 rfl)
              have w101 : (m95 123 16).toInt = (m1 123 16).toInt := congrArg Int32.toInt (K98 123 16 rfl)
              have w102 : (m95 123 14).toInt = (m1 123 14).toInt := congrArg Int32.toInt (K98 123 14 rfl)
              have w103 : (m95 123 15).toInt = (m1 123 15).toInt := congrArg Int32.toInt (K98 123 15 rfl)
              have K98 := K4.trans (K98.sub (wl_sub (by decide)))
              show PV _ _ _ _ _ _ _ 198 [.ref 123] [] _
              have kl := rm95
              have kJ := QC.lnd kg kl.1 (K98c 123 12 rfl) (K98c 123 13 rfl)
              have kJ1 := kJ.2.1
              have kJ2 : (m95 123 16).toInt ≤ (m95 123 12).toInt := SLK_cm kJ.2.1
              have kJ3 := kJ.2.2.2.1
              have kJ4 := kJ.2.2.2.2.1
              have kJ6 := kJ.2.2.2.2.2.2.2.2.1
              have kJ7 := kJ.2.2.2.2.2.2.2.2.2
              have kJP := PSs_lands kgp kl.1 (congrArg Int32.toInt (K98c 123 15 rfl)) (congrArg Int32.toInt (K98c 123 12 rfl))
              have kJT := (LDI_top kgp.2.1 kgt kl.1).resolve_right (by omega)
              have kt198 : tR m95 = tR m0 := tR_eq (K98 123 13 rfl) (fun j => K98 129 j rfl)
              refine pv_aload_n (M := mX12_readsCondition) 0 dX12_readsCondition_198 199 rfl rfl rfl ?_
              refine pv_aload_n (M := mX12_readsCondition) 0 dX12_readsCondition_199 200 rfl rfl rfl ?_
              refine pv_callv (M := mX12_readsCondition) (as := []) (st := [.ref 123]) (kc2 := 0) (ks2 := 0) dX12_readsCondition_200 wd1417 YX12_here ⟨wd1419, wd60⟩ (mk_get (tl123 hT)) rfl rfl (s_X12_here g hT I97) rfl rfl (Nat.le_of_ble_eq_true rfl) (by decide) rfl rfl 203 rfl (fun rv h1 q115 => ?_)
              obtain ⟨v116, rfl, rfl, pv116, qv116, rv116⟩ := q115
              replace rv116 : v116.toInt = hereV m95 ∧ (v116.toInt = -1 ∨ (m95 123 12).toInt < (m95 123 13).toInt) := rv116
              have sv116 : v33 = v116 := Int32.toInt_inj.mp (rv33.1.trans ((show hereV m95 = hereV m1 by unfold hereV; rw [K98c 123 12 rfl, K98c 123 13 rfl, K98c 129 (m1 123 12).toInt.toNat rfl]).symm.trans rv116.1.symm))
              subst sv116
              clear pv116 qv116 rv116
              show PV _ _ _ _ _ _ _ 203 [.ref 123] [.int v33, .ref 123] _
              refine pv_bipush (M := mX12_readsCondition) (v := 38) dX12_readsCondition_203 205 rfl (by decide) ?_
              refine pv_icmp_ne (M := mX12_readsCondition) (tgt := 213) dX12_readsCondition_205 208 rfl (by decide) (fun c117 => ?_) (fun c117 => ?_)
              · have c117 := iv_ne (X := v33.toInt) (Y := 38) c117 rfl (by decide)
                refine pv_bipush (M := mX12_readsCondition) (v := 12) dX12_readsCondition_213 215 rfl (by decide) ?_
                have z118 : (12 : Int32).toInt = 12 := by decide
                refine pv_callv (M := mX12_readsCondition) (as := [.int 12]) (st := []) (kc2 := 0) (ks2 := 0) dX12_readsCondition_215 wd1484 YX12_jumps ⟨wd1486, wd75⟩ (mk_get (tl123 hT)) rfl rfl (s_X12_jumps g hT I97 12 (by decide) (by decide) cb 1 kJ.1 (by omega) kJ.2.1 (by omega) (by omega)) rfl rfl (Nat.le_of_ble_eq_true rfl) (by decide) rfl rfl 218 rfl (fun rv h1 q119 => ?_)
                obtain ⟨m120, n121, rfl, rfl, I122, K123, rm120⟩ := q119
                replace rm120 : JPI cb (1 - 1) m95 m120 := rm120
                have K123c := K123
                have w124 : (m120 123 13).toInt = (m95 123 13).toInt := congrArg Int32.toInt (K123 123 13 rfl)
                have w125 : (m120 123 14).toInt = (m95 123 14).toInt := congrArg Int32.toInt (K123 123 14 rfl)
                have w126 : (m120 123 15).toInt = (m95 123 15).toInt := congrArg Int32.toInt (K123 123 15 rfl)
                have K123 := K98.trans (K123.sub (wl_sub (by decide)))
                show PV _ _ _ _ _ _ _ 218 [.ref 123] [] _
                have kj : JPI cb 0 _ m120 := rm120
                have kqJ := PSs_jump (m := m95) (m2 := m120) kJP (by omega) kTX (by omega) (by rw [show (m95 123 12).toInt = (m1 123 12).toInt by omega]; exact kB) kJT kj (congrArg Int32.toInt (K123c 123 15 rfl))
                refine pv_goto (M := mX12_readsCondition) (tgt := 40) dX12_readsCondition_218 (by decide) ?_
                have kbk : QC cb 0 m0 m120 := QC.jmp kJ kj (by omega)
                have kbm : p40 + 1 ≤ (m120 123 12).toInt := by have := kj.2.2.2.2.2.2.1; omega
                exact kk m120 n121 kbk kqJ I122 K123 kbm
              · have c117 := iv_eq (X := v33.toInt) (Y := 38) c117 rfl (by decide)
                omega
          · have c87 := iv_ne (X := v33.toInt) (Y := 124) c87 rfl (by decide)
            refine pv_aload_n (M := mX12_readsCondition) 0 dX12_readsCondition_170 171 rfl rfl rfl ?_
            refine pv_iconst (M := mX12_readsCondition) (v := 1) dX12_readsCondition_171 172 rfl (by decide) ?_
            refine pv_aload_n (M := mX12_readsCondition) 0 dX12_readsCondition_172 173 rfl rfl rfl ?_
            refine iv_get (M := mX12_readsCondition) (l1 := 0) (l2 := 160) dX12_readsCondition_173 FX12 12 wd1185 (by decide) (tl123 hT) rfl I3 rfl 176 rfl (fun v132 ev132 pv132 qv132 => ?_)
            have wv132 : v132.toInt = (m1 123 12).toInt := congrArg Int32.toInt ev132
            have z133 : (1 : Int32).toInt = 1 := by decide
            refine pv_callv (M := mX12_readsCondition) (as := [.int 1, .int v132]) (st := []) (kc2 := 0) (ks2 := 0) dX12_readsCondition_176 wd1421 YX12_wrongAt ⟨wd1423, wd61⟩ (mk_get (tl123 hT)) rfl rfl (s_X12_wrongAt_vx g hT I3 1 (by decide) (by decide) v132 (by omega) (by omega)) rfl rfl (Nat.le_of_ble_eq_true rfl) (by decide) rfl rfl 179 rfl (fun rv h1 q134 => ?_)
            obtain ⟨m135, n136, v139, rfl, rfl, I137, K138, pv139, qv139, rv139⟩ := q134
            replace rv139 : (m135 123 14).toInt = -1000 * (1 : Int) - v132.toInt := by have q_ := rv139; (try rw [z133] at q_); exact q_
            have K138c := K138
            have w140 : (m135 123 12).toInt = (m1 123 12).toInt := congrArg Int32.toInt (K138 123 12 rfl)
            have w141 : (m135 123 13).toInt = (m1 123 13).toInt := congrArg Int32.toInt (K138 123 13 rfl)
            have w142 : (m135 123 16).toInt = (m1 123 16).toInt := congrArg Int32.toInt (K138 123 16 rfl)
            have w143 : (m135 123 17).toInt = (m1 123 17).toInt := congrArg Int32.toInt (K138 123 17 rfl)
            have w144 : (m135 123 15).toInt = (m1 123 15).toInt := congrArg Int32.toInt (K138 123 15 rfl)
            have K138 := K4.trans (K138.sub (wl_sub (by decide)))
            show PV _ _ _ _ _ _ _ 179 [.ref 123] [.int v139] _
            exact pv_iret (M := mX12_readsCondition) dX12_readsCondition_179 rfl (iv_nz (by omega) (by omega)) ⟨_, _, _, rfl, rfl, I137, K138, by omega, by omega, (Or.inl ⟨by omega, PSs_wrong kgp (by omega) (isB_no (by omega) (by omega)) (by omega) kgt (by omega)⟩)⟩
      · have c35 := iv_eq (X := v33.toInt) (Y := 41) c35 rfl (by decide)
        have k41 : tR m0 (m1 123 12).toInt = 41 := by omega
        refine pv_aload_n (M := mX12_readsCondition) 0 dX12_readsCondition_101 102 rfl rfl rfl ?_
        refine pv_iconst (M := mX12_readsCondition) (v := 1) dX12_readsCondition_102 103 rfl (by decide) ?_
        have z146 : (1 : Int32).toInt = 1 := by decide
        refine pv_callv (M := mX12_readsCondition) (as := [.int 1]) (st := []) (kc2 := 0) (ks2 := 0) dX12_readsCondition_103 wd1480 YX12_lands ⟨wd1482, wd74⟩ (mk_get (tl123 hT)) rfl rfl (s_X12_lands g hT I3 1 (by decide) (by decide) cb 1 kg.1 (by rw [NS_ops kg.2.2.2.2.2.1]; decide) kg.2.1) rfl rfl (Nat.le_of_ble_eq_true rfl) (by decide) rfl rfl 106 rfl (fun rv h1 q147 => ?_)
        obtain ⟨m148, n149, rfl, rfl, I150, K151, rm148⟩ := q147
        replace rm148 : LDI cb 1 m1 m148 ∧ ((1 : Int) ≠ 0 → (m148 123 17).toInt = 0 ∨ (opv (m148 131 ((m148 123 17).toInt - 1).toNat) ≠ 11 ∧ opv (m148 131 ((m148 123 17).toInt - 1).toNat) ≠ 12)) := by have q_ := rm148; (try rw [z146] at q_); exact q_
        have K151c := K151
        have w152 : (m148 123 12).toInt = (m1 123 12).toInt := congrArg Int32.toInt (K151 123 12 rfl)
        have w153 : (m148 123 13).toInt = (m1 123 13).toInt := congrArg Int32.toInt (K151 123 13 rfl)
        have w154 : (m148 123 16).toInt = (m1 123 16).toInt := congrArg Int32.toInt (K151 123 16 rfl)
        have w155 : (m148 123 14).toInt = (m1 123 14).toInt := congrArg Int32.toInt (K151 123 14 rfl)
        have w156 : (m148 123 15).toInt = (m1 123 15).toInt := congrArg Int32.toInt (K151 123 15 rfl)
        have K151 := K4.trans (K151.sub (wl_sub (by decide)))
        show PV _ _ _ _ _ _ _ 106 [.ref 123] [] _
        have kl := rm148
        have kL := QC.lnd kg kl.1 (K151c 123 12 rfl) (K151c 123 13 rfl)
        have kL1 := kL.2.1
        have kL2 : (m148 123 16).toInt ≤ (m148 123 12).toInt := SLK_cm kL.2.1
        have kL3 := kL.2.2.2.1
        have kL4 := kL.2.2.2.2.1
        have kL6 := kL.2.2.2.2.2.2.2.2.1
        have kL7 := kL.2.2.2.2.2.2.2.2.2
        have kLP := PSs_lands kgp kl.1 (congrArg Int32.toInt (K151c 123 15 rfl)) (congrArg Int32.toInt (K151c 123 12 rfl))
        have kLT := LDI_top kgp.2.1 kgt kl.1
        refine pv_aload_n (M := mX12_readsCondition) 0 dX12_readsCondition_106 107 rfl rfl rfl ?_
        refine pv_aload_n (M := mX12_readsCondition) 0 dX12_readsCondition_107 108 rfl rfl rfl ?_
        refine iv_get (M := mX12_readsCondition) (l1 := 0) (l2 := 180) dX12_readsCondition_108 FX12 17 wd1190 (by decide) (tl123 hT) rfl I150 rfl 111 rfl (fun v167 ev167 pv167 qv167 => ?_)
        have wv167 : v167.toInt = (m148 123 17).toInt := congrArg Int32.toInt ev167
        refine pv_iconst (M := mX12_readsCondition) (v := 1) dX12_readsCondition_111 112 rfl (by decide) ?_
        refine iv_isub (M := mX12_readsCondition) (X := v167.toInt) (Y := 1) dX12_readsCondition_112 113 rfl rfl (by decide) (by omega) (by omega) (fun v168 ev168 => ?_)
        refine iv_put (M := mX12_readsCondition) (l1 := 0) (l2 := 180) dX12_readsCondition_113 FX12 17 wd1190 (by decide) rfl (tl123 hT) rfl rfl rfl I150 rfl (by omega) (by omega) 116 rfl (fun m169 e172 I170 => ?_)
        have K171 := K151.set e172 rfl
        have w173 : (m169 123 12).toInt = (m148 123 12).toInt := by rw [e172, up2_ne (by omega)]
        have w174 : (m169 123 13).toInt = (m148 123 13).toInt := by rw [e172, up2_ne (by omega)]
        have w175 : (m169 123 16).toInt = (m148 123 16).toInt := by rw [e172, up2_ne (by omega)]
        have w176 : (m169 123 17).toInt = v168.toInt := by rw [e172, up2_eq]
        have w177 : (m169 123 14).toInt = (m148 123 14).toInt := by rw [e172, up2_ne (by omega)]
        have w178 : (m169 123 15).toInt = (m148 123 15).toInt := by rw [e172, up2_ne (by omega)]
        refine pv_aload_n (M := mX12_readsCondition) 0 dX12_readsCondition_116 117 rfl rfl rfl ?_
        refine pv_aload_n (M := mX12_readsCondition) 0 dX12_readsCondition_117 118 rfl rfl rfl ?_
        refine iv_get (M := mX12_readsCondition) (l1 := (-2147483648)) (l2 := 2147483647) dX12_readsCondition_118 FX12 15 wd1188 (by decide) (tl123 hT) rfl I170 rfl 121 rfl (fun v179 ev179 pv179 qv179 => ?_)
        have wv179 : v179.toInt = (m169 123 15).toInt := congrArg Int32.toInt ev179
        refine pv_iconst (M := mX12_readsCondition) (v := 1) dX12_readsCondition_121 122 rfl (by decide) ?_
        refine iv_isub (M := mX12_readsCondition) (X := v179.toInt) (Y := 1) dX12_readsCondition_122 123 rfl rfl (by decide) (by omega) (by omega) (fun v180 ev180 => ?_)
        refine iv_put (M := mX12_readsCondition) (l1 := (-2147483648)) (l2 := 2147483647) dX12_readsCondition_123 FX12 15 wd1188 (by decide) rfl (tl123 hT) rfl rfl rfl I170 rfl (iv_rng v180).1 (iv_rng v180).2 126 rfl (fun m181 e184 I182 => ?_)
        have K183 := K171.set e184 rfl
        have w185 : (m181 123 12).toInt = (m169 123 12).toInt := by rw [e184, up2_ne (by omega)]
        have w186 : (m181 123 13).toInt = (m169 123 13).toInt := by rw [e184, up2_ne (by omega)]
        have w187 : (m181 123 16).toInt = (m169 123 16).toInt := by rw [e184, up2_ne (by omega)]
        have w188 : (m181 123 17).toInt = (m169 123 17).toInt := by rw [e184, up2_ne (by omega)]
        have w189 : (m181 123 14).toInt = (m169 123 14).toInt := by rw [e184, up2_ne (by omega)]
        have w190 : (m181 123 15).toInt = v180.toInt := by rw [e184, up2_eq]
        refine pv_aload_n (M := mX12_readsCondition) 0 dX12_readsCondition_126 127 rfl rfl rfl ?_
        refine pv_aload_n (M := mX12_readsCondition) 0 dX12_readsCondition_127 128 rfl rfl rfl ?_
        refine iv_get (M := mX12_readsCondition) (l1 := 0) (l2 := 160) dX12_readsCondition_128 FX12 12 wd1185 (by decide) (tl123 hT) rfl I182 rfl 131 rfl (fun v191 ev191 pv191 qv191 => ?_)
        have wv191 : v191.toInt = (m181 123 12).toInt := congrArg Int32.toInt ev191
        refine pv_iconst (M := mX12_readsCondition) (v := 1) dX12_readsCondition_131 132 rfl (by decide) ?_
        refine iv_iadd (M := mX12_readsCondition) (X := v191.toInt) (Y := 1) dX12_readsCondition_132 133 rfl rfl (by decide) (by omega) (by omega) (fun v192 ev192 => ?_)
        refine iv_put (M := mX12_readsCondition) (l1 := 0) (l2 := 160) dX12_readsCondition_133 FX12 12 wd1185 (by decide) rfl (tl123 hT) rfl rfl rfl I182 rfl (by omega) (by omega) 136 rfl (fun m193 e196 I194 => ?_)
        have K195 := K183.set e196 rfl
        have w197 : (m193 123 12).toInt = v192.toInt := by rw [e196, up2_eq]
        have w198 : (m193 123 13).toInt = (m181 123 13).toInt := by rw [e196, up2_ne (by omega)]
        have w199 : (m193 123 16).toInt = (m181 123 16).toInt := by rw [e196, up2_ne (by omega)]
        have w200 : (m193 123 17).toInt = (m181 123 17).toInt := by rw [e196, up2_ne (by omega)]
        have w201 : (m193 123 14).toInt = (m181 123 14).toInt := by rw [e196, up2_ne (by omega)]
        have w202 : (m193 123 15).toInt = (m181 123 15).toInt := by rw [e196, up2_ne (by omega)]
        have kP := QC.pop kL (by have := kl.2 (by decide); unfold ifv; omega) e172 (by omega) e184 e196 (by omega) (by omega)
        have kP3 := kP.2.2.2.1
        have kPP := PSs_pop (m := m148) (m2 := m193) kLP (by omega) (by have := kl.2 (by decide); unfold ifv; omega) (kLT.resolve_right (by omega)) (by rw [show (m148 123 12).toInt = (m1 123 12).toInt by omega]; exact k41) (fun j => by rw [e196, up2_ne (by omega), e184, up2_ne (by omega), e172, up2_ne (by omega)]) (by omega) (by omega) (by omega)
        refine pv_aload_n (M := mX12_readsCondition) 0 dX12_readsCondition_136 137 rfl rfl rfl ?_
        refine iv_get (M := mX12_readsCondition) (l1 := 0) (l2 := 180) dX12_readsCondition_137 FX12 17 wd1190 (by decide) (tl123 hT) rfl I194 rfl 140 rfl (fun v206 ev206 pv206 qv206 => ?_)
        have wv206 : v206.toInt = (m193 123 17).toInt := congrArg Int32.toInt ev206
        refine pv_if_ne (M := mX12_readsCondition) (tgt := 145) dX12_readsCondition_140 143 rfl (by decide) (fun c207 => ?_) (fun c207 => ?_)
        · have c207 := iv_ne (X := v206.toInt) (Y := 0) c207 rfl (by decide)
          have kQ := kP.2.2.2.2 (by omega)
          have kQw : 0 ≤ SLK m193 := kQ.2.1
          have kPP2 := kPP.2.2
          have kPP1 := kPP.1.1
          have kPP3 := CON_ge m193
          refine pv_aload_n (M := mX12_readsCondition) 0 dX12_readsCondition_145 146 rfl rfl rfl ?_
          refine pv_callv (M := mX12_readsCondition) (as := []) (st := []) (kc2 := 0) (ks2 := 0) dX12_readsCondition_146 wd1476 YX12_endsPiece ⟨wd1478, wd73⟩ (mk_get (tl123 hT)) rfl rfl (s_X12_endsPiece_vx g hT I194 cb 1 kQ.1 (by omega) kQ.2.1 (by first | omega | assumption | exact (iv_rng _).2 | exact (iv_rng _).1 | decide) (by first | omega | assumption | exact (iv_rng _).2 | exact (iv_rng _).1 | decide)) rfl rfl (Nat.le_of_ble_eq_true rfl) (by decide) rfl rfl 149 rfl (fun rv h1 q213 => ?_)
          obtain ⟨m214, n215, rfl, rfl, I216, K217, rm214⟩ := q213
          replace rm214 : (EPI cb 1 m193 m214 ∧ ((m214 123 17).toInt = 0 ∨ opv (m214 131 ((m214 123 17).toInt - 1).toNat) ≠ 10)) ∧ (m214 123 15).toInt - (m214 123 17).toInt = (m193 123 15).toInt - (m193 123 17).toInt := rm214
          have K217c := K217
          have w218 : (m214 123 12).toInt = (m193 123 12).toInt := congrArg Int32.toInt (K217 123 12 rfl)
          have w219 : (m214 123 13).toInt = (m193 123 13).toInt := congrArg Int32.toInt (K217 123 13 rfl)
          have w220 : (m214 123 14).toInt = (m193 123 14).toInt := congrArg Int32.toInt (K217 123 14 rfl)
          have K217 := K195.trans (K217.sub (wl_sub (by decide)))
          show PV _ _ _ _ _ _ _ 149 [.ref 123] [] _
          have kq := rm214.1
          have kqo := rm214.2
          have kE := QC.end kQ kq.1 (K217c 123 12 rfl) (K217c 123 13 rfl)
          have kE3 := kE.2.2.2.1
          have kEP := PSs_nots kPP kq.1.2.2.2.2.1 kq.1.2.2.2.1 (fun j _ => kq.1.2.2.2.2.2.1 j) (fun j a b => kq.1.2.2.2.2.2.2.1 j a b) kqo (congrArg Int32.toInt (K217c 123 12 rfl))
          refine pv_goto (M := mX12_readsCondition) (tgt := 92) dX12_readsCondition_149 (by decide) ?_
          have kbd := kE
          have kbe : (m1 123 12).toInt + 1 ≤ (m214 123 12).toInt := by omega
          have kpb := kEP
          have ktb : opv (m214 131 ((m214 123 17).toInt - 1).toNat) ≠ 10 := kq.2.resolve_left (by omega)
          exact ih7  m214 n215 kbd (by first | omega | assumption | (show p40 ≤ (m214 123 12).toInt; omega) | decide) kpb ktb I216 K217 (by omega)
        · have c207 := iv_eq (X := v206.toInt) (Y := 0) c207 rfl (by decide)
          refine pv_iconst (M := mX12_readsCondition) (v := 1) dX12_readsCondition_143 144 rfl (by decide) ?_
          have z230 : (1 : Int32).toInt = 1 := by decide
          exact pv_iret (M := mX12_readsCondition) dX12_readsCondition_144 rfl rfl ⟨_, _, _, rfl, rfl, I194, K195, by decide, by decide, (Or.inr ⟨by decide, ⟨HW_done kP.1 (show (m193 123 17).toInt = 0 by omega), kP.2.2.1, kP.2.1, kP.1.1.2.1, by omega, by omega, by omega, by omega⟩, PSs_done kPP (by omega)⟩)⟩
  exact lp6 (((160 - (m 123 12).toInt) : Int).toNat + 1)  m n hp0 (by first | omega | assumption | (show p40 ≤ (m 123 12).toInt; omega) | decide) hp1 hp2 I Kp (by omega)

set_option maxHeartbeats 2000000 in
set_option maxRecDepth 20000 in
theorem s_X12_readsCondition_vd (g : pv_G) {T : List mv_T} {m : Nat → Nat → Int32} {n : Nat → Nat → Int64} {r : Nat → Value} {m0 : Nat → Nat → Int32} (hT : TX T) (I : IV BB m) (Kp : fr (wl [(123, 123, some 12), (123, 123, some 14), (123, 123, some 15), (123, 123, some 16), (123, 123, some 17), (123, 123, some 19), (130, 130, none), (131, 131, none)]) m0 m) (cb : Int) (hp0 : QC cb 0 m0 m) (hp1 : QS (tR m0) (CND (tR m0) (m0 123 12).toInt) m) : PV none g mX12_readsCondition (sqI T BB (wl [(123, 123, some 12), (123, 123, some 14), (123, 123, some 15), (123, 123, some 16), (123, 123, some 17), (123, 123, some 19), (130, 130, none), (131, 131, none)]) r m0 0 1 (fun m' v => (v.toInt = 0 ∧ FLT (CND (tR m0) (m0 123 12).toInt) (m' 123 14).toInt) ∨ (v.toInt = 1 ∧ (WFc (m' 130) cb.toNat (m' 123 16).toInt.toNat ∧ KB cb m0 m' ∧ 0 ≤ SLK m' ∧ cb ≤ (m' 123 16).toInt ∧ (m0 123 12).toInt ≤ (m' 123 12).toInt ∧ (m' 123 12).toInt ≤ (m' 123 13).toInt ∧ (m' 123 13).toInt = (m0 123 13).toInt ∧ (m' 123 17).toInt = 0) ∧ CND (tR m0) (m0 123 12).toInt = (0, (m' 123 12).toInt)))) 7 0 0 40 [.ref 123] [] (mk T m n r) := by
  have z102 : 0 ≤ (m 123 12).toInt ∧ (m 123 12).toInt ≤ 160 := I 123 12
  have z103 : 0 ≤ (m 123 13).toInt ∧ (m 123 13).toInt ≤ 160 := I 123 13
  have z104 : 0 ≤ (m 123 16).toInt ∧ (m 123 16).toInt ≤ 180 := I 123 16
  have z105 : 0 ≤ (m 123 17).toInt ∧ (m 123 17).toInt ≤ 180 := I 123 17
  have lp6 : ∀ (fuel5 : Nat)  (m1 : Nat → Nat → Int32) (n2 : Nat → Nat → Int64), (QC cb 0 m0 m1) → (QS (tR m0) (CND (tR m0) (m0 123 12).toInt) m1) → IV BB m1 → fr (wl [(123, 123, some 12), (123, 123, some 14), (123, 123, some 15), (123, 123, some 16), (123, 123, some 17), (123, 123, some 19), (130, 130, none), (131, 131, none)]) m0 m1 → ((160 - (m1 123 12).toInt) : Int).toNat < fuel5 → PV none g mX12_readsCondition (sqI T BB (wl [(123, 123, some 12), (123, 123, some 14), (123, 123, some 15), (123, 123, some 16), (123, 123, some 17), (123, 123, some 19), (130, 130, none), (131, 131, none)]) r m0 0 1 (fun m' v => (v.toInt = 0 ∧ FLT (CND (tR m0) (m0 123 12).toInt) (m' 123 14).toInt) ∨ (v.toInt = 1 ∧ (WFc (m' 130) cb.toNat (m' 123 16).toInt.toNat ∧ KB cb m0 m' ∧ 0 ≤ SLK m' ∧ cb ≤ (m' 123 16).toInt ∧ (m0 123 12).toInt ≤ (m' 123 12).toInt ∧ (m' 123 12).toInt ≤ (m' 123 13).toInt ∧ (m' 123 13).toInt = (m0 123 13).toInt ∧ (m' 123 17).toInt = 0) ∧ CND (tR m0) (m0 123 12).toInt = (0, (m' 123 12).toInt)))) 7 0 0 40 [.ref 123] [] (mk T m1 n2 r) := by
    intro fuel5
    induction fuel5 with
    | zero => intro  m1 n2 b8 b9 I3 K4 z10; omega
    | succ fuel5 ih7 =>
      intro  m1 n2 b8 b9 I3 K4 z10
      have z11 : 0 ≤ (m1 123 12).toInt ∧ (m1 123 12).toInt ≤ 160 := I3 123 12
      have z12 : 0 ≤ (m1 123 13).toInt ∧ (m1 123 13).toInt ≤ 160 := I3 123 13
      have z13 : 0 ≤ (m1 123 16).toInt ∧ (m1 123 16).toInt ≤ 180 := I3 123 16
      have z14 : 0 ≤ (m1 123 17).toInt ∧ (m1 123 17).toInt ≤ 180 := I3 123 17
      have kg := (show QC cb 0 m0 m1 by assumption)
      have kg1 := kg.2.1
      have kg2 : (m1 123 16).toInt ≤ (m1 123 12).toInt := SLK_cm kg.2.1
      have kg3 := kg.2.2.2.1
      have kg4 := kg.2.2.2.2.1
      have kg5 := kg.2.2.2.2.2.2.2.1
      have kg6 := kg.2.2.2.2.2.2.2.2.1
      have kg7 := kg.2.2.2.2.2.2.2.2.2
      have kgq := (show QS (tR m0) (CND (tR m0) (m0 123 12).toInt) m1 by assumption)
      have kt40 : tR m1 = tR m0 := tR_eq (K4 123 13 rfl) (fun j => K4 129 j rfl)
      have kgo := kgq.1.1
      have kgc := CON_ge m1
      have kgc2 := kgq.2.2
      refine pv_aload_n (M := mX12_readsCondition) 0 dX12_readsCondition_40 41 rfl rfl rfl ?_
      refine pv_callv (M := mX12_readsCondition) (as := []) (st := []) (kc2 := 0) (ks2 := 0) dX12_readsCondition_41 wd1417 YX12_here ⟨wd1419, wd60⟩ (mk_get (tl123 hT)) rfl rfl (s_X12_here g hT I3) rfl rfl (Nat.le_of_ble_eq_true rfl) (by decide) rfl rfl 44 rfl (fun rv h1 q28 => ?_)
      obtain ⟨v29, rfl, rfl, pv29, qv29, rv29⟩ := q28
      replace rv29 : v29.toInt = hereV m1 ∧ (v29.toInt = -1 ∨ (m1 123 12).toInt < (m1 123 13).toInt) := rv29
      show PV _ _ _ _ _ _ _ 44 [.ref 123] [.int v29] _
      have k44 : v29.toInt = tR m0 (m1 123 12).toInt := rv29.1.trans (congrFun kt40 _)
      refine pv_bipush (M := mX12_readsCondition) (v := 33) dX12_readsCondition_44 46 rfl (by decide) ?_
      refine pv_icmp_eq (M := mX12_readsCondition) (tgt := 58) dX12_readsCondition_46 49 rfl (by decide) (fun c31 => ?_) (fun c31 => ?_)
      · have c31 := iv_eq (X := v29.toInt) (Y := 33) c31 rfl (by decide)
        refine pv_aload_n (M := mX12_readsCondition) 0 dX12_readsCondition_58 59 rfl rfl rfl ?_
        refine pv_aload_n (M := mX12_readsCondition) 0 dX12_readsCondition_59 60 rfl rfl rfl ?_
        refine pv_callv (M := mX12_readsCondition) (as := []) (st := [.ref 123]) (kc2 := 0) (ks2 := 0) dX12_readsCondition_60 wd1417 YX12_here ⟨wd1419, wd60⟩ (mk_get (tl123 hT)) rfl rfl (s_X12_here g hT I3) rfl rfl (Nat.le_of_ble_eq_true rfl) (by decide) rfl rfl 63 rfl (fun rv h1 q32 => ?_)
        obtain ⟨v33, rfl, rfl, pv33, qv33, rv33⟩ := q32
        replace rv33 : v33.toInt = hereV m1 ∧ (v33.toInt = -1 ∨ (m1 123 12).toInt < (m1 123 13).toInt) := rv33
        have sv33 : v29 = v33 := Int32.toInt_inj.mp (rv29.1.trans rv33.1.symm)
        subst sv33
        clear pv33 qv33 rv33
        show PV _ _ _ _ _ _ _ 63 [.ref 123] [.int v29, .ref 123] _
        have k63 : v29.toInt = tR m0 (m1 123 12).toInt := rv29.1.trans (congrFun kt40 _)
        refine pv_bipush (M := mX12_readsCondition) (v := 33) dX12_readsCondition_63 65 rfl (by decide) ?_
        refine pv_icmp_ne (M := mX12_readsCondition) (tgt := 73) dX12_readsCondition_65 68 rfl (by decide) (fun c35 => ?_) (fun c35 => ?_)
        · have c35 := iv_ne (X := v29.toInt) (Y := 33) c35 rfl (by decide)
          omega
        · have c35 := iv_eq (X := v29.toInt) (Y := 33) c35 rfl (by decide)
          refine pv_bipush (M := mX12_readsCondition) (v := 10) dX12_readsCondition_68 70 rfl (by decide) ?_
          refine pv_goto (M := mX12_readsCondition) (tgt := 75) dX12_readsCondition_70 (by decide) ?_
          have z36 : (10 : Int32).toInt = 10 := by decide
          refine pv_callv (M := mX12_readsCondition) (as := [.int 10]) (st := []) (kc2 := 0) (ks2 := 0) dX12_readsCondition_75 wd1433 YX12_opens ⟨wd1435, wd64⟩ (mk_get (tl123 hT)) rfl rfl (s_X12_opens_vx g hT I3 10 (by decide) (by decide) (by first | omega | assumption | exact (iv_rng _).2 | exact (iv_rng _).1 | decide) (by first | omega | assumption | exact (iv_rng _).2 | exact (iv_rng _).1 | decide) (by first | omega | assumption | exact (iv_rng _).2 | exact (iv_rng _).1 | decide) (by first | omega | assumption | exact (iv_rng _).2 | exact (iv_rng _).1 | decide)) rfl rfl (Nat.le_of_ble_eq_true rfl) (by decide) rfl rfl 78 rfl (fun rv h1 q37 => ?_)
          obtain ⟨m38, n39, v42, rfl, rfl, I40, K41, pv42, qv42, rv42⟩ := q37
          replace rv42 : (v42.toInt = 0 ∧ (m38 123 12).toInt = (m1 123 12).toInt ∧ (m1 123 15).toInt = 6 ∧ (m38 123 14).toInt = -5000 - (m1 123 12).toInt) ∨ (v42.toInt = 1 ∧ (∃ o u w z : Int32, m38 = up2 (up2 (up2 (up2 m1 123 15 o) 131 (m1 123 17).toInt.toNat u) 123 17 w) 123 12 z ∧ u.toInt = 1048576 * (10 : Int) ∧ w.toInt = (m1 123 17).toInt + 1 ∧ z.toInt = (m1 123 12).toInt + 1) ∧ (m38 123 15).toInt = (m1 123 15).toInt + 1 ∧ (m1 123 15).toInt ≠ 6) := by have q_ := rv42; (try rw [z36] at q_); exact q_
          have K41c := K41
          have w43 : (m38 123 13).toInt = (m1 123 13).toInt := congrArg Int32.toInt (K41 123 13 rfl)
          have w44 : (m38 123 16).toInt = (m1 123 16).toInt := congrArg Int32.toInt (K41 123 16 rfl)
          have K41 := K4.trans (K41.sub (wl_sub (by decide)))
          show PV _ _ _ _ _ _ _ 78 [.ref 123] [.int v42] _
          have kO := rv42
          clear rv42
          refine pv_if_ne (M := mX12_readsCondition) (tgt := 40) dX12_readsCondition_78 81 rfl (by decide) (fun c47 => ?_) (fun c47 => ?_)
          · have c47 := iv_ne (X := v42.toInt) (Y := 0) c47 rfl (by decide)
            have kO2 := (kO.resolve_left (fun q => by have q1 := q.1; omega)).2
            have kbk : QC cb 0 m0 m38 := QC.opn kg (by omega) (by omega) kO2.1
            have kqb : QS (tR m0) (CND (tR m0) (m0 123 12).toInt) m38 := QS_open kgq (by omega) kO2.1 kO2.2.1 kO2.2.2 (by clear kO2 kO; omega)
            have kbm : (m1 123 12).toInt + 1 ≤ (m38 123 12).toInt := by obtain ⟨o1, o2, o3, o4, o5, o6, o7, o8⟩ := kO2.1; rw [o5, up2_f]; omega
            clear kO kO2
            exact ih7  m38 n39 kbk kqb I40 K41 (by omega)
          · have c47 := iv_eq (X := v42.toInt) (Y := 0) c47 rfl (by decide)
            refine pv_iconst (M := mX12_readsCondition) (v := 0) dX12_readsCondition_81 82 rfl (by decide) ?_
            have z53 : (0 : Int32).toInt = 0 := by decide
            exact pv_iret (M := mX12_readsCondition) dX12_readsCondition_82 rfl rfl ⟨_, _, _, rfl, rfl, I40, K41, by decide, by decide, (Or.inl ⟨by decide, QS_deep kgq (by omega) ((kO.resolve_right (fun q => by have q1 := q.1; omega)).2.2.1) ((kO.resolve_right (fun q => by have q1 := q.1; omega)).2.2.2)⟩)⟩
      · have c31 := iv_ne (X := v29.toInt) (Y := 33) c31 rfl (by decide)
        refine pv_aload_n (M := mX12_readsCondition) 0 dX12_readsCondition_49 50 rfl rfl rfl ?_
        refine pv_callv (M := mX12_readsCondition) (as := []) (st := []) (kc2 := 0) (ks2 := 0) dX12_readsCondition_50 wd1417 YX12_here ⟨wd1419, wd60⟩ (mk_get (tl123 hT)) rfl rfl (s_X12_here g hT I3) rfl rfl (Nat.le_of_ble_eq_true rfl) (by decide) rfl rfl 53 rfl (fun rv h1 q54 => ?_)
        obtain ⟨v55, rfl, rfl, pv55, qv55, rv55⟩ := q54
        replace rv55 : v55.toInt = hereV m1 ∧ (v55.toInt = -1 ∨ (m1 123 12).toInt < (m1 123 13).toInt) := rv55
        have sv55 : v29 = v55 := Int32.toInt_inj.mp (rv29.1.trans rv55.1.symm)
        subst sv55
        clear pv55 qv55 rv55
        show PV _ _ _ _ _ _ _ 53 [.ref 123] [.int v29] _
        have k53 : v29.toInt = tR m0 (m1 123 12).toInt := rv29.1.trans (congrFun kt40 _)
        refine pv_bipush (M := mX12_readsCondition) (v := 40) dX12_readsCondition_53 55 rfl (by decide) ?_
        refine pv_icmp_ne (M := mX12_readsCondition) (tgt := 83) dX12_readsCondition_55 58 rfl (by decide) (fun c57 => ?_) (fun c57 => ?_)
        · have c57 := iv_ne (X := v29.toInt) (Y := 40) c57 rfl (by decide)
          have kn33 : tR m0 (m1 123 12).toInt ≠ 33 := by omega
          have kn40 : tR m0 (m1 123 12).toInt ≠ 40 := by omega
          refine pv_aload_n (M := mX12_readsCondition) 0 dX12_readsCondition_83 84 rfl rfl rfl ?_
          refine pv_callv (M := mX12_readsCondition) (as := []) (st := []) (kc2 := 0) (ks2 := 0) dX12_readsCondition_84 wd1472 YX12_readsCompared ⟨wd1474, wd72⟩ (mk_get (tl123 hT)) rfl rfl (s_X12_readsCompared_vx g hT I3 cb kg.1 kg.2.1 (by omega) (by omega) kg.2.2.2.2.2.1 (by first | omega | assumption | exact (iv_rng _).2 | exact (iv_rng _).1 | decide) (by first | omega | assumption | exact (iv_rng _).2 | exact (iv_rng _).1 | decide)) rfl rfl (Nat.le_of_ble_eq_true rfl) (by decide) rfl rfl 87 rfl (fun rv h1 q60 => ?_)
          obtain ⟨m61, n62, v65, rfl, rfl, I63, K64, pv65, qv65, rv65⟩ := q60
          replace rv65 : (v65.toInt = 0 ∧ FLT (CM (tR m1) (eo (m1 123 15).toInt) (m1 123 12).toInt) (m61 123 14).toInt) ∨ (v65.toInt = 1 ∧ RC cb m1 m61 ∧ CM (tR m1) (eo (m1 123 15).toInt) (m1 123 12).toInt = (0, (m61 123 12).toInt) ∧ (m61 123 15).toInt - (m61 123 17).toInt = (m1 123 15).toInt - (m1 123 17).toInt ∧ ((m61 123 17).toInt = 0 ∨ opv (m61 131 ((m61 123 17).toInt - 1).toNat) ≠ 10)) := rv65
          have K64c := K64
          have w66 : (m61 123 13).toInt = (m1 123 13).toInt := congrArg Int32.toInt (K64 123 13 rfl)
          have K64 := K4.trans (K64.sub (fun _ _ q => q))
          show PV _ _ _ _ _ _ _ 87 [.ref 123] [.int v65] _
          have kR := rv65
          rw [kt40] at kR
          refine pv_if_ne (M := mX12_readsCondition) (tgt := 92) dX12_readsCondition_87 90 rfl (by decide) (fun c69 => ?_) (fun c69 => ?_)
          · have c69 := iv_ne (X := v65.toInt) (Y := 0) c69 rfl (by decide)
            have kRr := (kR.resolve_left (fun q => by have q1 := q.1; omega)).2
            have kc0 : RC cb _ m61 := kRr.1
            have kc1 := QC.cmp kg kc0
            have kc2 := kc0.2.2.2.2.2.2.2.1
            have kc3 := kc1.2.2.2.1
            have kp0 : PSs (tR m0) (CND (tR m0) (m0 123 12).toInt) m61 := QS_cmp kgq kn33 kn40 kRr.2.1 kc0 kRr.2.2.1
            have kt0x : opv (m61 131 ((m61 123 17).toInt - 1).toNat) ≠ 10 := kRr.2.2.2.resolve_left (by omega)
            clear kR
            exact s_X12_readsCondition_vb g hT I63 K64 cb (m1 123 12).toInt (fun m2 n2 a1 a2 a3 a4 a5 => ih7 m2 n2 a1 a2 a3 a4 (by have q : 0 ≤ (m2 123 12).toInt ∧ (m2 123 12).toInt ≤ 160 := a3 123 12; omega)) kc1 kp0 kt0x (by omega)
          · have c69 := iv_eq (X := v65.toInt) (Y := 0) c69 rfl (by decide)
            refine pv_iconst (M := mX12_readsCondition) (v := 0) dX12_readsCondition_90 91 rfl (by decide) ?_
            have z79 : (0 : Int32).toInt = 0 := by decide
            exact pv_iret (M := mX12_readsCondition) dX12_readsCondition_91 rfl rfl ⟨_, _, _, rfl, rfl, I63, K64, by decide, by decide, (Or.inl ⟨by decide, QS_fl kgq kn33 kn40 (kR.resolve_right (fun q => by have q1 := q.1; omega)).2⟩)⟩
        · have c57 := iv_eq (X := v29.toInt) (Y := 40) c57 rfl (by decide)
          refine pv_aload_n (M := mX12_readsCondition) 0 dX12_readsCondition_58 59 rfl rfl rfl ?_
          refine pv_aload_n (M := mX12_readsCondition) 0 dX12_readsCondition_59 60 rfl rfl rfl ?_
          refine pv_callv (M := mX12_readsCondition) (as := []) (st := [.ref 123]) (kc2 := 0) (ks2 := 0) dX12_readsCondition_60 wd1417 YX12_here ⟨wd1419, wd60⟩ (mk_get (tl123 hT)) rfl rfl (s_X12_here g hT I3) rfl rfl (Nat.le_of_ble_eq_true rfl) (by decide) rfl rfl 63 rfl (fun rv h1 q80 => ?_)
          obtain ⟨v81, rfl, rfl, pv81, qv81, rv81⟩ := q80
          replace rv81 : v81.toInt = hereV m1 ∧ (v81.toInt = -1 ∨ (m1 123 12).toInt < (m1 123 13).toInt) := rv81
          have sv81 : v29 = v81 := Int32.toInt_inj.mp (rv29.1.trans rv81.1.symm)
          subst sv81
          clear pv81 qv81 rv81
          show PV _ _ _ _ _ _ _ 63 [.ref 123] [.int v29, .ref 123] _
          have k63 : v29.toInt = tR m0 (m1 123 12).toInt := rv29.1.trans (congrFun kt40 _)
          refine pv_bipush (M := mX12_readsCondition) (v := 33) dX12_readsCondition_63 65 rfl (by decide) ?_
          refine pv_icmp_ne (M := mX12_readsCondition) (tgt := 73) dX12_readsCondition_65 68 rfl (by decide) (fun c83 => ?_) (fun c83 => ?_)
          · have c83 := iv_ne (X := v29.toInt) (Y := 33) c83 rfl (by decide)
            refine pv_bipush (M := mX12_readsCondition) (v := 13) dX12_readsCondition_73 75 rfl (by decide) ?_
            have z84 : (13 : Int32).toInt = 13 := by decide
            refine pv_callv (M := mX12_readsCondition) (as := [.int 13]) (st := []) (kc2 := 0) (ks2 := 0) dX12_readsCondition_75 wd1433 YX12_opens ⟨wd1435, wd64⟩ (mk_get (tl123 hT)) rfl rfl (s_X12_opens_vx g hT I3 13 (by decide) (by decide) (by first | omega | assumption | exact (iv_rng _).2 | exact (iv_rng _).1 | decide) (by first | omega | assumption | exact (iv_rng _).2 | exact (iv_rng _).1 | decide) (by first | omega | assumption | exact (iv_rng _).2 | exact (iv_rng _).1 | decide) (by first | omega | assumption | exact (iv_rng _).2 | exact (iv_rng _).1 | decide)) rfl rfl (Nat.le_of_ble_eq_true rfl) (by decide) rfl rfl 78 rfl (fun rv h1 q85 => ?_)
            obtain ⟨m86, n87, v90, rfl, rfl, I88, K89, pv90, qv90, rv90⟩ := q85
            replace rv90 : (v90.toInt = 0 ∧ (m86 123 12).toInt = (m1 123 12).toInt ∧ (m1 123 15).toInt = 6 ∧ (m86 123 14).toInt = -5000 - (m1 123 12).toInt) ∨ (v90.toInt = 1 ∧ (∃ o u w z : Int32, m86 = up2 (up2 (up2 (up2 m1 123 15 o) 131 (m1 123 17).toInt.toNat u) 123 17 w) 123 12 z ∧ u.toInt = 1048576 * (13 : Int) ∧ w.toInt = (m1 123 17).toInt + 1 ∧ z.toInt = (m1 123 12).toInt + 1) ∧ (m86 123 15).toInt = (m1 123 15).toInt + 1 ∧ (m1 123 15).toInt ≠ 6) := by have q_ := rv90; (try rw [z84] at q_); exact q_
            have K89c := K89
            have w91 : (m86 123 13).toInt = (m1 123 13).toInt := congrArg Int32.toInt (K89 123 13 rfl)
            have w92 : (m86 123 16).toInt = (m1 123 16).toInt := congrArg Int32.toInt (K89 123 16 rfl)
            have K89 := K4.trans (K89.sub (wl_sub (by decide)))
            show PV _ _ _ _ _ _ _ 78 [.ref 123] [.int v90] _
            have kO := rv90
            clear rv90
            refine pv_if_ne (M := mX12_readsCondition) (tgt := 40) dX12_readsCondition_78 81 rfl (by decide) (fun c95 => ?_) (fun c95 => ?_)
            · have c95 := iv_ne (X := v90.toInt) (Y := 0) c95 rfl (by decide)
              have kO2 := (kO.resolve_left (fun q => by have q1 := q.1; omega)).2
              have kbk : QC cb 0 m0 m86 := QC.opn kg (by omega) (by omega) kO2.1
              have kqb : QS (tR m0) (CND (tR m0) (m0 123 12).toInt) m86 := QS_open kgq (by omega) kO2.1 kO2.2.1 kO2.2.2 (by clear kO2 kO; omega)
              have kbm : (m1 123 12).toInt + 1 ≤ (m86 123 12).toInt := by obtain ⟨o1, o2, o3, o4, o5, o6, o7, o8⟩ := kO2.1; rw [o5, up2_f]; omega
              clear kO kO2
              exact ih7  m86 n87 kbk kqb I88 K89 (by omega)
            · have c95 := iv_eq (X := v90.toInt) (Y := 0) c95 rfl (by decide)
              refine pv_iconst (M := mX12_readsCondition) (v := 0) dX12_readsCondition_81 82 rfl (by decide) ?_
              have z101 : (0 : Int32).toInt = 0 := by decide
              exact pv_iret (M := mX12_readsCondition) dX12_readsCondition_82 rfl rfl ⟨_, _, _, rfl, rfl, I88, K89, by decide, by decide, (Or.inl ⟨by decide, QS_deep kgq (by omega) ((kO.resolve_right (fun q => by have q1 := q.1; omega)).2.2.1) ((kO.resolve_right (fun q => by have q1 := q.1; omega)).2.2.2)⟩)⟩
          · have c83 := iv_eq (X := v29.toInt) (Y := 33) c83 rfl (by decide)
            omega
  exact lp6 (((160 - (m 123 12).toInt) : Int).toNat + 1)  m n hp0 hp1 I Kp (by omega)

set_option maxHeartbeats 2000000 in
set_option maxRecDepth 20000 in
theorem s_X12_readsCondition_vx (g : pv_G) {T : List mv_T} {m : Nat → Nat → Int32} {n : Nat → Nat → Int64} {r : Nat → Value} (hT : TX T) (I : IV BB m) (cb : Int) (hp0 : 0 ≤ SLK m) (hp1 : (m 123 12).toInt ≤ (m 123 13).toInt) (hp2 : cb = (m 123 16).toInt) : PM g mX12_readsCondition yX12_readsCondition (sqI T BB (wl [(123, 123, some 12), (123, 123, some 14), (123, 123, some 15), (123, 123, some 16), (123, 123, some 17), (123, 123, some 19), (130, 130, none), (131, 131, none)]) r m 0 1 (fun m' v => (v.toInt = 0 ∧ FLT (CND (tR m) (m 123 12).toInt) (m' 123 14).toInt) ∨ (v.toInt = 1 ∧ (WFc (m' 130) cb.toNat (m' 123 16).toInt.toNat ∧ KB cb m m' ∧ 0 ≤ SLK m' ∧ cb ≤ (m' 123 16).toInt ∧ (m 123 12).toInt ≤ (m' 123 12).toInt ∧ (m' 123 12).toInt ≤ (m' 123 13).toInt ∧ (m' 123 13).toInt = (m 123 13).toInt ∧ (m' 123 17).toInt = 0) ∧ CND (tR m) (m 123 12).toInt = (0, (m' 123 12).toInt)))) 7 0 0 [.ref 123] (mk T m n r) := by
  have Kp : fr (wl [(123, 123, some 12), (123, 123, some 14), (123, 123, some 15), (123, 123, some 16), (123, 123, some 17), (123, 123, some 19), (130, 130, none), (131, 131, none)]) m m := fr.rf
  have z59 : 0 ≤ (m 123 12).toInt ∧ (m 123 12).toInt ≤ 160 := I 123 12
  have z60 : 0 ≤ (m 123 13).toInt ∧ (m 123 13).toInt ≤ 160 := I 123 13
  have z61 : 0 ≤ (m 123 16).toInt ∧ (m 123 16).toInt ≤ 180 := I 123 16
  have z62 : 0 ≤ (m 123 17).toInt ∧ (m 123 17).toInt ≤ 180 := I 123 17
  refine PM.of 0 (lo := [.ref 123]) rfl (by decide) rfl rfl (Nat.le_of_ble_eq_true rfl) ?_
  have kTX := TXT_R I
  refine pv_aload_n (M := mX12_readsCondition) 0 dX12_readsCondition_0 1 rfl rfl rfl ?_
  refine pv_callv (M := mX12_readsCondition) (as := []) (st := []) (kc2 := 0) (ks2 := 0) dX12_readsCondition_1 wd1417 YX12_here ⟨wd1419, wd60⟩ (mk_get (tl123 hT)) rfl rfl (s_X12_here g hT I) rfl rfl (Nat.le_of_ble_eq_true rfl) (by decide) rfl rfl 4 rfl (fun rv h1 q2 => ?_)
  obtain ⟨v3, rfl, rfl, pv3, qv3, rv3⟩ := q2
  replace rv3 : v3.toInt = hereV m ∧ (v3.toInt = -1 ∨ (m 123 12).toInt < (m 123 13).toInt) := rv3
  show PV _ _ _ _ _ _ _ 4 [.ref 123] [.int v3] _
  have k4 : v3.toInt = tR m (m 123 12).toInt := rv3.1
  refine pv_bipush (M := mX12_readsCondition) (v := 40) dX12_readsCondition_4 6 rfl (by decide) ?_
  refine pv_icmp_eq (M := mX12_readsCondition) (tgt := 19) dX12_readsCondition_6 9 rfl (by decide) (fun c5 => ?_) (fun c5 => ?_)
  · have c5 := iv_eq (X := v3.toInt) (Y := 40) c5 rfl (by decide)
    refine pv_aload_n (M := mX12_readsCondition) 0 dX12_readsCondition_19 20 rfl rfl rfl ?_
    refine pv_iconst (M := mX12_readsCondition) (v := 0) dX12_readsCondition_20 21 rfl (by decide) ?_
    refine iv_put (M := mX12_readsCondition) (l1 := (-2147483648)) (l2 := 2147483647) dX12_readsCondition_21 FX12 15 wd1188 (by decide) rfl (tl123 hT) rfl rfl rfl I rfl (by decide) (by decide) 24 rfl (fun m6 e9 I7 => ?_)
    have K8 := Kp.set e9 rfl
    have w10 : (m6 123 12).toInt = (m 123 12).toInt := by rw [e9, up2_ne (by omega)]
    have w11 : (m6 123 13).toInt = (m 123 13).toInt := by rw [e9, up2_ne (by omega)]
    have w12 : (m6 123 16).toInt = (m 123 16).toInt := by rw [e9, up2_ne (by omega)]
    have w13 : (m6 123 17).toInt = (m 123 17).toInt := by rw [e9, up2_ne (by omega)]
    have w14 : (m6 123 14).toInt = (m 123 14).toInt := by rw [e9, up2_ne (by omega)]
    have w15 : (m6 123 15).toInt = 0 := by rw [e9, up2_eq] <;> rfl
    refine pv_aload_n (M := mX12_readsCondition) 0 dX12_readsCondition_24 25 rfl rfl rfl ?_
    refine pv_iconst (M := mX12_readsCondition) (v := 0) dX12_readsCondition_25 26 rfl (by decide) ?_
    refine iv_put (M := mX12_readsCondition) (l1 := 0) (l2 := 180) dX12_readsCondition_26 FX12 17 wd1190 (by decide) rfl (tl123 hT) rfl rfl rfl I7 rfl (by decide) (by decide) 29 rfl (fun m16 e19 I17 => ?_)
    have K18 := K8.set e19 rfl
    have w20 : (m16 123 12).toInt = (m6 123 12).toInt := by rw [e19, up2_ne (by omega)]
    have w21 : (m16 123 13).toInt = (m6 123 13).toInt := by rw [e19, up2_ne (by omega)]
    have w22 : (m16 123 16).toInt = (m6 123 16).toInt := by rw [e19, up2_ne (by omega)]
    have w23 : (m16 123 17).toInt = 0 := by rw [e19, up2_eq] <;> rfl
    have w24 : (m16 123 14).toInt = (m6 123 14).toInt := by rw [e19, up2_ne (by omega)]
    have w25 : (m16 123 15).toInt = (m6 123 15).toInt := by rw [e19, up2_ne (by omega)]
    refine pv_aload_n (M := mX12_readsCondition) 0 dX12_readsCondition_29 30 rfl rfl rfl ?_
    refine pv_bipush (M := mX12_readsCondition) (v := 13) dX12_readsCondition_30 32 rfl (by decide) ?_
    have z26 : (13 : Int32).toInt = 13 := by decide
    refine pv_callv (M := mX12_readsCondition) (as := [.int 13]) (st := []) (kc2 := 0) (ks2 := 0) dX12_readsCondition_32 wd1433 YX12_opens ⟨wd1435, wd64⟩ (mk_get (tl123 hT)) rfl rfl (s_X12_opens_vx g hT I17 13 (by decide) (by decide) (by first | omega | assumption | exact (iv_rng _).2 | exact (iv_rng _).1 | decide) (by first | omega | assumption | exact (iv_rng _).2 | exact (iv_rng _).1 | decide) (by first | omega | assumption | exact (iv_rng _).2 | exact (iv_rng _).1 | decide) (by first | omega | assumption | exact (iv_rng _).2 | exact (iv_rng _).1 | decide)) rfl rfl (Nat.le_of_ble_eq_true rfl) (by decide) rfl rfl 35 rfl (fun rv h1 q27 => ?_)
    obtain ⟨m28, n29, v32, rfl, rfl, I30, K31, pv32, qv32, rv32⟩ := q27
    replace rv32 : (v32.toInt = 0 ∧ (m28 123 12).toInt = (m16 123 12).toInt ∧ (m16 123 15).toInt = 6 ∧ (m28 123 14).toInt = -5000 - (m16 123 12).toInt) ∨ (v32.toInt = 1 ∧ (∃ o u w z : Int32, m28 = up2 (up2 (up2 (up2 m16 123 15 o) 131 (m16 123 17).toInt.toNat u) 123 17 w) 123 12 z ∧ u.toInt = 1048576 * (13 : Int) ∧ w.toInt = (m16 123 17).toInt + 1 ∧ z.toInt = (m16 123 12).toInt + 1) ∧ (m28 123 15).toInt = (m16 123 15).toInt + 1 ∧ (m16 123 15).toInt ≠ 6) := by have q_ := rv32; (try rw [z26] at q_); exact q_
    have K31c := K31
    have w33 : (m28 123 13).toInt = (m16 123 13).toInt := congrArg Int32.toInt (K31 123 13 rfl)
    have w34 : (m28 123 16).toInt = (m16 123 16).toInt := congrArg Int32.toInt (K31 123 16 rfl)
    have K31 := K18.trans (K31.sub (wl_sub (by decide)))
    show PV _ _ _ _ _ _ _ 35 [.ref 123] [.int v32] _
    have kO := rv32
    clear rv32
    have ke1 := e19
    have ke2 := e9
    refine pv_if_ne (M := mX12_readsCondition) (tgt := 40) dX12_readsCondition_35 38 rfl (by decide) (fun c39 => ?_) (fun c39 => ?_)
    · have c39 := iv_ne (X := v32.toInt) (Y := 0) c39 rfl (by decide)
      have kO2 := (kO.resolve_left (fun q => by have q1 := q.1; omega)).2
      have kin : QC cb 0 m m28 := by rw [hp2]; exact QC.start hp0 (by omega) (by omega) ke2 ke1 (by decide) (by omega) (by omega) kO2.1
      have kq0 : QS (tR m) (CND (tR m) (m 123 12).toInt) m28 := by have q := QS_start (t := tR m) (m2 := m16) (m3 := m28) (by omega) (by omega) kO2.1 kO2.2.1 (by rw [show (m16 123 12).toInt = (m 123 12).toInt by omega]; omega); rw [show (m16 123 12).toInt = (m 123 12).toInt by omega] at q; exact q
      clear kO kO2
      exact s_X12_readsCondition_vd g hT I30 K31 cb kin kq0
    · have c39 := iv_eq (X := v32.toInt) (Y := 0) c39 rfl (by decide)
      refine pv_iconst (M := mX12_readsCondition) (v := 0) dX12_readsCondition_38 39 rfl (by decide) ?_
      have z45 : (0 : Int32).toInt = 0 := by decide
      exact pv_iret (M := mX12_readsCondition) dX12_readsCondition_39 rfl rfl ⟨_, _, _, rfl, rfl, I30, K31, by decide, by decide, (by exfalso; have q := kO.resolve_right (fun q => by have q1 := q.1; omega); have q3 := q.2.2.1; clear kO q; omega)⟩
  · have c5 := iv_ne (X := v3.toInt) (Y := 40) c5 rfl (by decide)
    refine pv_aload_n (M := mX12_readsCondition) 0 dX12_readsCondition_9 10 rfl rfl rfl ?_
    refine pv_iconst (M := mX12_readsCondition) (v := 1) dX12_readsCondition_10 11 rfl (by decide) ?_
    refine pv_aload_n (M := mX12_readsCondition) 0 dX12_readsCondition_11 12 rfl rfl rfl ?_
    refine iv_get (M := mX12_readsCondition) (l1 := 0) (l2 := 160) dX12_readsCondition_12 FX12 12 wd1185 (by decide) (tl123 hT) rfl I rfl 15 rfl (fun v46 ev46 pv46 qv46 => ?_)
    have wv46 : v46.toInt = (m 123 12).toInt := congrArg Int32.toInt ev46
    have z47 : (1 : Int32).toInt = 1 := by decide
    refine pv_callv (M := mX12_readsCondition) (as := [.int 1, .int v46]) (st := []) (kc2 := 0) (ks2 := 0) dX12_readsCondition_15 wd1421 YX12_wrongAt ⟨wd1423, wd61⟩ (mk_get (tl123 hT)) rfl rfl (s_X12_wrongAt_vx g hT I 1 (by decide) (by decide) v46 (by omega) (by omega)) rfl rfl (Nat.le_of_ble_eq_true rfl) (by decide) rfl rfl 18 rfl (fun rv h1 q48 => ?_)
    obtain ⟨m49, n50, v53, rfl, rfl, I51, K52, pv53, qv53, rv53⟩ := q48
    replace rv53 : (m49 123 14).toInt = -1000 * (1 : Int) - v46.toInt := by have q_ := rv53; (try rw [z47] at q_); exact q_
    have K52c := K52
    have w54 : (m49 123 12).toInt = (m 123 12).toInt := congrArg Int32.toInt (K52 123 12 rfl)
    have w55 : (m49 123 13).toInt = (m 123 13).toInt := congrArg Int32.toInt (K52 123 13 rfl)
    have w56 : (m49 123 16).toInt = (m 123 16).toInt := congrArg Int32.toInt (K52 123 16 rfl)
    have w57 : (m49 123 17).toInt = (m 123 17).toInt := congrArg Int32.toInt (K52 123 17 rfl)
    have w58 : (m49 123 15).toInt = (m 123 15).toInt := congrArg Int32.toInt (K52 123 15 rfl)
    have K52 := Kp.trans (K52.sub (wl_sub (by decide)))
    show PV _ _ _ _ _ _ _ 18 [.ref 123] [.int v53] _
    exact pv_iret (M := mX12_readsCondition) dX12_readsCondition_18 rfl (iv_nz (by omega) (by omega)) ⟨_, _, _, rfl, rfl, I51, K52, by omega, by omega, (Or.inl ⟨by omega, FLT_of (a := 1) (p := (m 123 12).toInt) (if_neg (by omega)) (by decide) (by omega)⟩)⟩
