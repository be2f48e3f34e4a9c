set_option maxHeartbeats 2000000 in
set_option maxRecDepth 20000 in
theorem s_X1_costOfAll_va (g : pv_G) {T : List mv_T} {m : Nat → Nat → Int32} {n : Nat → Nat → Int64} {r : Nat → Value} (hT : TX T) (I : IV BB m) : PM g mX1_costOfAll yX1_costOfAll (sqP (mk T m n r) (-2147483648) 2147483647 (fun v => v = smc (m 101) (m 97 6).toInt.toNat)) 1 0 0 [.ref 97] (mk T m n r) := by
  have Kp : fr (wl []) m m := fr.rf
  have z26 : 0 ≤ (m 97 6).toInt ∧ (m 97 6).toInt ≤ 60 := I 97 6
  refine PM.of 2 (lo := [.ref 97, pv_U, pv_U]) rfl (by decide) rfl rfl (Nat.le_of_ble_eq_true rfl) ?_
  refine pv_iconst (M := mX1_costOfAll) (v := 0) dX1_costOfAll_0 1 rfl (by decide) ?_
  refine pv_istore_n (M := mX1_costOfAll) 1 (lo2 := [.ref 97, .int 0, pv_U]) dX1_costOfAll_1 2 rfl rfl (by decide) rfl rfl ?_
  refine pv_iconst (M := mX1_costOfAll) (v := 0) dX1_costOfAll_2 3 rfl (by decide) ?_
  refine pv_istore_n (M := mX1_costOfAll) 2 (lo2 := [.ref 97, .int 0, .int 0]) dX1_costOfAll_3 4 rfl rfl (by decide) rfl rfl ?_
  have lp8 : ∀ (fuel7 : Nat) (y1 : Int32) (y2 : Int32), (0 ≤ y2.toInt) → (y2.toInt ≤ 60) → (y2.toInt ≤ (m 97 6).toInt) → (y1 = smc (m 101) y2.toInt.toNat) → ((60 - y2.toInt) : Int).toNat < fuel7 → PV none g mX1_costOfAll (sqP (mk T m n r) (-2147483648) 2147483647 (fun v => v = smc (m 101) (m 97 6).toInt.toNat)) 1 0 0 4 [.ref 97, .int y1, .int y2] [] (mk T m n r) := by
    intro fuel7
    induction fuel7 with
    | zero => intro y1 y2 b10 b11 b12 b13 z14; omega
    | succ fuel7 ih9 =>
      intro y1 y2 b10 b11 b12 b13 z14
      have kg := (show y1 = smc (m 101) y2.toInt.toNat by assumption)
      refine pv_iload_n (M := mX1_costOfAll) 2 dX1_costOfAll_4 5 rfl rfl rfl ?_
      refine pv_aload_n (M := mX1_costOfAll) 0 dX1_costOfAll_5 6 rfl rfl rfl ?_
      refine iv_get (M := mX1_costOfAll) (l1 := 0) (l2 := 60) dX1_costOfAll_6 FX1 6 wd309 (by decide) (tl97 hT) rfl I rfl 9 rfl (fun v16 ev16 pv16 qv16 => ?_)
      have wv16 : v16.toInt = (m 97 6).toInt := congrArg Int32.toInt ev16
      refine pv_icmp_ge (M := mX1_costOfAll) (tgt := 27) dX1_costOfAll_9 12 rfl (by decide) (fun c17 => ?_) (fun c17 => ?_)
      · have c17 := iv_le (X := v16.toInt) (Y := y2.toInt) c17 rfl rfl
        refine pv_iload_n (M := mX1_costOfAll) 1 dX1_costOfAll_27 28 rfl rfl rfl ?_
        exact pv_iret (M := mX1_costOfAll) dX1_costOfAll_28 rfl rfl ⟨_, rfl, rfl, (iv_rng y1).1, (iv_rng y1).2, (by (try dsimp only); rw [kg]; congr 1; omega)⟩
      · have c17 := iv_nle (X := v16.toInt) (Y := y2.toInt) c17 rfl rfl
        refine pv_iload_n (M := mX1_costOfAll) 1 dX1_costOfAll_12 13 rfl rfl rfl ?_
        refine pv_aload_n (M := mX1_costOfAll) 0 dX1_costOfAll_13 14 rfl rfl rfl ?_
        refine mv_get (M := mX1_costOfAll) (v := .ref 101) dX1_costOfAll_14 FX1 3 wd305 (by decide) (tl97 hT) rfl rfl 17 rfl ?_
        refine pv_iload_n (M := mX1_costOfAll) 2 dX1_costOfAll_17 18 rfl rfl rfl ?_
        refine iv_iald (M := mX1_costOfAll) (X := y2.toInt) (l1 := (-2147483648)) (l2 := 2147483647) dX1_costOfAll_18 (tl101 hT) rfl (by omega) (by omega) I (fun _ => rfl) 19 rfl (fun v18 ev18 pv18 qv18 => ?_)
        have k19 : v18 = m 101 y2.toInt.toNat := ev18
        refine iv_addU (M := mX1_costOfAll) dX1_costOfAll_19 20 rfl (fun v20 ev20 => ?_)
        have k20 := ev20
        refine pv_istore_n (M := mX1_costOfAll) 1 (lo2 := [.ref 97, .int v20, .int y2]) dX1_costOfAll_20 21 rfl rfl (by decide) rfl rfl ?_
        refine iv_inc (M := mX1_costOfAll) (C := 1) dX1_costOfAll_21 24 rfl rfl (by decide) rfl rfl (by decide) (by omega) (by omega) (fun v22 ev22 => ?_)
        show PV _ _ _ _ _ _ _ 24 [.ref 97, .int v20, .int v22] [] _
        refine pv_goto (M := mX1_costOfAll) (tgt := 4) dX1_costOfAll_24 (by decide) ?_
        have kb : v20 = smc (m 101) v22.toInt.toNat := by rw [show v22.toInt.toNat = (y2.toInt).toNat + 1 by omega, smc_s, ← kg, k20, k19]
        exact ih9 v20 v22 (by first | omega | assumption | exact (iv_rng _).2 | exact (iv_rng _).1 | decide) (by first | omega | assumption | exact (iv_rng _).2 | exact (iv_rng _).1 | decide) (by first | omega | assumption | (show v22.toInt ≤ (m 97 6).toInt; omega) | decide) kb (by omega)
  have z24 : (0 : Int32).toInt = 0 := by decide
  have z25 : (0 : Int32).toInt = 0 := by decide
  exact lp8 (((60 - 0) : Int).toNat + 1) 0 0 (by first | omega | assumption | exact (iv_rng _).2 | exact (iv_rng _).1 | decide) (by first | omega | assumption | exact (iv_rng _).2 | exact (iv_rng _).1 | decide) (by first | omega | assumption | (show 0 ≤ (m 97 6).toInt; omega) | decide) (by (try dsimp only); rw [Int32.toInt_zero]; rfl) (by omega)

set_option maxHeartbeats 2000000 in
set_option maxRecDepth 20000 in
theorem s_X12_costAll_va (g : pv_G) {T : List mv_T} {m : Nat → Nat → Int32} {n : Nat → Nat → Int64} {r : Nat → Value} (hT : TX T) (I : IV BB m) : PM g mX12_costAll yX12_costAll (sqP (mk T m n r) (-2147483648) 2147483647 (fun v => v = smc (m 146) (m 123 3).toInt.toNat)) 1 0 0 [.ref 123] (mk T m n r) := by
  have Kp : fr (wl []) m m := fr.rf
  have z26 : 0 ≤ (m 123 3).toInt ∧ (m 123 3).toInt ≤ 60 := I 123 3
  refine PM.of 2 (lo := [.ref 123, pv_U, pv_U]) rfl (by decide) rfl rfl (Nat.le_of_ble_eq_true rfl) ?_
  refine pv_iconst (M := mX12_costAll) (v := 0) dX12_costAll_0 1 rfl (by decide) ?_
  refine pv_istore_n (M := mX12_costAll) 1 (lo2 := [.ref 123, .int 0, pv_U]) dX12_costAll_1 2 rfl rfl (by decide) rfl rfl ?_
  refine pv_iconst (M := mX12_costAll) (v := 0) dX12_costAll_2 3 rfl (by decide) ?_
  refine pv_istore_n (M := mX12_costAll) 2 (lo2 := [.ref 123, .int 0, .int 0]) dX12_costAll_3 4 rfl rfl (by decide) rfl rfl ?_
  have lp8 : ∀ (fuel7 : Nat) (y1 : Int32) (y2 : Int32), (0 ≤ y2.toInt) → (y2.toInt ≤ 60) → (y2.toInt ≤ (m 123 3).toInt) → (y1 = smc (m 146) y2.toInt.toNat) → ((60 - y2.toInt) : Int).toNat < fuel7 → PV none g mX12_costAll (sqP (mk T m n r) (-2147483648) 2147483647 (fun v => v = smc (m 146) (m 123 3).toInt.toNat)) 1 0 0 4 [.ref 123, .int y1, .int y2] [] (mk T m n r) := by
    intro fuel7
    induction fuel7 with
    | zero => intro y1 y2 b10 b11 b12 b13 z14; omega
    | succ fuel7 ih9 =>
      intro y1 y2 b10 b11 b12 b13 z14
      have kg := (show y1 = smc (m 146) y2.toInt.toNat by assumption)
      refine pv_iload_n (M := mX12_costAll) 2 dX12_costAll_4 5 rfl rfl rfl ?_
      refine pv_aload_n (M := mX12_costAll) 0 dX12_costAll_5 6 rfl rfl rfl ?_
      refine iv_get (M := mX12_costAll) (l1 := 0) (l2 := 60) dX12_costAll_6 FX12 3 wd1176 (by decide) (tl123 hT) rfl I rfl 9 rfl (fun v16 ev16 pv16 qv16 => ?_)
      have wv16 : v16.toInt = (m 123 3).toInt := congrArg Int32.toInt ev16
      refine pv_icmp_ge (M := mX12_costAll) (tgt := 27) dX12_costAll_9 12 rfl (by decide) (fun c17 => ?_) (fun c17 => ?_)
      · have c17 := iv_le (X := v16.toInt) (Y := y2.toInt) c17 rfl rfl
        refine pv_iload_n (M := mX12_costAll) 1 dX12_costAll_27 28 rfl rfl rfl ?_
        exact pv_iret (M := mX12_costAll) dX12_costAll_28 rfl rfl ⟨_, rfl, rfl, (iv_rng y1).1, (iv_rng y1).2, (by (try dsimp only); rw [kg]; congr 1; omega)⟩
      · have c17 := iv_nle (X := v16.toInt) (Y := y2.toInt) c17 rfl rfl
        refine pv_iload_n (M := mX12_costAll) 1 dX12_costAll_12 13 rfl rfl rfl ?_
        refine pv_aload_n (M := mX12_costAll) 0 dX12_costAll_13 14 rfl rfl rfl ?_
        refine mv_get (M := mX12_costAll) (v := .ref 146) dX12_costAll_14 FX12 37 wd1210 (by decide) (tl123 hT) rfl rfl 17 rfl ?_
        refine pv_iload_n (M := mX12_costAll) 2 dX12_costAll_17 18 rfl rfl rfl ?_
        refine iv_iald (M := mX12_costAll) (X := y2.toInt) (l1 := (-2147483648)) (l2 := 2147483647) dX12_costAll_18 (tl146 hT) rfl (by omega) (by omega) I (fun _ => rfl) 19 rfl (fun v18 ev18 pv18 qv18 => ?_)
        have k19 : v18 = m 146 y2.toInt.toNat := ev18
        refine iv_addU (M := mX12_costAll) dX12_costAll_19 20 rfl (fun v20 ev20 => ?_)
        have k20 := ev20
        refine pv_istore_n (M := mX12_costAll) 1 (lo2 := [.ref 123, .int v20, .int y2]) dX12_costAll_20 21 rfl rfl (by decide) rfl rfl ?_
        refine iv_inc (M := mX12_costAll) (C := 1) dX12_costAll_21 24 rfl rfl (by decide) rfl rfl (by decide) (by omega) (by omega) (fun v22 ev22 => ?_)
        show PV _ _ _ _ _ _ _ 24 [.ref 123, .int v20, .int v22] [] _
        refine pv_goto (M := mX12_costAll) (tgt := 4) dX12_costAll_24 (by decide) ?_
        have kb : v20 = smc (m 146) v22.toInt.toNat := by rw [show v22.toInt.toNat = (y2.toInt).toNat + 1 by omega, smc_s, ← kg, k20, k19]
        exact ih9 v20 v22 (by first | omega | assumption | exact (iv_rng _).2 | exact (iv_rng _).1 | decide) (by first | omega | assumption | exact (iv_rng _).2 | exact (iv_rng _).1 | decide) (by first | omega | assumption | (show v22.toInt ≤ (m 123 3).toInt; omega) | decide) kb (by omega)
  have z24 : (0 : Int32).toInt = 0 := by decide
  have z25 : (0 : Int32).toInt = 0 := by decide
  exact lp8 (((60 - 0) : Int).toNat + 1) 0 0 (by first | omega | assumption | exact (iv_rng _).2 | exact (iv_rng _).1 | decide) (by first | omega | assumption | exact (iv_rng _).2 | exact (iv_rng _).1 | decide) (by first | omega | assumption | (show 0 ≤ (m 123 3).toInt; omega) | decide) (by (try dsimp only); rw [Int32.toInt_zero]; rfl) (by omega)

set_option maxHeartbeats 2000000 in
set_option maxRecDepth 20000 in
theorem s_X11_count_va (g : pv_G) {T : List mv_T} {m : Nat → Nat → Int32} {n : Nat → Nat → Int64} {r : Nat → Value} {la lb : Nat} (hT : TX T) (I : IV BB m) (R : RX T r la lb) (x0 : Int32) : PM g mX11_count yX11_count (sqP (mk T m n r) (-2147483648) 2147483647 (fun v => CNT x0 (m 0 2).toInt (fun y => (m (4 + 7 * y.toNat + 3) 1).toInt) (fun i => m (61 + 2 * i) 1) (cntC m la) v)) 3 0 0 [.ref 0, .int x0] (mk T m n r) := by
  have Kp : fr (wl []) m m := fr.rf
  have R0 := R
  have zR := R.2.2.2.2.1.1
  have zR2 := R.2.2.2.2.2.1
  refine PM.of 0 (lo := [.ref 0, .int x0]) rfl (by decide) rfl rfl (Nat.le_of_ble_eq_true rfl) ?_
  have kn0 : 0 ≤ (m 0 2).toInt ∧ (m 0 2).toInt ≤ 8 := I 0 2
  refine pv_iload_n (M := mX11_count) 1 dX11_count_0 1 rfl rfl rfl ?_
  refine pv_bipush (M := mX11_count) (v := 10) dX11_count_1 3 rfl (by decide) ?_
  refine pv_icmp_lt (M := mX11_count) (tgt := 43) dX11_count_3 6 rfl (by decide) (fun c2 => ?_) (fun c2 => ?_)
  · have c2 := iv_lt (X := x0.toInt) (Y := 10) c2 rfl (by decide)
    refine pv_iload_n (M := mX11_count) 1 dX11_count_43 44 rfl rfl rfl ?_
    refine pv_bipush (M := mX11_count) (v := 20) dX11_count_44 46 rfl (by decide) ?_
    refine pv_icmp_lt (M := mX11_count) (tgt := 68) dX11_count_46 49 rfl (by decide) (fun c3 => ?_) (fun c3 => ?_)
    · have c3 := iv_lt (X := x0.toInt) (Y := 20) c3 rfl (by decide)
      refine pv_iload_n (M := mX11_count) 1 dX11_count_68 69 rfl rfl rfl ?_
      by_cases c4 : x0.toInt = 0
      · refine iv_tabIn (M := mX11_count) (X := 0) (off := 47) (tgt := 116) dX11_count_69 c4 (by decide) (by decide) (by decide) (by decide) ?_
        refine pv_aload_n (M := mX11_count) 0 dX11_count_116 117 rfl rfl rfl ?_
        refine iv_get (M := mX11_count) (l1 := 0) (l2 := 8) dX11_count_117 FX11 2 wd409 (by decide) (tl0 hT) rfl I rfl 120 rfl (fun v5 ev5 pv5 qv5 => ?_)
        have k120 := ev5
        exact pv_iret (M := mX11_count) dX11_count_120 rfl rfl ⟨_, rfl, rfl, (iv_rng v5).1, (iv_rng v5).2, (Or.inr (Or.inr (Or.inl ⟨by omega, by omega, by rw [show x0.toInt.toNat = 0 by omega]; exact k120⟩)))⟩
      by_cases c7 : x0.toInt = 1
      · refine iv_tabIn (M := mX11_count) (X := 1) (off := 52) (tgt := 121) dX11_count_69 c7 (by decide) (by decide) (by decide) (by decide) ?_
        refine pv_aload_n (M := mX11_count) 0 dX11_count_121 122 rfl rfl rfl ?_
        refine pv_callv (M := mX11_count) (as := []) (st := []) (kc2 := 0) (ks2 := 0) dX11_count_122 wd923 YX11_toldDeeds ⟨wd925, wd34⟩ (mk_get (tl0 hT)) rfl rfl (s_X11_toldDeeds g hT I R) rfl rfl (Nat.le_of_ble_eq_true rfl) (by decide) rfl rfl 125 rfl (fun rv h1 q8 => ?_)
        obtain ⟨v9, rfl, rfl, pv9, qv9, rv9⟩ := q8
        replace rv9 : v9 = tld m 8 := rv9
        show PV _ _ _ _ _ _ _ 125 [.ref 0, .int x0] [.int v9] _
        have k125 := rv9
        exact pv_iret (M := mX11_count) dX11_count_125 rfl rfl ⟨_, rfl, rfl, (iv_rng v9).1, (iv_rng v9).2, (Or.inr (Or.inr (Or.inl ⟨by omega, by omega, by rw [show x0.toInt.toNat = 1 by omega]; exact k125⟩)))⟩
      by_cases c11 : x0.toInt = 2
      · refine iv_tabIn (M := mX11_count) (X := 2) (off := 57) (tgt := 126) dX11_count_69 c11 (by decide) (by decide) (by decide) (by decide) ?_
        refine pv_aload_n (M := mX11_count) 0 dX11_count_126 127 rfl rfl rfl ?_
        refine mv_get (M := mX11_count) (v := .ref la) dX11_count_127 FX11 4 wd411 (by decide) (tl0 hT) rfl R.2.2.1 130 rfl ?_
        refine iv_get (M := mX11_count) (l1 := 0) (l2 := 12) dX11_count_130 FX6 7 wd242 (by decide) R.2.2.2.2.1.2.1 rfl I (law_b7 R.2.2.2.2.1) 133 rfl (fun v12 ev12 pv12 qv12 => ?_)
        have k133 := ev12
        exact pv_iret (M := mX11_count) dX11_count_133 rfl rfl ⟨_, rfl, rfl, (iv_rng v12).1, (iv_rng v12).2, (Or.inr (Or.inr (Or.inl ⟨by omega, by omega, by rw [show x0.toInt.toNat = 2 by omega]; exact k133⟩)))⟩
      by_cases c14 : x0.toInt = 3
      · refine iv_tabIn (M := mX11_count) (X := 3) (off := 65) (tgt := 134) dX11_count_69 c14 (by decide) (by decide) (by decide) (by decide) ?_
        refine pv_aload_n (M := mX11_count) 0 dX11_count_134 135 rfl rfl rfl ?_
        refine mv_get (M := mX11_count) (v := .ref 1) dX11_count_135 FX11 0 wd407 (by decide) (tl0 hT) rfl rfl 138 rfl ?_
        refine iv_get (M := mX11_count) (l1 := 0) (l2 := 200) dX11_count_138 FX10 1 wd164 (by decide) (tl1 hT) rfl I rfl 141 rfl (fun v15 ev15 pv15 qv15 => ?_)
        have k141 := ev15
        exact pv_iret (M := mX11_count) dX11_count_141 rfl rfl ⟨_, rfl, rfl, (iv_rng v15).1, (iv_rng v15).2, (Or.inr (Or.inr (Or.inl ⟨by omega, by omega, by rw [show x0.toInt.toNat = 3 by omega]; exact k141⟩)))⟩
      by_cases c17 : x0.toInt = 4
      · refine iv_tabIn (M := mX11_count) (X := 4) (off := 73) (tgt := 142) dX11_count_69 c17 (by decide) (by decide) (by decide) (by decide) ?_
        refine pv_aload_n (M := mX11_count) 0 dX11_count_142 143 rfl rfl rfl ?_
        refine iv_get (M := mX11_count) (l1 := 0) (l2 := 999) dX11_count_143 FX11 7 wd414 (by decide) (tl0 hT) rfl I rfl 146 rfl (fun v18 ev18 pv18 qv18 => ?_)
        have k146 := ev18
        exact pv_iret (M := mX11_count) dX11_count_146 rfl rfl ⟨_, rfl, rfl, (iv_rng v18).1, (iv_rng v18).2, (Or.inr (Or.inr (Or.inl ⟨by omega, by omega, by rw [show x0.toInt.toNat = 4 by omega]; exact k146⟩)))⟩
      by_cases c20 : x0.toInt = 5
      · refine iv_tabIn (M := mX11_count) (X := 5) (off := 78) (tgt := 147) dX11_count_69 c20 (by decide) (by decide) (by decide) (by decide) ?_
        refine pv_aload_n (M := mX11_count) 0 dX11_count_147 148 rfl rfl rfl ?_
        refine mv_get (M := mX11_count) (v := .ref 97) dX11_count_148 FX11 6 wd413 (by decide) (tl0 hT) rfl rfl 151 rfl ?_
        refine iv_get (M := mX11_count) (l1 := 0) (l2 := 60) dX11_count_151 FX1 6 wd310 (by decide) (tl97 hT) rfl I rfl 154 rfl (fun v21 ev21 pv21 qv21 => ?_)
        have k154 := ev21
        exact pv_iret (M := mX11_count) dX11_count_154 rfl rfl ⟨_, rfl, rfl, (iv_rng v21).1, (iv_rng v21).2, (Or.inr (Or.inr (Or.inl ⟨by omega, by omega, by rw [show x0.toInt.toNat = 5 by omega]; exact k154⟩)))⟩
      by_cases c23 : x0.toInt = 6
      · refine iv_tabIn (M := mX11_count) (X := 6) (off := 86) (tgt := 155) dX11_count_69 c23 (by decide) (by decide) (by decide) (by decide) ?_
        refine pv_aload_n (M := mX11_count) 0 dX11_count_155 156 rfl rfl rfl ?_
        refine iv_get (M := mX11_count) (l1 := 0) (l2 := 65535) dX11_count_156 FX11 8 wd415 (by decide) (tl0 hT) rfl I rfl 159 rfl (fun v24 ev24 pv24 qv24 => ?_)
        have k159 := ev24
        exact pv_iret (M := mX11_count) dX11_count_159 rfl rfl ⟨_, rfl, rfl, (iv_rng v24).1, (iv_rng v24).2, (Or.inr (Or.inr (Or.inl ⟨by omega, by omega, by rw [show x0.toInt.toNat = 6 by omega]; exact k159⟩)))⟩
      by_cases c26 : x0.toInt = 7
      · refine iv_tabIn (M := mX11_count) (X := 7) (off := 91) (tgt := 160) dX11_count_69 c26 (by decide) (by decide) (by decide) (by decide) ?_
        refine pv_aload_n (M := mX11_count) 0 dX11_count_160 161 rfl rfl rfl ?_
        refine mv_get (M := mX11_count) (v := .ref 97) dX11_count_161 FX11 6 wd413 (by decide) (tl0 hT) rfl rfl 164 rfl ?_
        refine pv_callv (M := mX11_count) (as := []) (st := []) (kc2 := 0) (ks2 := 0) dX11_count_164 wd1163 YX1_costOfAll ⟨wd1164, wd1165⟩ (mk_get (tl97 hT)) rfl rfl (s_X1_costOfAll_va g hT I) rfl rfl (Nat.le_of_ble_eq_true rfl) (by decide) rfl rfl 167 rfl (fun rv h1 q27 => ?_)
        obtain ⟨v28, rfl, rfl, pv28, qv28, rv28⟩ := q27
        replace rv28 : v28 = smc (m 101) (m 97 6).toInt.toNat := rv28
        show PV _ _ _ _ _ _ _ 167 [.ref 0, .int x0] [.int v28] _
        have k167 := rv28
        exact pv_iret (M := mX11_count) dX11_count_167 rfl rfl ⟨_, rfl, rfl, (iv_rng v28).1, (iv_rng v28).2, (Or.inr (Or.inr (Or.inl ⟨by omega, by omega, by rw [show x0.toInt.toNat = 7 by omega]; exact k167⟩)))⟩
      refine pv_tableOut (M := mX11_count) (tgt := 168) dX11_count_69 (by omega) (by decide) ?_
      refine pv_iconst (M := mX11_count) (v := (-1)) dX11_count_168 169 rfl (by decide) ?_
      have z30 : ((-1) : Int32).toInt = (-1) := by decide
      exact pv_iret (M := mX11_count) dX11_count_169 rfl rfl ⟨_, rfl, rfl, by decide, by decide, (Or.inr (Or.inr (Or.inr ⟨by omega, by decide⟩)))⟩
    · have c3 := iv_nlt (X := x0.toInt) (Y := 20) c3 rfl (by decide)
      omega
  · have c2 := iv_nlt (X := x0.toInt) (Y := 10) c2 rfl (by decide)
    refine pv_iload_n (M := mX11_count) 1 dX11_count_6 7 rfl rfl rfl ?_
    refine pv_bipush (M := mX11_count) (v := 18) dX11_count_7 9 rfl (by decide) ?_
    refine pv_icmp_ge (M := mX11_count) (tgt := 43) dX11_count_9 12 rfl (by decide) (fun c31 => ?_) (fun c31 => ?_)
    · have c31 := iv_le (X := 18) (Y := x0.toInt) c31 (by decide) rfl
      refine pv_iload_n (M := mX11_count) 1 dX11_count_43 44 rfl rfl rfl ?_
      refine pv_bipush (M := mX11_count) (v := 20) dX11_count_44 46 rfl (by decide) ?_
      refine pv_icmp_lt (M := mX11_count) (tgt := 68) dX11_count_46 49 rfl (by decide) (fun c32 => ?_) (fun c32 => ?_)
      · have c32 := iv_lt (X := x0.toInt) (Y := 20) c32 rfl (by decide)
        refine pv_iload_n (M := mX11_count) 1 dX11_count_68 69 rfl rfl rfl ?_
        refine pv_tableOut (M := mX11_count) (tgt := 168) dX11_count_69 (by omega) (by decide) ?_
        refine pv_iconst (M := mX11_count) (v := (-1)) dX11_count_168 169 rfl (by decide) ?_
        have z33 : ((-1) : Int32).toInt = (-1) := by decide
        exact pv_iret (M := mX11_count) dX11_count_169 rfl rfl ⟨_, rfl, rfl, by decide, by decide, (Or.inr (Or.inr (Or.inr ⟨by omega, by decide⟩)))⟩
      · have c32 := iv_nlt (X := x0.toInt) (Y := 20) c32 rfl (by decide)
        refine pv_iload_n (M := mX11_count) 1 dX11_count_49 50 rfl rfl rfl ?_
        refine pv_bipush (M := mX11_count) (v := 28) dX11_count_50 52 rfl (by decide) ?_
        refine pv_icmp_ge (M := mX11_count) (tgt := 68) dX11_count_52 55 rfl (by decide) (fun c34 => ?_) (fun c34 => ?_)
        · have c34 := iv_le (X := 28) (Y := x0.toInt) c34 (by decide) rfl
          refine pv_iload_n (M := mX11_count) 1 dX11_count_68 69 rfl rfl rfl ?_
          refine pv_tableOut (M := mX11_count) (tgt := 168) dX11_count_69 (by omega) (by decide) ?_
          refine pv_iconst (M := mX11_count) (v := (-1)) dX11_count_168 169 rfl (by decide) ?_
          have z35 : ((-1) : Int32).toInt = (-1) := by decide
          exact pv_iret (M := mX11_count) dX11_count_169 rfl rfl ⟨_, rfl, rfl, by decide, by decide, (Or.inr (Or.inr (Or.inr ⟨by omega, by decide⟩)))⟩
        · have c34 := iv_nle (X := 28) (Y := x0.toInt) c34 (by decide) rfl
          refine pv_aload_n (M := mX11_count) 0 dX11_count_55 56 rfl rfl rfl ?_
          refine mv_get (M := mX11_count) (v := .ref 60) dX11_count_56 FX11 3 wd410 (by decide) (tl0 hT) rfl rfl 59 rfl ?_
          refine pv_iload_n (M := mX11_count) 1 dX11_count_59 60 rfl rfl rfl ?_
          refine pv_bipush (M := mX11_count) (v := 20) dX11_count_60 62 rfl (by decide) ?_
          refine iv_isub (M := mX11_count) (X := x0.toInt) (Y := 20) dX11_count_62 63 rfl rfl (by decide) (by omega) (by omega) (fun v36 ev36 => ?_)
          refine iv_qdeed (M := mX11_count) (X := v36.toInt) dX11_count_63 hT R rfl (by omega) (by omega) 64 rfl (fun b37 eb37 hb37 => ?_)
          have zb37 := hb37.2.2.2.2
          refine iv_get (M := mX11_count) (l1 := 0) (l2 := 16) dX11_count_64 FX8 1 wd200 (by decide) hb37.1 rfl I hb37.2.2.1 67 rfl (fun v38 ev38 pv38 qv38 => ?_)
          have k67 : v38 = m (61 + 2 * (x0.toInt - 20).toNat) 1 := ev38.trans (congrArg (fun z => m z 1) (by omega))
          exact pv_iret (M := mX11_count) dX11_count_67 rfl rfl ⟨_, rfl, rfl, (iv_rng v38).1, (iv_rng v38).2, (Or.inr (Or.inl ⟨by omega, by omega, k67⟩))⟩
    · have c31 := iv_nle (X := 18) (Y := x0.toInt) c31 (by decide) rfl
      refine pv_aload_n (M := mX11_count) 0 dX11_count_12 13 rfl rfl rfl ?_
      refine pv_iload_n (M := mX11_count) 1 dX11_count_13 14 rfl rfl rfl ?_
      refine pv_bipush (M := mX11_count) (v := 10) dX11_count_14 16 rfl (by decide) ?_
      refine iv_isub (M := mX11_count) (X := x0.toInt) (Y := 10) dX11_count_16 17 rfl rfl (by decide) (by omega) (by omega) (fun v40 ev40 => ?_)
      refine pv_callv (M := mX11_count) (as := [.int v40]) (st := []) (kc2 := 0) (ks2 := 0) dX11_count_17 wd700 YX11_isBlank ⟨wd702, wd16⟩ (mk_get (tl0 hT)) rfl rfl (s_X11_isBlank_vx g hT I R v40) rfl rfl (Nat.le_of_ble_eq_true rfl) (by decide) rfl rfl 20 rfl (fun rv h1 q41 => ?_)
      obtain ⟨v42, rfl, rfl, pv42, qv42, rv42⟩ := q41
      replace rv42 : (v42 = 0 ∨ (0 ≤ v40.toInt ∧ v40.toInt ≤ 7)) ∧ ((v42.toInt = 1 ∧ 0 ≤ v40.toInt ∧ v40.toInt < (m 0 2).toInt) ∨ (v42.toInt = 0 ∧ (v40.toInt < 0 ∨ (m 0 2).toInt ≤ v40.toInt))) := rv42
      show PV _ _ _ _ _ _ _ 20 [.ref 0, .int x0] [.int v42] _
      have k20 := rv42.2
      refine pv_if_eq (M := mX11_count) (tgt := 41) dX11_count_20 23 rfl (by decide) (fun c44 => ?_) (fun c44 => ?_)
      · have c44 := iv_eq (X := v42.toInt) (Y := 0) c44 rfl (by decide)
        refine pv_iconst (M := mX11_count) (v := (-1)) dX11_count_41 42 rfl (by decide) ?_
        have z45 : ((-1) : Int32).toInt = (-1) := by decide
        exact pv_iret (M := mX11_count) dX11_count_42 rfl rfl ⟨_, rfl, rfl, by decide, by decide, (by (try dsimp only); first | exact Or.inl ⟨by omega, by omega, by show _ = (m (4 + 7 * (x0.toInt - 10).toNat + 3) 1).toInt; omega⟩ | exact Or.inr (Or.inr (Or.inr ⟨by omega, by decide⟩)))⟩
      · have pc44 := rv42.1.resolve_left c44
        have c44 := iv_ne (X := v42.toInt) (Y := 0) c44 rfl (by decide)
        refine pv_aload_n (M := mX11_count) 0 dX11_count_23 24 rfl rfl rfl ?_
        refine mv_get (M := mX11_count) (v := .ref 3) dX11_count_24 FX11 1 wd408 (by decide) (tl0 hT) rfl rfl 27 rfl ?_
        refine pv_iload_n (M := mX11_count) 1 dX11_count_27 28 rfl rfl rfl ?_
        refine pv_bipush (M := mX11_count) (v := 10) dX11_count_28 30 rfl (by decide) ?_
        refine iv_isub (M := mX11_count) (X := x0.toInt) (Y := 10) dX11_count_30 31 rfl rfl (by decide) (by omega) (by omega) (fun v46 ev46 => ?_)
        refine iv_qblank (M := mX11_count) (X := v46.toInt) dX11_count_31 hT R rfl (by omega) (by omega) 32 rfl (fun b47 eb47 hb47 => ?_)
        have zb47 := hb47.2.2.2.2.2.2.2
        refine mv_get (M := mX11_count) (v := .ref (b47 + 3)) dX11_count_32 FX0 1 wd210 (by decide) hb47.1 rfl rfl 35 rfl ?_
        refine iv_get (M := mX11_count) (l1 := 0) (l2 := 40) dX11_count_35 FX8 1 wd200 (by decide) hb47.2.2.1.1 rfl I hb47.2.2.1.2.2.1 38 rfl (fun v48 ev48 pv48 qv48 => ?_)
        have k38 : v48.toInt = (m (4 + 7 * (x0.toInt - 10).toNat + 3) 1).toInt := (congrArg Int32.toInt ev48).trans (congrArg (fun z => (m z 1).toInt) (by omega))
        refine pv_goto (M := mX11_count) (tgt := 42) dX11_count_38 (by decide) ?_
        exact pv_iret (M := mX11_count) dX11_count_42 rfl rfl ⟨_, rfl, rfl, (iv_rng v48).1, (iv_rng v48).2, (by (try dsimp only); first | exact Or.inl ⟨by omega, by omega, by show _ = (m (4 + 7 * (x0.toInt - 10).toNat + 3) 1).toInt; omega⟩ | exact Or.inr (Or.inr (Or.inr ⟨by omega, by decide⟩)))⟩

set_option maxHeartbeats 2000000 in
set_option maxRecDepth 20000 in
theorem s_X12_count_va (g : pv_G) {T : List mv_T} {m : Nat → Nat → Int32} {n : Nat → Nat → Int64} {r : Nat → Value} (hT : TX T) (I : IV BB m) (x0 : Int32) : PM g mX12_count yX12_count (sqP (mk T m n r) (-2147483648) 2147483647 (fun v => CNT x0 (m 123 0).toInt (fun y => nu m y 0) (m 126) (cntR m) v)) 2 0 0 [.ref 123, .int x0] (mk T m n r) := by
  have Kp : fr (wl []) m m := fr.rf
  have z48 : 0 ≤ (m 123 0).toInt ∧ (m 123 0).toInt ≤ 8 := I 123 0
  refine PM.of 0 (lo := [.ref 123, .int x0]) rfl (by decide) rfl rfl (Nat.le_of_ble_eq_true rfl) ?_
  have kn0 : 0 ≤ (m 123 0).toInt ∧ (m 123 0).toInt ≤ 8 := I 123 0
  refine pv_iload_n (M := mX12_count) 1 dX12_count_0 1 rfl rfl rfl ?_
  by_cases c2 : x0.toInt = 0
  · refine iv_tabIn (M := mX12_count) (X := 0) (off := 47) (tgt := 48) dX12_count_1 c2 (by decide) (by decide) (by decide) (by decide) ?_
    refine pv_aload_n (M := mX12_count) 0 dX12_count_48 49 rfl rfl rfl ?_
    refine iv_get (M := mX12_count) (l1 := 0) (l2 := 8) dX12_count_49 FX12 0 wd1173 (by decide) (tl123 hT) rfl I rfl 52 rfl (fun v3 ev3 pv3 qv3 => ?_)
    have wv3 : v3.toInt = (m 123 0).toInt := congrArg Int32.toInt ev3
    have k52 := ev3
    exact pv_iret (M := mX12_count) dX12_count_52 rfl rfl ⟨_, rfl, rfl, (iv_rng v3).1, (iv_rng v3).2, (Or.inr (Or.inr (Or.inl ⟨by omega, by omega, by rw [show x0.toInt.toNat = 0 by omega]; exact k52⟩)))⟩
  by_cases c5 : x0.toInt = 1
  · refine iv_tabIn (M := mX12_count) (X := 1) (off := 52) (tgt := 53) dX12_count_1 c5 (by decide) (by decide) (by decide) (by decide) ?_
    refine pv_aload_n (M := mX12_count) 0 dX12_count_53 54 rfl rfl rfl ?_
    refine iv_get (M := mX12_count) (l1 := 0) (l2 := 255) dX12_count_54 FX12 4 wd1177 (by decide) (tl123 hT) rfl I rfl 57 rfl (fun v6 ev6 pv6 qv6 => ?_)
    have k57 := ev6
    exact pv_iret (M := mX12_count) dX12_count_57 rfl rfl ⟨_, rfl, rfl, (iv_rng v6).1, (iv_rng v6).2, (Or.inr (Or.inr (Or.inl ⟨by omega, by omega, by rw [show x0.toInt.toNat = 1 by omega]; exact k57⟩)))⟩
  by_cases c8 : x0.toInt = 2
  · refine iv_tabIn (M := mX12_count) (X := 2) (off := 57) (tgt := 58) dX12_count_1 c8 (by decide) (by decide) (by decide) (by decide) ?_
    refine pv_aload_n (M := mX12_count) 0 dX12_count_58 59 rfl rfl rfl ?_
    refine iv_get (M := mX12_count) (l1 := 0) (l2 := 12) dX12_count_59 FX12 20 wd1193 (by decide) (tl123 hT) rfl I rfl 62 rfl (fun v9 ev9 pv9 qv9 => ?_)
    have k62 := ev9
    exact pv_iret (M := mX12_count) dX12_count_62 rfl rfl ⟨_, rfl, rfl, (iv_rng v9).1, (iv_rng v9).2, (Or.inr (Or.inr (Or.inl ⟨by omega, by omega, by rw [show x0.toInt.toNat = 2 by omega]; exact k62⟩)))⟩
  by_cases c11 : x0.toInt = 3
  · refine iv_tabIn (M := mX12_count) (X := 3) (off := 62) (tgt := 63) dX12_count_1 c11 (by decide) (by decide) (by decide) (by decide) ?_
    refine pv_aload_n (M := mX12_count) 0 dX12_count_63 64 rfl rfl rfl ?_
    refine iv_get (M := mX12_count) (l1 := 0) (l2 := 200) dX12_count_64 FX12 11 wd1184 (by decide) (tl123 hT) rfl I rfl 67 rfl (fun v12 ev12 pv12 qv12 => ?_)
    have k67 := ev12
    exact pv_iret (M := mX12_count) dX12_count_67 rfl rfl ⟨_, rfl, rfl, (iv_rng v12).1, (iv_rng v12).2, (Or.inr (Or.inr (Or.inl ⟨by omega, by omega, by rw [show x0.toInt.toNat = 3 by omega]; exact k67⟩)))⟩
  by_cases c14 : x0.toInt = 4
  · refine iv_tabIn (M := mX12_count) (X := 4) (off := 67) (tgt := 68) dX12_count_1 c14 (by decide) (by decide) (by decide) (by decide) ?_
    refine pv_aload_n (M := mX12_count) 0 dX12_count_68 69 rfl rfl rfl ?_
    refine iv_get (M := mX12_count) (l1 := 0) (l2 := 999) dX12_count_69 FX12 1 wd1174 (by decide) (tl123 hT) rfl I rfl 72 rfl (fun v15 ev15 pv15 qv15 => ?_)
    have k72 := ev15
    exact pv_iret (M := mX12_count) dX12_count_72 rfl rfl ⟨_, rfl, rfl, (iv_rng v15).1, (iv_rng v15).2, (Or.inr (Or.inr (Or.inl ⟨by omega, by omega, by rw [show x0.toInt.toNat = 4 by omega]; exact k72⟩)))⟩
  by_cases c17 : x0.toInt = 5
  · refine iv_tabIn (M := mX12_count) (X := 5) (off := 72) (tgt := 73) dX12_count_1 c17 (by decide) (by decide) (by decide) (by decide) ?_
    refine pv_aload_n (M := mX12_count) 0 dX12_count_73 74 rfl rfl rfl ?_
    refine iv_get (M := mX12_count) (l1 := 0) (l2 := 60) dX12_count_74 FX12 3 wd1176 (by decide) (tl123 hT) rfl I rfl 77 rfl (fun v18 ev18 pv18 qv18 => ?_)
    have k77 := ev18
    exact pv_iret (M := mX12_count) dX12_count_77 rfl rfl ⟨_, rfl, rfl, (iv_rng v18).1, (iv_rng v18).2, (Or.inr (Or.inr (Or.inl ⟨by omega, by omega, by rw [show x0.toInt.toNat = 5 by omega]; exact k77⟩)))⟩
  by_cases c20 : x0.toInt = 6
  · refine iv_tabIn (M := mX12_count) (X := 6) (off := 77) (tgt := 78) dX12_count_1 c20 (by decide) (by decide) (by decide) (by decide) ?_
    refine pv_aload_n (M := mX12_count) 0 dX12_count_78 79 rfl rfl rfl ?_
    refine iv_get (M := mX12_count) (l1 := 0) (l2 := 65535) dX12_count_79 FX12 2 wd1175 (by decide) (tl123 hT) rfl I rfl 82 rfl (fun v21 ev21 pv21 qv21 => ?_)
    have k82 := ev21
    exact pv_iret (M := mX12_count) dX12_count_82 rfl rfl ⟨_, rfl, rfl, (iv_rng v21).1, (iv_rng v21).2, (Or.inr (Or.inr (Or.inl ⟨by omega, by omega, by rw [show x0.toInt.toNat = 6 by omega]; exact k82⟩)))⟩
  by_cases c23 : x0.toInt = 7
  · refine iv_tabIn (M := mX12_count) (X := 7) (off := 82) (tgt := 83) dX12_count_1 c23 (by decide) (by decide) (by decide) (by decide) ?_
    refine pv_aload_n (M := mX12_count) 0 dX12_count_83 84 rfl rfl rfl ?_
    refine pv_callv (M := mX12_count) (as := []) (st := []) (kc2 := 0) (ks2 := 0) dX12_count_84 wd1795 YX12_costAll ⟨wd1797, wd123⟩ (mk_get (tl123 hT)) rfl rfl (s_X12_costAll_va g hT I) rfl rfl (Nat.le_of_ble_eq_true rfl) (by decide) rfl rfl 87 rfl (fun rv h1 q24 => ?_)
    obtain ⟨v25, rfl, rfl, pv25, qv25, rv25⟩ := q24
    replace rv25 : v25 = smc (m 146) (m 123 3).toInt.toNat := rv25
    show PV _ _ _ _ _ _ _ 87 [.ref 123, .int x0] [.int v25] _
    have k87 := rv25
    exact pv_iret (M := mX12_count) dX12_count_87 rfl rfl ⟨_, rfl, rfl, (iv_rng v25).1, (iv_rng v25).2, (Or.inr (Or.inr (Or.inl ⟨by omega, by omega, by rw [show x0.toInt.toNat = 7 by omega]; exact k87⟩)))⟩
  refine pv_tableOut (M := mX12_count) (tgt := 88) dX12_count_1 (by omega) (by decide) ?_
  refine pv_iload_n (M := mX12_count) 1 dX12_count_88 89 rfl rfl rfl ?_
  refine pv_bipush (M := mX12_count) (v := 10) dX12_count_89 91 rfl (by decide) ?_
  refine pv_bipush (M := mX12_count) (v := 9) dX12_count_91 93 rfl (by decide) ?_
  refine pv_aload_n (M := mX12_count) 0 dX12_count_93 94 rfl rfl rfl ?_
  refine iv_get (M := mX12_count) (l1 := 0) (l2 := 8) dX12_count_94 FX12 0 wd1173 (by decide) (tl123 hT) rfl I rfl 97 rfl (fun v27 ev27 pv27 qv27 => ?_)
  have wv27 : v27.toInt = (m 123 0).toInt := congrArg Int32.toInt ev27
  refine iv_iadd (M := mX12_count) (X := 9) (Y := v27.toInt) dX12_count_97 98 rfl (by decide) rfl (by omega) (by omega) (fun v28 ev28 => ?_)
  have z29 : (10 : Int32).toInt = 10 := by decide
  refine pv_calls (M := mX12_count) (as := [.int x0, .int 10, .int v28]) (st := []) (kc2 := 0) (ks2 := 0) dX12_count_98 wd1370 YX12_in wd1371 (s_X12_in_vx g hT I x0 10 v28) rfl rfl (Nat.le_of_ble_eq_true rfl) (by decide) rfl rfl 101 rfl (fun rv h1 q30 => ?_)
  obtain ⟨v31, rfl, rfl, pv31, qv31, rv31⟩ := q30
  replace rv31 : (v31 = 0 ∨ ((10 : Int) ≤ x0.toInt ∧ x0.toInt ≤ v28.toInt)) ∧ ((v31.toInt = 1 ∧ (10 : Int) ≤ x0.toInt ∧ x0.toInt ≤ v28.toInt) ∨ (v31.toInt = 0 ∧ (x0.toInt < (10 : Int) ∨ v28.toInt < x0.toInt))) := by have q_ := rv31; (try rw [z29] at q_); exact q_
  show PV _ _ _ _ _ _ _ 101 [.ref 123, .int x0] [.int v31] _
  have k101 := rv31.2
  refine pv_if_eq (M := mX12_count) (tgt := 113) dX12_count_101 104 rfl (by decide) (fun c33 => ?_) (fun c33 => ?_)
  · have c33 := iv_eq (X := v31.toInt) (Y := 0) c33 rfl (by decide)
    refine pv_iload_n (M := mX12_count) 1 dX12_count_113 114 rfl rfl rfl ?_
    refine pv_bipush (M := mX12_count) (v := 20) dX12_count_114 116 rfl (by decide) ?_
    refine pv_bipush (M := mX12_count) (v := 27) dX12_count_116 118 rfl (by decide) ?_
    have z34 : (20 : Int32).toInt = 20 := by decide
    have z35 : (27 : Int32).toInt = 27 := by decide
    refine pv_calls (M := mX12_count) (as := [.int x0, .int 20, .int 27]) (st := []) (kc2 := 0) (ks2 := 0) dX12_count_118 wd1370 YX12_in wd1371 (s_X12_in_vx g hT I x0 20 27) rfl rfl (Nat.le_of_ble_eq_true rfl) (by decide) rfl rfl 121 rfl (fun rv h1 q36 => ?_)
    obtain ⟨v37, rfl, rfl, pv37, qv37, rv37⟩ := q36
    replace rv37 : (v37 = 0 ∨ ((20 : Int) ≤ x0.toInt ∧ x0.toInt ≤ (27 : Int))) ∧ ((v37.toInt = 1 ∧ (20 : Int) ≤ x0.toInt ∧ x0.toInt ≤ (27 : Int)) ∨ (v37.toInt = 0 ∧ (x0.toInt < (20 : Int) ∨ (27 : Int) < x0.toInt))) := by have q_ := rv37; (try rw [z34] at q_); (try rw [z35] at q_); exact q_
    show PV _ _ _ _ _ _ _ 121 [.ref 123, .int x0] [.int v37] _
    have k121 := rv37.2
    refine pv_if_eq (M := mX12_count) (tgt := 136) dX12_count_121 124 rfl (by decide) (fun c39 => ?_) (fun c39 => ?_)
    · have c39 := iv_eq (X := v37.toInt) (Y := 0) c39 rfl (by decide)
      refine pv_iconst (M := mX12_count) (v := (-1)) dX12_count_136 137 rfl (by decide) ?_
      have z40 : ((-1) : Int32).toInt = (-1) := by decide
      exact pv_iret (M := mX12_count) dX12_count_137 rfl rfl ⟨_, rfl, rfl, by decide, by decide, (by (try dsimp only); first | exact Or.inr (Or.inl ⟨by omega, by omega, k133⟩) | exact Or.inr (Or.inr (Or.inr ⟨by omega, by decide⟩)))⟩
    · have pc39 := rv37.1.resolve_left c39
      have c39 := iv_ne (X := v37.toInt) (Y := 0) c39 rfl (by decide)
      refine pv_aload_n (M := mX12_count) 0 dX12_count_124 125 rfl rfl rfl ?_
      refine mv_get (M := mX12_count) (v := .ref 126) dX12_count_125 FX12 7 wd1180 (by decide) (tl123 hT) rfl rfl 128 rfl ?_
      refine pv_iload_n (M := mX12_count) 1 dX12_count_128 129 rfl rfl rfl ?_
      refine pv_bipush (M := mX12_count) (v := 20) dX12_count_129 131 rfl (by decide) ?_
      refine iv_isub (M := mX12_count) (X := x0.toInt) (Y := 20) dX12_count_131 132 rfl rfl (by decide) (by omega) (by omega) (fun v41 ev41 => ?_)
      refine iv_iald (M := mX12_count) (X := v41.toInt) (l1 := 0) (l2 := 16) dX12_count_132 (tl126 hT) rfl (by omega) (by omega) I (fun _ => rfl) 133 rfl (fun v42 ev42 pv42 qv42 => ?_)
      have k133 : v42 = m 126 (x0.toInt - 20).toNat := ev42.trans (congrArg (m 126) (by omega))
      refine pv_goto (M := mX12_count) (tgt := 137) dX12_count_133 (by decide) ?_
      exact pv_iret (M := mX12_count) dX12_count_137 rfl rfl ⟨_, rfl, rfl, (iv_rng v42).1, (iv_rng v42).2, (by (try dsimp only); first | exact Or.inr (Or.inl ⟨by omega, by omega, k133⟩) | exact Or.inr (Or.inr (Or.inr ⟨by omega, by decide⟩)))⟩
  · have pc33 := rv31.1.resolve_left c33
    have c33 := iv_ne (X := v31.toInt) (Y := 0) c33 rfl (by decide)
    refine pv_aload_n (M := mX12_count) 0 dX12_count_104 105 rfl rfl rfl ?_
    refine pv_iload_n (M := mX12_count) 1 dX12_count_105 106 rfl rfl rfl ?_
    refine pv_bipush (M := mX12_count) (v := 10) dX12_count_106 108 rfl (by decide) ?_
    refine iv_isub (M := mX12_count) (X := x0.toInt) (Y := 10) dX12_count_108 109 rfl rfl (by decide) (by omega) (by omega) (fun v44 ev44 => ?_)
    refine pv_callv (M := mX12_count) (as := [.int v44]) (st := []) (kc2 := 0) (ks2 := 0) dX12_count_109 wd1393 YX12_leftMany ⟨wd1395, wd56⟩ (mk_get (tl123 hT)) rfl rfl (s_X12_leftMany g hT I v44 (by omega) (by omega)) rfl rfl (Nat.le_of_ble_eq_true rfl) (by decide) rfl rfl 112 rfl (fun rv h1 q45 => ?_)
    obtain ⟨v46, rfl, rfl, pv46, qv46, rv46⟩ := q45
    replace rv46 : v46.toInt = nu m v44.toInt 0 := rv46
    show PV _ _ _ _ _ _ _ 112 [.ref 123, .int x0] [.int v46] _
    have k112 := rv46
    exact pv_iret (M := mX12_count) dX12_count_112 rfl rfl ⟨_, rfl, rfl, (iv_rng v46).1, (iv_rng v46).2, (Or.inl ⟨by omega, by omega, k112.trans (congrArg (fun z => nu m z 0) (by omega))⟩)⟩
