set_option maxHeartbeats 2000000 in
set_option maxRecDepth 20000 in
theorem s_X3_howMany (g : pv_G) {T : List mv_T} {m : Nat → Nat → Int32} {n : Nat → Nat → Int64} {r : Nat → Value} (hT : TX T) (I : IV BB m) (hC : TC T) : PM g mX3_howMany yX3_howMany (sqPJ (mk T m n r)) 1 0 0 [.ref 169] (mk T m n r) := by
  have Kp : fr (wl []) m m := fr.rf
  refine PM.of 0 (lo := [.ref 169]) rfl (by decide) rfl rfl (Nat.le_of_ble_eq_true rfl) ?_
  refine pv_aload_n (M := mX3_howMany) 0 dX3_howMany_0 1 rfl rfl rfl ?_
  refine mv_get (M := mX3_howMany) (v := .ref 179) dX3_howMany_1 FX3 9 wd990 (by decide) (tc169 hC) rfl rfl 4 rfl ?_
  refine pv_iconst (M := mX3_howMany) (v := 0) dX3_howMany_4 5 rfl (by decide) ?_
  refine iv_lald (M := mX3_howMany) (X := 0) dX3_howMany_5 (tc179 hC) (by decide) (by omega) (by omega) 6 rfl (fun v1 ev1 => ?_)
  exact pv_lret (M := mX3_howMany) dX3_howMany_6 rfl ⟨_, rfl, rfl⟩

set_option maxHeartbeats 2000000 in
set_option maxRecDepth 20000 in
theorem s_X3_lookAhead (g : pv_G) {T : List mv_T} {m : Nat → Nat → Int32} {n : Nat → Nat → Int64} {r : Nat → Value} (hT : TX T) (I : IV BB m) (hC : TC T) {pp qq : Nat → Nat} (P : PX T r pp qq) (hp0 : Dj pp) (hp1 : ATx m pp) : PM g mX3_lookAhead yX3_lookAhead (sqV T BB (wl [(177, 177, none)]) r m (fun m' => ∀ d, d < 4 → (m' 177 d).toInt = lap m pp d)) 1 0 0 [.ref 169] (mk T m n r) := by
  have Kp : fr (wl [(177, 177, none)]) m m := fr.rf
  refine PM.of 1 (lo := [.ref 169, pv_U]) rfl (by decide) rfl rfl (Nat.le_of_ble_eq_true rfl) ?_
  refine pv_iconst (M := mX3_lookAhead) (v := 0) dX3_lookAhead_0 1 rfl (by decide) ?_
  refine pv_istore_n (M := mX3_lookAhead) 1 (lo2 := [.ref 169, .int 0]) dX3_lookAhead_1 2 rfl rfl (by decide) rfl rfl ?_
  have lp7 : ∀ (fuel6 : Nat) (y1 : Int32) (m2 : Nat → Nat → Int32) (n3 : Nat → Nat → Int64), (0 ≤ y1.toInt) → (y1.toInt ≤ 4) → (∀ d : Nat, (d : Int) < y1.toInt → (m2 177 d).toInt = lap m pp d) → IV BB m2 → fr (wl [(177, 177, none)]) m m2 → ((4 - y1.toInt) : Int).toNat < fuel6 → PV none g mX3_lookAhead (sqV T BB (wl [(177, 177, none)]) r m (fun m' => ∀ d, d < 4 → (m' 177 d).toInt = lap m pp d)) 1 0 0 2 [.ref 169, .int y1] [] (mk T m2 n3 r) := by
    intro fuel6
    induction fuel6 with
    | zero => intro y1 m2 n3 b9 b10 b11 I4 K5 z12; omega
    | succ fuel6 ih8 =>
      intro y1 m2 n3 b9 b10 b11 I4 K5 z12
      have kg := (show ∀ d : Nat, (d : Int) < y1.toInt → (m2 177 d).toInt = lap m pp d by assumption)
      have kF : ∀ b j, b ≤ 176 → m2 b j = m b j := fun b j h => K5 b j (wr_out (by omega))
      refine pv_iload_n (M := mX3_lookAhead) 1 dX3_lookAhead_2 3 rfl rfl rfl ?_
      refine pv_iconst (M := mX3_lookAhead) (v := 4) dX3_lookAhead_3 4 rfl (by decide) ?_
      refine pv_icmp_ge (M := mX3_lookAhead) (tgt := 57) dX3_lookAhead_4 7 rfl (by decide) (fun c15 => ?_) (fun c15 => ?_)
      · have c15 := iv_le (X := 4) (Y := y1.toInt) c15 (by decide) rfl
        exact pv_vret (M := mX3_lookAhead) dX3_lookAhead_57 rfl ⟨_, _, rfl, rfl, I4, K5, (fun d hd => kg d (by omega))⟩
      · have c15 := iv_nle (X := 4) (Y := y1.toInt) c15 (by decide) rfl
        have kd := hp0 y1.toInt.toNat (by omega)
        have ka := hp1 y1.toInt.toNat (by omega)
        refine pv_aload_n (M := mX3_lookAhead) 0 dX3_lookAhead_7 8 rfl rfl rfl ?_
        refine mv_get (M := mX3_lookAhead) (v := .ref 177) dX3_lookAhead_8 FX3 7 wd988 (by decide) (tc169 hC) rfl rfl 11 rfl ?_
        refine pv_iload_n (M := mX3_lookAhead) 1 dX3_lookAhead_11 12 rfl rfl rfl ?_
        refine pv_aload_n (M := mX3_lookAhead) 0 dX3_lookAhead_12 13 rfl rfl rfl ?_
        refine mv_get (M := mX3_lookAhead) (v := .ref 175) dX3_lookAhead_13 FX3 5 wd986 (by decide) (tc169 hC) rfl rfl 16 rfl ?_
        refine pv_iload_n (M := mX3_lookAhead) 1 dX3_lookAhead_16 17 rfl rfl rfl ?_
        refine iv_iald (M := mX3_lookAhead) (X := y1.toInt) (l1 := (-1)) (l2 := 12) dX3_lookAhead_17 (tc175 hC) rfl (by omega) (by omega) I4 (fun _ => rfl) 18 rfl (fun v18 ev18 pv18 qv18 => ?_)
        have k18 : v18.toInt = atp m y1.toInt.toNat := congrArg Int32.toInt (ev18.trans (kF _ _ (by omega)))
        refine pv_aload_n (M := mX3_lookAhead) 0 dX3_lookAhead_18 19 rfl rfl rfl ?_
        refine mv_get (M := mX3_lookAhead) (v := .ref 172) dX3_lookAhead_19 FX3 2 wd983 (by decide) (tc169 hC) rfl rfl 22 rfl ?_
        refine pv_iload_n (M := mX3_lookAhead) 1 dX3_lookAhead_22 23 rfl rfl rfl ?_
        refine iv_qpart (M := mX3_lookAhead) (X := y1.toInt) dX3_lookAhead_23 hC P rfl (by omega) (by omega) 24 rfl (fun b20 rb20 eb20 fb20 hb20 => ?_)
        have zb20 := hb20.2.2.2.2
        refine iv_get (M := mX3_lookAhead) (l1 := 0) (l2 := (rb20 : Int)) dX3_lookAhead_24 FX8 1 wd197 (by decide) hb20.1 rfl I4 hb20.2.2.1 27 rfl (fun v21 ev21 pv21 qv21 => ?_)
        have k27 : v21.toInt = szp m pp y1.toInt.toNat := (congrArg Int32.toInt (ev21.trans (kF _ _ (by omega)))).trans (congrArg (fun z => (m z 1).toInt) (by assumption))
        refine pv_icmp_ge (M := mX3_lookAhead) (tgt := 49) dX3_lookAhead_27 30 rfl (by decide) (fun c23 => ?_) (fun c23 => ?_)
        · have c23 := iv_le (X := v21.toInt) (Y := v18.toInt) c23 rfl rfl
          refine pv_iconst (M := mX3_lookAhead) (v := (-1)) dX3_lookAhead_49 50 rfl (by decide) ?_
          have k50 : (-1) = lap m pp y1.toInt.toNat := by unfold lap; first | exact k46.trans (if_pos (by omega)).symm | exact (if_neg (by omega)).symm
          refine iv_iast (M := mX3_lookAhead) (X := y1.toInt) (l1 := (-2147483648)) (l2 := 2147483647) dX3_lookAhead_50 (tc177 hC) rfl (by omega) (by omega) I4 (fun _ => rfl) (by decide) (by decide) 51 rfl (fun m25 e28 I26 => ?_)
          have K27 := K5.set e28 (wl_r (by omega) (by omega))
          have k51 := (e28).trans (up2_ix (j := y1.toInt.toNat) (by omega))
          refine iv_inc (M := mX3_lookAhead) (C := 1) dX3_lookAhead_51 54 rfl rfl (by decide) rfl rfl (by decide) (by omega) (by omega) (fun v30 ev30 => ?_)
          show PV _ _ _ _ _ _ _ 54 [.ref 169, .int v30] [] _
          refine pv_goto (M := mX3_lookAhead) (tgt := 2) dX3_lookAhead_54 (by decide) ?_
          have kb : ∀ d : Nat, (d : Int) < v30.toInt → (m25 177 d).toInt = lap m pp d := fun d a => if z : (d : Int) = y1.toInt then by rw [k51, show d = (y1.toInt).toNat by omega, up2_eq]; first | exact k50 | (rw [show ((-1 : Int32)).toInt = -1 by decide]; exact k50) else by rw [k51, up2_ne (by omega)]; exact kg d (by omega)
          exact ih8 v30 m25 n3 (by first | omega | assumption | exact (iv_rng _).2 | exact (iv_rng _).1 | decide) (by first | omega | assumption | exact (iv_rng _).2 | exact (iv_rng _).1 | decide) kb I26 K27 (by omega)
        · have c23 := iv_nle (X := v21.toInt) (Y := v18.toInt) c23 rfl rfl
          refine pv_aload_n (M := mX3_lookAhead) 0 dX3_lookAhead_30 31 rfl rfl rfl ?_
          refine mv_get (M := mX3_lookAhead) (v := .ref 172) dX3_lookAhead_31 FX3 2 wd983 (by decide) (tc169 hC) rfl rfl 34 rfl ?_
          refine pv_iload_n (M := mX3_lookAhead) 1 dX3_lookAhead_34 35 rfl rfl rfl ?_
          refine iv_qpart (M := mX3_lookAhead) (X := y1.toInt) dX3_lookAhead_35 hC P rfl (by omega) (by omega) 36 rfl (fun b32 rb32 eb32 fb32 hb32 => ?_)
          have zb32 := hb32.2.2.2.2
          refine mv_get (M := mX3_lookAhead) (v := .ref (b32 + 1)) dX3_lookAhead_36 FX8 0 wd192 (by decide) hb32.1 rfl rfl 39 rfl ?_
          refine pv_aload_n (M := mX3_lookAhead) 0 dX3_lookAhead_39 40 rfl rfl rfl ?_
          refine mv_get (M := mX3_lookAhead) (v := .ref 175) dX3_lookAhead_40 FX3 5 wd986 (by decide) (tc169 hC) rfl rfl 43 rfl ?_
          refine pv_iload_n (M := mX3_lookAhead) 1 dX3_lookAhead_43 44 rfl rfl rfl ?_
          refine iv_iald (M := mX3_lookAhead) (X := y1.toInt) (l1 := (-1)) (l2 := 12) dX3_lookAhead_44 (tc175 hC) rfl (by omega) (by omega) I4 (fun _ => rfl) 45 rfl (fun v33 ev33 pv33 qv33 => ?_)
          have k45 : v33.toInt = atp m y1.toInt.toNat := congrArg Int32.toInt (ev33.trans (kF _ _ (by omega)))
          refine iv_iald (M := mX3_lookAhead) (X := v33.toInt) (l1 := (-2147483648)) (l2 := 2147483647) dX3_lookAhead_45 hb32.2.1 rfl (by omega) (by omega) I4 hb32.2.2.2.1 46 rfl (fun v35 ev35 pv35 qv35 => ?_)
          have k46 : v35.toInt = (m (pp y1.toInt.toNat + 1) (atp m y1.toInt.toNat).toNat).toInt := (congrArg Int32.toInt (ev35.trans (kF _ _ (by omega)))).trans (by rw [k45]; exact congrArg (fun z => (m (z + 1) _).toInt) (by assumption))
          refine pv_goto (M := mX3_lookAhead) (tgt := 50) dX3_lookAhead_46 (by decide) ?_
          have k50 : v35.toInt = lap m pp y1.toInt.toNat := by unfold lap; first | exact k46.trans (if_pos (by omega)).symm | exact (if_neg (by omega)).symm
          refine iv_iast (M := mX3_lookAhead) (X := y1.toInt) (l1 := (-2147483648)) (l2 := 2147483647) dX3_lookAhead_50 (tc177 hC) rfl (by omega) (by omega) I4 (fun _ => rfl) (iv_rng v35).1 (iv_rng v35).2 51 rfl (fun m38 e41 I39 => ?_)
          have K40 := K5.set e41 (wl_r (by omega) (by omega))
          have k51 := (e41).trans (up2_ix (j := y1.toInt.toNat) (by omega))
          refine iv_inc (M := mX3_lookAhead) (C := 1) dX3_lookAhead_51 54 rfl rfl (by decide) rfl rfl (by decide) (by omega) (by omega) (fun v43 ev43 => ?_)
          show PV _ _ _ _ _ _ _ 54 [.ref 169, .int v43] [] _
          refine pv_goto (M := mX3_lookAhead) (tgt := 2) dX3_lookAhead_54 (by decide) ?_
          have kb : ∀ d : Nat, (d : Int) < v43.toInt → (m38 177 d).toInt = lap m pp d := fun d a => if z : (d : Int) = y1.toInt then by rw [k51, show d = (y1.toInt).toNat by omega, up2_eq]; first | exact k50 | (rw [show ((-1 : Int32)).toInt = -1 by decide]; exact k50) else by rw [k51, up2_ne (by omega)]; exact kg d (by omega)
          exact ih8 v43 m38 n3 (by first | omega | assumption | exact (iv_rng _).2 | exact (iv_rng _).1 | decide) (by first | omega | assumption | exact (iv_rng _).2 | exact (iv_rng _).1 | decide) kb I39 K40 (by omega)
  have z45 : (0 : Int32).toInt = 0 := by decide
  exact lp7 (((4 - 0) : Int).toNat + 1) 0 m n (by first | omega | assumption | exact (iv_rng _).2 | exact (iv_rng _).1 | decide) (by first | omega | assumption | exact (iv_rng _).2 | exact (iv_rng _).1 | decide) (fun d a => by rw [Int32.toInt_zero] at a; omega) I Kp (by omega)

set_option maxHeartbeats 2000000 in
set_option maxRecDepth 20000 in
theorem s_X3_takeLetter (g : pv_G) {T : List mv_T} {m : Nat → Nat → Int32} {n : Nat → Nat → Int64} {r : Nat → Value} (hT : TX T) (I : IV BB m) (hC : TC T) {pp qq : Nat → Nat} (P : PX T r pp qq) (x0 : Int32) (hl0 : 0 ≤ x0.toInt) (hh0 : x0.toInt ≤ 3) (hp0 : Dj pp) (hp1 : S12 (szp m pp)) (hp2 : ATx m pp) (hp3 : APx m pp) (hp4 : AHx m pp) (hp5 : (m 177 x0.toInt.toNat).toInt ≠ -1) : PM g mX3_takeLetter yX3_takeLetter (sqI T BB (wl [(177, 177, none)]) r m 0 28560 (fun m' v => v.toInt ≤ wn (szp m pp) (hw m pp (m 177 x0.toInt.toNat).toInt) 4 ∧ AHx m' pp)) 1 0 0 [.ref 169, .int x0] (mk T m n r) := by
  have Kp : fr (wl [(177, 177, none)]) m m := fr.rf
  refine PM.of 3 (lo := [.ref 169, .int x0, pv_U, pv_U, pv_U]) rfl (by decide) rfl rfl (Nat.le_of_ble_eq_true rfl) ?_
  have kT : wn (szp m pp) (hw m pp (m 177 x0.toInt.toNat).toInt) 4 ≤ 28560 := by have a := hw_le hp1 hp2 (l := (m 177 x0.toInt.toNat).toInt) hp5; have b := ix4_0 hp1 (fun d hd => (hp2 d hd).1); omega
  refine pv_aload_n (M := mX3_takeLetter) 0 dX3_takeLetter_0 1 rfl rfl rfl ?_
  refine mv_get (M := mX3_takeLetter) (v := .ref 177) dX3_takeLetter_1 FX3 7 wd988 (by decide) (tc169 hC) rfl rfl 4 rfl ?_
  refine pv_iload_n (M := mX3_takeLetter) 1 dX3_takeLetter_4 5 rfl rfl rfl ?_
  refine iv_iald (M := mX3_takeLetter) (X := x0.toInt) (l1 := (-2147483648)) (l2 := 2147483647) dX3_takeLetter_5 (tc177 hC) rfl (by omega) (by omega) I (fun _ => rfl) 6 rfl (fun v2 ev2 pv2 qv2 => ?_)
  have k6 : v2.toInt = (m 177 x0.toInt.toNat).toInt := congrArg Int32.toInt ev2
  refine pv_istore_n (M := mX3_takeLetter) 2 (lo2 := [.ref 169, .int x0, .int v2, pv_U, pv_U]) dX3_takeLetter_6 7 rfl rfl (by decide) rfl rfl ?_
  refine pv_iconst (M := mX3_takeLetter) (v := 0) dX3_takeLetter_7 8 rfl (by decide) ?_
  refine pv_istore_n (M := mX3_takeLetter) 3 (lo2 := [.ref 169, .int x0, .int v2, .int 0, pv_U]) dX3_takeLetter_8 9 rfl rfl (by decide) rfl rfl ?_
  refine pv_iload_n (M := mX3_takeLetter) 1 dX3_takeLetter_9 10 rfl rfl rfl ?_
  refine pv_istore (M := mX3_takeLetter) (lo2 := [.ref 169, .int x0, .int v2, .int 0, .int x0]) dX3_takeLetter_10 12 rfl (by decide) rfl rfl ?_
  have lp11 : ∀ (fuel10 : Nat) (y4 : Int32) (y5 : Int32) (m6 : Nat → Nat → Int32) (n7 : Nat → Nat → Int64), (0 ≤ y4.toInt) → (y4.toInt ≤ 28560) → (0 ≤ y5.toInt) → (y5.toInt ≤ 4) → (y4.toInt ≤ wn (szp m pp) (hw m pp (m 177 x0.toInt.toNat).toInt) y5.toInt.toNat) → (AHx m6 pp) → IV BB m6 → fr (wl [(177, 177, none)]) m m6 → ((4 - y5.toInt) : Int).toNat < fuel10 → PV none g mX3_takeLetter (sqI T BB (wl [(177, 177, none)]) r m 0 28560 (fun m' v => v.toInt ≤ wn (szp m pp) (hw m pp (m 177 x0.toInt.toNat).toInt) 4 ∧ AHx m' pp)) 1 0 0 12 [.ref 169, .int x0, .int v2, .int y4, .int y5] [] (mk T m6 n7 r) := by
    intro fuel10
    induction fuel10 with
    | zero => intro y4 y5 m6 n7 b13 b14 b15 b16 b17 b18 I8 K9 z19; omega
    | succ fuel10 ih12 =>
      intro y4 y5 m6 n7 b13 b14 b15 b16 b17 b18 I8 K9 z19
      have kg1 := (show y4.toInt ≤ wn (szp m pp) (hw m pp (m 177 x0.toInt.toNat).toInt) y5.toInt.toNat by assumption)
      have kg2 := (show AHx m6 pp by assumption)
      have kL : ∀ d, d < 4 → lap m6 pp d = lap m pp d := lap_eq (fun b hb => funext fun j => K9 b j (wr_out (by omega))) hp0
      refine pv_iload (M := mX3_takeLetter) dX3_takeLetter_12 14 rfl rfl ?_
      refine pv_iconst (M := mX3_takeLetter) (v := 4) dX3_takeLetter_14 15 rfl (by decide) ?_
      refine pv_icmp_ge (M := mX3_takeLetter) (tgt := 53) dX3_takeLetter_15 18 rfl (by decide) (fun c23 => ?_) (fun c23 => ?_)
      · have c23 := iv_le (X := 4) (Y := y5.toInt) c23 (by decide) rfl
        refine pv_iload_n (M := mX3_takeLetter) 3 dX3_takeLetter_53 54 rfl rfl rfl ?_
        exact pv_iret (M := mX3_takeLetter) dX3_takeLetter_54 rfl rfl ⟨_, _, _, rfl, rfl, I8, K9, by omega, by omega, ⟨by have q := kg1; rw [show y5.toInt.toNat = 4 by omega] at q; exact q, kg2⟩⟩
      · have c23 := iv_nle (X := 4) (Y := y5.toInt) c23 (by decide) rfl
        refine pv_aload_n (M := mX3_takeLetter) 0 dX3_takeLetter_18 19 rfl rfl rfl ?_
        refine mv_get (M := mX3_takeLetter) (v := .ref 177) dX3_takeLetter_19 FX3 7 wd988 (by decide) (tc169 hC) rfl rfl 22 rfl ?_
        refine pv_iload (M := mX3_takeLetter) dX3_takeLetter_22 24 rfl rfl ?_
        refine iv_iald (M := mX3_takeLetter) (X := y5.toInt) (l1 := (-2147483648)) (l2 := 2147483647) dX3_takeLetter_24 (tc177 hC) rfl (by omega) (by omega) I8 (fun _ => rfl) 25 rfl (fun v24 ev24 pv24 qv24 => ?_)
        have k25 : v24.toInt = (m6 177 y5.toInt.toNat).toInt := congrArg Int32.toInt ev24
        refine pv_iload_n (M := mX3_takeLetter) 2 dX3_takeLetter_25 26 rfl rfl rfl ?_
        refine pv_icmp_ne (M := mX3_takeLetter) (tgt := 47) dX3_takeLetter_26 29 rfl (by decide) (fun c26 => ?_) (fun c26 => ?_)
        · have c26 := iv_ne (X := v24.toInt) (Y := v2.toInt) c26 rfl rfl
          try have k47 := AHx_set kg2 hp0 noE (by decide)
          refine iv_inc (M := mX3_takeLetter) (C := 1) dX3_takeLetter_47 50 rfl rfl (by decide) rfl rfl (by decide) (by omega) (by omega) (fun v28 ev28 => ?_)
          show PV _ _ _ _ _ _ _ 50 [.ref 169, .int x0, .int v2, .int y4, .int v28] [] _
          refine pv_goto (M := mX3_takeLetter) (tgt := 12) dX3_takeLetter_50 (by decide) ?_
          have ku : v28.toInt = y5.toInt + 1 := by omega
          have kb1 : y4.toInt ≤ wn (szp m pp) (hw m pp (m 177 x0.toInt.toNat).toInt) v28.toInt.toNat := by rw [ku]; first | exact k38 | exact wn_miss hp1 (by omega) (by omega) rfl kg1
          have kb2 : AHx m6 pp := by first | exact kg2 | exact k47
          exact ih12 y4 v28 m6 n7 (by first | omega | assumption | exact (iv_rng _).2 | exact (iv_rng _).1 | decide) (by first | omega | assumption | exact (iv_rng _).2 | exact (iv_rng _).1 | decide) (by first | omega | assumption | exact (iv_rng _).2 | exact (iv_rng _).1 | decide) (by first | omega | assumption | exact (iv_rng _).2 | exact (iv_rng _).1 | decide) kb1 kb2 I8 K9 (by omega)
        · have c26 := iv_eq (X := v24.toInt) (Y := v2.toInt) c26 rfl rfl
          have kh : lap m pp y5.toInt.toNat = (m 177 x0.toInt.toNat).toInt := by have q := kg2 y5.toInt.toNat (by omega); rw [kL _ (by omega)] at q; omega
          refine pv_iload_n (M := mX3_takeLetter) 3 dX3_takeLetter_29 30 rfl rfl rfl ?_
          refine pv_aload_n (M := mX3_takeLetter) 0 dX3_takeLetter_30 31 rfl rfl rfl ?_
          refine mv_get (M := mX3_takeLetter) (v := .ref 176) dX3_takeLetter_31 FX3 6 wd987 (by decide) (tc169 hC) rfl rfl 34 rfl ?_
          refine pv_iload (M := mX3_takeLetter) dX3_takeLetter_34 36 rfl rfl ?_
          refine iv_iald (M := mX3_takeLetter) (X := y5.toInt) (l1 := 0) (l2 := 28561) dX3_takeLetter_36 (tc176 hC) rfl (by omega) (by omega) I8 (fun _ => rfl) 37 rfl (fun v33 ev33 pv33 qv33 => ?_)
          have k37 : v33.toInt = (m 176 y5.toInt.toNat).toInt := congrArg Int32.toInt (ev33.trans (K9 176 _ (wr_out (by omega))))
          refine iv_iadd (M := mX3_takeLetter) (X := y4.toInt) (Y := v33.toInt) dX3_takeLetter_37 38 rfl rfl rfl (by omega) (by omega) (fun v35 ev35 => ?_)
          have k38 : v35.toInt ≤ wn (szp m pp) (hw m pp (m 177 x0.toInt.toNat).toInt) (y5.toInt + 1).toNat := wn_hit hp3 (by omega) (by omega) rfl kh kg1 (by omega)
          have k38b := wn_up hp1 (fun d => (hw_b m pp (m 177 x0.toInt.toNat).toInt d).1) 4 (y5.toInt + 1).toNat (by omega) (by omega)
          refine pv_istore_n (M := mX3_takeLetter) 3 (lo2 := [.ref 169, .int x0, .int v2, .int v35, .int y5]) dX3_takeLetter_38 39 rfl rfl (by decide) rfl rfl ?_
          refine pv_aload_n (M := mX3_takeLetter) 0 dX3_takeLetter_39 40 rfl rfl rfl ?_
          refine mv_get (M := mX3_takeLetter) (v := .ref 177) dX3_takeLetter_40 FX3 7 wd988 (by decide) (tc169 hC) rfl rfl 43 rfl ?_
          refine pv_iload (M := mX3_takeLetter) dX3_takeLetter_43 45 rfl rfl ?_
          refine pv_iconst (M := mX3_takeLetter) (v := (-1)) dX3_takeLetter_45 46 rfl (by decide) ?_
          refine iv_iast (M := mX3_takeLetter) (X := y5.toInt) (l1 := (-2147483648)) (l2 := 2147483647) dX3_takeLetter_46 (tc177 hC) rfl (by omega) (by omega) I8 (fun _ => rfl) (by decide) (by decide) 47 rfl (fun m38 e41 I39 => ?_)
          have K40 := K9.set e41 (wl_r (by omega) (by omega))
          try have k47 := AHx_set kg2 hp0 e41 (by decide)
          refine iv_inc (M := mX3_takeLetter) (C := 1) dX3_takeLetter_47 50 rfl rfl (by decide) rfl rfl (by decide) (by omega) (by omega) (fun v43 ev43 => ?_)
          show PV _ _ _ _ _ _ _ 50 [.ref 169, .int x0, .int v2, .int v35, .int v43] [] _
          refine pv_goto (M := mX3_takeLetter) (tgt := 12) dX3_takeLetter_50 (by decide) ?_
          have ku : v43.toInt = y5.toInt + 1 := by omega
          have kb1 : v35.toInt ≤ wn (szp m pp) (hw m pp (m 177 x0.toInt.toNat).toInt) v43.toInt.toNat := by rw [ku]; first | exact k38 | exact wn_miss hp1 (by omega) (by omega) rfl kg1
          have kb2 : AHx m38 pp := by first | exact kg2 | exact k47
          exact ih12 v35 v43 m38 n7 (by first | omega | assumption | exact (iv_rng _).2 | exact (iv_rng _).1 | decide) (by first | omega | assumption | exact (iv_rng _).2 | exact (iv_rng _).1 | decide) (by first | omega | assumption | exact (iv_rng _).2 | exact (iv_rng _).1 | decide) (by first | omega | assumption | exact (iv_rng _).2 | exact (iv_rng _).1 | decide) kb1 kb2 I39 K40 (by omega)
  have z47 : (0 : Int32).toInt = 0 := by decide
  exact lp11 (((4 - x0.toInt) : Int).toNat + 1) 0 x0 m n (by first | omega | assumption | exact (iv_rng _).2 | exact (iv_rng _).1 | decide) (by first | omega | assumption | exact (iv_rng _).2 | exact (iv_rng _).1 | decide) (by first | omega | assumption | exact (iv_rng _).2 | exact (iv_rng _).1 | decide) (by first | omega | assumption | exact (iv_rng _).2 | exact (iv_rng _).1 | decide) (by rw [Int32.toInt_zero]; exact wn_b hp1 (fun d => (hw_b _ _ _ d).1) _ (by omega)) hp4 I Kp (by omega)

set_option maxHeartbeats 2000000 in
set_option maxRecDepth 20000 in
theorem s_X3_settle (g : pv_G) {T : List mv_T} {m : Nat → Nat → Int32} {n : Nat → Nat → Int64} {r : Nat → Value} (hT : TX T) (I : IV BB m) (hC : TC T) {pp qq : Nat → Nat} (P : PX T r pp qq) (x0 : Int32) (hl0 : 0 ≤ x0.toInt) (hh0 : x0.toInt ≤ 28560) (hp0 : Dj pp) (hp1 : S12 (szp m pp)) (hp2 : ATx m pp) (hp3 : APx m pp) (hp4 : x0.toInt ≤ ix4 (szp m pp) (atp m)) : PM g mX3_settle yX3_settle (sqV T BB (wl [(177, 178, none)]) r m (fun m' => True)) 2 0 0 [.ref 169, .int x0] (mk T m n r) := by
  have Kp : fr (wl [(177, 178, none)]) m m := fr.rf
  refine PM.of 5 (lo := [.ref 169, .int x0, pv_U, pv_U, pv_U, pv_U, pv_U]) rfl (by decide) rfl rfl (Nat.le_of_ble_eq_true rfl) ?_
  refine pv_aload_n (M := mX3_settle) 0 dX3_settle_0 1 rfl rfl rfl ?_
  refine pv_callv (M := mX3_settle) (as := []) (st := []) (kc2 := 0) (ks2 := 0) dX3_settle_1 wd1025 YX3_lookAhead ⟨wd1027, wd41⟩ (mk_get (tc169 hC)) rfl rfl (s_X3_lookAhead g hT I hC P hp0 hp2) rfl rfl (Nat.le_of_ble_eq_true rfl) (by decide) rfl rfl 4 rfl (fun rv h1 q1 => ?_)
  obtain ⟨m2, n3, rfl, rfl, I4, K5, rm2⟩ := q1
  replace rm2 : ∀ d, d < 4 → (m2 177 d).toInt = lap m pp d := rm2
  have K5c := K5
  have K5 := Kp.trans (K5.sub (wr_wr (by omega) (by omega)))
  show PV _ _ _ _ _ _ _ 4 [.ref 169, .int x0, pv_U, pv_U, pv_U, pv_U, pv_U] [] _
  have kA0 : AHx m2 pp := fun d hd => Or.inl ((rm2 d hd).trans (lap_eq (fun b hb => funext fun j => (K5 b j (wr_out (by omega)))) hp0 d hd).symm)
  refine pv_iconst (M := mX3_settle) (v := (-1)) dX3_settle_4 5 rfl (by decide) ?_
  refine pv_istore_n (M := mX3_settle) 2 (lo2 := [.ref 169, .int x0, .int (-1), pv_U, pv_U, pv_U, pv_U]) dX3_settle_5 6 rfl rfl (by decide) rfl rfl ?_
  refine pv_lconst (M := mX3_settle) (v := 1) dX3_settle_6 7 rfl (by decide) ?_
  refine pv_lstore_n (M := mX3_settle) 3 (lo2 := [.ref 169, .int x0, .int (-1), .long 1, pv_U, pv_U, pv_U]) dX3_settle_7 8 rfl rfl (by decide) rfl rfl ?_
  refine pv_iconst (M := mX3_settle) (v := 0) dX3_settle_8 9 rfl (by decide) ?_
  refine pv_istore (M := mX3_settle) (lo2 := [.ref 169, .int x0, .int (-1), .long 1, pv_U, .int 0, pv_U]) dX3_settle_9 11 rfl (by decide) rfl rfl ?_
  have lp15 : ∀ (fuel14 : Nat) (y7 : Int32) (y8 : Int64) (y9 : Int32) (m10 : Nat → Nat → Int32) (n11 : Nat → Nat → Int64), (0 ≤ y9.toInt) → (y9.toInt ≤ 4) → (AHx m10 pp) → IV BB m10 → fr (wl [(177, 178, none)]) m m10 → ((4 - y9.toInt) : Int).toNat < fuel14 → PV none g mX3_settle (sqV T BB (wl [(177, 178, none)]) r m (fun m' => True)) 2 0 0 11 [.ref 169, .int x0, .int y7, .long y8, pv_U, .int y9, pv_U] [] (mk T m10 n11 r) := by
    intro fuel14
    induction fuel14 with
    | zero => intro y7 y8 y9 m10 n11 b17 b18 b19 I12 K13 z20; omega
    | succ fuel14 ih16 =>
      intro y7 y8 y9 m10 n11 b17 b18 b19 I12 K13 z20
      have kg := (show AHx m10 pp by assumption)
      have kF : ∀ b j, b ≤ 176 → m10 b j = m b j := fun b j h => K13 b j (wr_out (by omega))
      have kX := CX_eq kF hp0 hp1 hp2 hp3
      have kX4 := kX.2.2.2
      refine pv_iload (M := mX3_settle) dX3_settle_11 13 rfl rfl ?_
      refine pv_iconst (M := mX3_settle) (v := 4) dX3_settle_13 14 rfl (by decide) ?_
      refine pv_icmp_ge (M := mX3_settle) (tgt := 100) dX3_settle_14 17 rfl (by decide) (fun c25 => ?_) (fun c25 => ?_)
      · have c25 := iv_le (X := 4) (Y := y9.toInt) c25 (by decide) rfl
        refine pv_aload_n (M := mX3_settle) 0 dX3_settle_100 101 rfl rfl rfl ?_
        refine mv_get (M := mX3_settle) (v := .ref 178) dX3_settle_101 FX3 8 wd989 (by decide) (tc169 hC) rfl rfl 104 rfl ?_
        refine pv_iload_n (M := mX3_settle) 1 dX3_settle_104 105 rfl rfl rfl ?_
        refine pv_iload_n (M := mX3_settle) 2 dX3_settle_105 106 rfl rfl rfl ?_
        refine pv_iconst (M := mX3_settle) (v := 1) dX3_settle_106 107 rfl (by decide) ?_
        refine iv_addU (M := mX3_settle) dX3_settle_107 108 rfl (fun v26 ev26 => ?_)
        refine iv_iast (M := mX3_settle) (X := x0.toInt) (l1 := (-2147483648)) (l2 := 2147483647) dX3_settle_108 (tc178 hC) rfl (by omega) (by omega) I12 (fun _ => rfl) (iv_rng v26).1 (iv_rng v26).2 109 rfl (fun m27 e30 I28 => ?_)
        have K29 := K13.set e30 (wl_r (by omega) (by omega))
        refine pv_aload_n (M := mX3_settle) 0 dX3_settle_109 110 rfl rfl rfl ?_
        refine mv_get (M := mX3_settle) (v := .ref 179) dX3_settle_110 FX3 9 wd990 (by decide) (tc169 hC) rfl rfl 113 rfl ?_
        refine pv_iload_n (M := mX3_settle) 1 dX3_settle_113 114 rfl rfl rfl ?_
        refine pv_lload_n (M := mX3_settle) 3 dX3_settle_114 115 rfl rfl rfl ?_
        refine iv_last (M := mX3_settle) (X := x0.toInt) dX3_settle_115 (tc179 hC) rfl (by omega) (by omega) 116 rfl (fun n31 en31 => ?_)
        exact pv_vret (M := mX3_settle) dX3_settle_116 rfl ⟨_, _, rfl, rfl, I28, K29, trivial⟩
      · have c25 := iv_nle (X := 4) (Y := y9.toInt) c25 (by decide) rfl
        refine pv_aload_n (M := mX3_settle) 0 dX3_settle_17 18 rfl rfl rfl ?_
        refine mv_get (M := mX3_settle) (v := .ref 177) dX3_settle_18 FX3 7 wd988 (by decide) (tc169 hC) rfl rfl 21 rfl ?_
        refine pv_iload (M := mX3_settle) dX3_settle_21 23 rfl rfl ?_
        refine iv_iald (M := mX3_settle) (X := y9.toInt) (l1 := (-2147483648)) (l2 := 2147483647) dX3_settle_23 (tc177 hC) rfl (by omega) (by omega) I12 (fun _ => rfl) 24 rfl (fun v32 ev32 pv32 qv32 => ?_)
        have k24 : v32.toInt = (m10 177 y9.toInt.toNat).toInt := congrArg Int32.toInt ev32
        refine pv_iconst (M := mX3_settle) (v := (-1)) dX3_settle_24 25 rfl (by decide) ?_
        refine pv_icmp_eq (M := mX3_settle) (tgt := 94) dX3_settle_25 28 rfl (by decide) (fun c34 => ?_) (fun c34 => ?_)
        · have c34 := iv_eq (X := v32.toInt) (Y := (-1)) c34 rfl (by decide)
          refine iv_inc (M := mX3_settle) (C := 1) dX3_settle_94 97 rfl rfl (by decide) rfl rfl (by decide) (by omega) (by omega) (fun v35 ev35 => ?_)
          show PV _ _ _ _ _ _ _ 97 [.ref 169, .int x0, .int y7, .long y8, pv_U, .int v35, pv_U] [] _
          refine pv_goto (M := mX3_settle) (tgt := 11) dX3_settle_97 (by decide) ?_
          have kb : AHx m10 pp := by first | exact kg | exact kb2
          exact ih16 y7 y8 v35 m10 n11 (by first | omega | assumption | exact (iv_rng _).2 | exact (iv_rng _).1 | decide) (by first | omega | assumption | exact (iv_rng _).2 | exact (iv_rng _).1 | decide) kb I12 K13 (by omega)
        · have c34 := iv_ne (X := v32.toInt) (Y := (-1)) c34 rfl (by decide)
          refine pv_iload_n (M := mX3_settle) 1 dX3_settle_28 29 rfl rfl rfl ?_
          refine pv_aload_n (M := mX3_settle) 0 dX3_settle_29 30 rfl rfl rfl ?_
          refine pv_iload (M := mX3_settle) dX3_settle_30 32 rfl rfl ?_
          refine pv_callv (M := mX3_settle) (as := [.int y9]) (st := [.int x0]) (kc2 := 0) (ks2 := 0) dX3_settle_32 wd1029 YX3_takeLetter ⟨wd1031, wd42⟩ (mk_get (tc169 hC)) rfl rfl (s_X3_takeLetter g hT I12 hC P y9 (by omega) (by omega) hp0 kX.1 kX.2.1 kX.2.2.1 kg (by omega)) rfl rfl (Nat.le_of_ble_eq_true rfl) (by decide) rfl rfl 35 rfl (fun rv h1 q37 => ?_)
          obtain ⟨m38, n39, v42, rfl, rfl, I40, K41, pv42, qv42, rv42⟩ := q37
          replace rv42 : v42.toInt ≤ wn (szp m10 pp) (hw m10 pp (m10 177 y9.toInt.toNat).toInt) 4 ∧ AHx m38 pp := rv42
          have K41c := K41
          have K41 := K13.trans (K41.sub (wr_wr (by omega) (by omega)))
          show PV _ _ _ _ _ _ _ 35 [.ref 169, .int x0, .int y7, .long y8, pv_U, .int y9, pv_U] [.int v42, .int x0] _
          have k35 := rv42.1
          have kb2 := rv42.2
          have k35b := hw_le kX.1 kX.2.1 (l := (m10 177 y9.toInt.toNat).toInt) (by omega)
          refine iv_iadd (M := mX3_settle) (X := x0.toInt) (Y := v42.toInt) dX3_settle_35 36 rfl rfl rfl (by omega) (by omega) (fun v46 ev46 => ?_)
          refine pv_istore (M := mX3_settle) (lo2 := [.ref 169, .int x0, .int y7, .long y8, pv_U, .int y9, .int v46]) dX3_settle_36 38 rfl (by decide) rfl rfl ?_
          refine pv_iload_n (M := mX3_settle) 2 dX3_settle_38 39 rfl rfl rfl ?_
          refine pv_iconst (M := mX3_settle) (v := (-1)) dX3_settle_39 40 rfl (by decide) ?_
          refine pv_icmp_eq (M := mX3_settle) (tgt := 54) dX3_settle_40 43 rfl (by decide) (fun c47 => ?_) (fun c47 => ?_)
          · have c47 := iv_eq (X := y7.toInt) (Y := (-1)) c47 rfl (by decide)
            refine pv_aload_n (M := mX3_settle) 0 dX3_settle_54 55 rfl rfl rfl ?_
            refine mv_get (M := mX3_settle) (v := .ref 178) dX3_settle_55 FX3 8 wd989 (by decide) (tc169 hC) rfl rfl 58 rfl ?_
            refine pv_iload (M := mX3_settle) dX3_settle_58 60 rfl rfl ?_
            refine iv_iald (M := mX3_settle) (X := v46.toInt) (l1 := (-2147483648)) (l2 := 2147483647) dX3_settle_60 (tc178 hC) rfl (by omega) (by omega) I40 (fun _ => rfl) 61 rfl (fun v48 ev48 pv48 qv48 => ?_)
            refine pv_istore_n (M := mX3_settle) 2 (lo2 := [.ref 169, .int x0, .int v48, .long y8, pv_U, .int y9, .int v46]) dX3_settle_61 62 rfl rfl (by decide) rfl rfl ?_
            refine pv_aload_n (M := mX3_settle) 0 dX3_settle_62 63 rfl rfl rfl ?_
            refine mv_get (M := mX3_settle) (v := .ref 179) dX3_settle_63 FX3 9 wd990 (by decide) (tc169 hC) rfl rfl 66 rfl ?_
            refine pv_iload (M := mX3_settle) dX3_settle_66 68 rfl rfl ?_
            refine iv_lald (M := mX3_settle) (X := v46.toInt) dX3_settle_68 (tc179 hC) rfl (by omega) (by omega) 69 rfl (fun v49 ev49 => ?_)
            refine pv_lstore_n (M := mX3_settle) 3 (lo2 := [.ref 169, .int x0, .int v48, .long v49, pv_U, .int y9, .int v46]) dX3_settle_69 70 rfl rfl (by decide) rfl rfl ?_
            refine pv_goto (M := mX3_settle) (tgt := 94) dX3_settle_70 (by decide) ?_
            refine iv_inc (M := mX3_settle) (C := 1) dX3_settle_94 97 rfl rfl (by decide) rfl rfl (by decide) (by omega) (by omega) (fun v50 ev50 => ?_)
            show PV _ _ _ _ _ _ _ 97 [.ref 169, .int x0, .int v48, .long v49, pv_U, .int v50, .int v46] [] _
            refine pv_goto (M := mX3_settle) (tgt := 11) dX3_settle_97 (by decide) ?_
            refine pv_fg (lo2 := [.ref 169, .int x0, .int v48, .long v49, pv_U, .int v50, pv_U]) ⟨Or.inr rfl, ⟨Or.inr rfl, ⟨Or.inr rfl, ⟨Or.inr rfl, ⟨Or.inl rfl, ⟨Or.inr rfl, ⟨Or.inl rfl, trivial⟩⟩⟩⟩⟩⟩⟩ ?_
            have kb : AHx m38 pp := by first | exact kg | exact kb2
            exact ih16 v48 v49 v50 m38 n39 (by first | omega | assumption | exact (iv_rng _).2 | exact (iv_rng _).1 | decide) (by first | omega | assumption | exact (iv_rng _).2 | exact (iv_rng _).1 | decide) kb I40 K41 (by omega)
          · have c47 := iv_ne (X := y7.toInt) (Y := (-1)) c47 rfl (by decide)
            refine pv_aload_n (M := mX3_settle) 0 dX3_settle_43 44 rfl rfl rfl ?_
            refine mv_get (M := mX3_settle) (v := .ref 178) dX3_settle_44 FX3 8 wd989 (by decide) (tc169 hC) rfl rfl 47 rfl ?_
            refine pv_iload (M := mX3_settle) dX3_settle_47 49 rfl rfl ?_
            refine iv_iald (M := mX3_settle) (X := v46.toInt) (l1 := (-2147483648)) (l2 := 2147483647) dX3_settle_49 (tc178 hC) rfl (by omega) (by omega) I40 (fun _ => rfl) 50 rfl (fun v52 ev52 pv52 qv52 => ?_)
            refine pv_iload_n (M := mX3_settle) 2 dX3_settle_50 51 rfl rfl rfl ?_
            refine pv_icmp_ge (M := mX3_settle) (tgt := 73) dX3_settle_51 54 rfl (by decide) (fun c53 => ?_) (fun c53 => ?_)
            · have c53 := iv_le (X := y7.toInt) (Y := v52.toInt) c53 rfl rfl
              refine pv_aload_n (M := mX3_settle) 0 dX3_settle_73 74 rfl rfl rfl ?_
              refine mv_get (M := mX3_settle) (v := .ref 178) dX3_settle_74 FX3 8 wd989 (by decide) (tc169 hC) rfl rfl 77 rfl ?_
              refine pv_iload (M := mX3_settle) dX3_settle_77 79 rfl rfl ?_
              refine iv_iald (M := mX3_settle) (X := v46.toInt) (l1 := (-2147483648)) (l2 := 2147483647) dX3_settle_79 (tc178 hC) rfl (by omega) (by omega) I40 (fun _ => rfl) 80 rfl (fun v54 ev54 pv54 qv54 => ?_)
              refine pv_iload_n (M := mX3_settle) 2 dX3_settle_80 81 rfl rfl rfl ?_
              refine pv_icmp_ne (M := mX3_settle) (tgt := 94) dX3_settle_81 84 rfl (by decide) (fun c55 => ?_) (fun c55 => ?_)
              · have c55 := iv_ne (X := v54.toInt) (Y := y7.toInt) c55 rfl rfl
                refine iv_inc (M := mX3_settle) (C := 1) dX3_settle_94 97 rfl rfl (by decide) rfl rfl (by decide) (by omega) (by omega) (fun v56 ev56 => ?_)
                show PV _ _ _ _ _ _ _ 97 [.ref 169, .int x0, .int y7, .long y8, pv_U, .int v56, .int v46] [] _
                refine pv_goto (M := mX3_settle) (tgt := 11) dX3_settle_97 (by decide) ?_
                refine pv_fg (lo2 := [.ref 169, .int x0, .int y7, .long y8, pv_U, .int v56, pv_U]) ⟨Or.inr rfl, ⟨Or.inr rfl, ⟨Or.inr rfl, ⟨Or.inr rfl, ⟨Or.inl rfl, ⟨Or.inr rfl, ⟨Or.inl rfl, trivial⟩⟩⟩⟩⟩⟩⟩ ?_
                have kb : AHx m38 pp := by first | exact kg | exact kb2
                exact ih16 y7 y8 v56 m38 n39 (by first | omega | assumption | exact (iv_rng _).2 | exact (iv_rng _).1 | decide) (by first | omega | assumption | exact (iv_rng _).2 | exact (iv_rng _).1 | decide) kb I40 K41 (by omega)
              · have c55 := iv_eq (X := v54.toInt) (Y := y7.toInt) c55 rfl rfl
                refine pv_lload_n (M := mX3_settle) 3 dX3_settle_84 85 rfl rfl rfl ?_
                refine pv_aload_n (M := mX3_settle) 0 dX3_settle_85 86 rfl rfl rfl ?_
                refine mv_get (M := mX3_settle) (v := .ref 179) dX3_settle_86 FX3 9 wd990 (by decide) (tc169 hC) rfl rfl 89 rfl ?_
                refine pv_iload (M := mX3_settle) dX3_settle_89 91 rfl rfl ?_
                refine iv_lald (M := mX3_settle) (X := v46.toInt) dX3_settle_91 (tc179 hC) rfl (by omega) (by omega) 92 rfl (fun v58 ev58 => ?_)
                refine iv_addJ (M := mX3_settle) dX3_settle_92 93 rfl (fun v59 ev59 => ?_)
                refine pv_lstore_n (M := mX3_settle) 3 (lo2 := [.ref 169, .int x0, .int y7, .long v59, pv_U, .int y9, .int v46]) dX3_settle_93 94 rfl rfl (by decide) rfl rfl ?_
                refine iv_inc (M := mX3_settle) (C := 1) dX3_settle_94 97 rfl rfl (by decide) rfl rfl (by decide) (by omega) (by omega) (fun v60 ev60 => ?_)
                show PV _ _ _ _ _ _ _ 97 [.ref 169, .int x0, .int y7, .long v59, pv_U, .int v60, .int v46] [] _
                refine pv_goto (M := mX3_settle) (tgt := 11) dX3_settle_97 (by decide) ?_
                refine pv_fg (lo2 := [.ref 169, .int x0, .int y7, .long v59, pv_U, .int v60, pv_U]) ⟨Or.inr rfl, ⟨Or.inr rfl, ⟨Or.inr rfl, ⟨Or.inr rfl, ⟨Or.inl rfl, ⟨Or.inr rfl, ⟨Or.inl rfl, trivial⟩⟩⟩⟩⟩⟩⟩ ?_
                have kb : AHx m38 pp := by first | exact kg | exact kb2
                exact ih16 y7 v59 v60 m38 n39 (by first | omega | assumption | exact (iv_rng _).2 | exact (iv_rng _).1 | decide) (by first | omega | assumption | exact (iv_rng _).2 | exact (iv_rng _).1 | decide) kb I40 K41 (by omega)
            · have c53 := iv_nle (X := y7.toInt) (Y := v52.toInt) c53 rfl rfl
              refine pv_aload_n (M := mX3_settle) 0 dX3_settle_54 55 rfl rfl rfl ?_
              refine mv_get (M := mX3_settle) (v := .ref 178) dX3_settle_55 FX3 8 wd989 (by decide) (tc169 hC) rfl rfl 58 rfl ?_
              refine pv_iload (M := mX3_settle) dX3_settle_58 60 rfl rfl ?_
              refine iv_iald (M := mX3_settle) (X := v46.toInt) (l1 := (-2147483648)) (l2 := 2147483647) dX3_settle_60 (tc178 hC) rfl (by omega) (by omega) I40 (fun _ => rfl) 61 rfl (fun v62 ev62 pv62 qv62 => ?_)
              refine pv_istore_n (M := mX3_settle) 2 (lo2 := [.ref 169, .int x0, .int v62, .long y8, pv_U, .int y9, .int v46]) dX3_settle_61 62 rfl rfl (by decide) rfl rfl ?_
              refine pv_aload_n (M := mX3_settle) 0 dX3_settle_62 63 rfl rfl rfl ?_
              refine mv_get (M := mX3_settle) (v := .ref 179) dX3_settle_63 FX3 9 wd990 (by decide) (tc169 hC) rfl rfl 66 rfl ?_
              refine pv_iload (M := mX3_settle) dX3_settle_66 68 rfl rfl ?_
              refine iv_lald (M := mX3_settle) (X := v46.toInt) dX3_settle_68 (tc179 hC) rfl (by omega) (by omega) 69 rfl (fun v63 ev63 => ?_)
              refine pv_lstore_n (M := mX3_settle) 3 (lo2 := [.ref 169, .int x0, .int v62, .long v63, pv_U, .int y9, .int v46]) dX3_settle_69 70 rfl rfl (by decide) rfl rfl ?_
              refine pv_goto (M := mX3_settle) (tgt := 94) dX3_settle_70 (by decide) ?_
              refine iv_inc (M := mX3_settle) (C := 1) dX3_settle_94 97 rfl rfl (by decide) rfl rfl (by decide) (by omega) (by omega) (fun v64 ev64 => ?_)
              show PV _ _ _ _ _ _ _ 97 [.ref 169, .int x0, .int v62, .long v63, pv_U, .int v64, .int v46] [] _
              refine pv_goto (M := mX3_settle) (tgt := 11) dX3_settle_97 (by decide) ?_
              refine pv_fg (lo2 := [.ref 169, .int x0, .int v62, .long v63, pv_U, .int v64, pv_U]) ⟨Or.inr rfl, ⟨Or.inr rfl, ⟨Or.inr rfl, ⟨Or.inr rfl, ⟨Or.inl rfl, ⟨Or.inr rfl, ⟨Or.inl rfl, trivial⟩⟩⟩⟩⟩⟩⟩ ?_
              have kb : AHx m38 pp := by first | exact kg | exact kb2
              exact ih16 v62 v63 v64 m38 n39 (by first | omega | assumption | exact (iv_rng _).2 | exact (iv_rng _).1 | decide) (by first | omega | assumption | exact (iv_rng _).2 | exact (iv_rng _).1 | decide) kb I40 K41 (by omega)
  have z66 : ((-1) : Int32).toInt = (-1) := by decide
  have z67 : (0 : Int32).toInt = 0 := by decide
  exact lp15 (((4 - 0) : Int).toNat + 1) (-1) 1 0 m2 n3 (by first | omega | assumption | exact (iv_rng _).2 | exact (iv_rng _).1 | decide) (by first | omega | assumption | exact (iv_rng _).2 | exact (iv_rng _).1 | decide) kA0 I4 K5 (by omega)

set_option maxHeartbeats 2000000 in
set_option maxRecDepth 20000 in
theorem s_X3_settleLetter (g : pv_G) {T : List mv_T} {m : Nat → Nat → Int32} {n : Nat → Nat → Int64} {r : Nat → Value} (hT : TX T) (I : IV BB m) (hC : TC T) {pp qq : Nat → Nat} (P : PX T r pp qq) (x0 : Int32) (hp0 : Dj pp) (hp1 : S12 (szp m pp)) (hp2 : ATx m pp) (hp3 : x0.toInt ≠ -1) : PM g mX3_settleLetter yX3_settleLetter (sqV T BB (wl [(175, 175, none)]) r m (fun m' => ∀ d, d < 4 → (m' 175 d).toInt = atp m d + hw m pp x0.toInt d)) 2 0 0 [.ref 169, .int x0] (mk T m n r) := by
  have Kp : fr (wl [(175, 175, none)]) m m := fr.rf
  refine PM.of 1 (lo := [.ref 169, .int x0, pv_U]) rfl (by decide) rfl rfl (Nat.le_of_ble_eq_true rfl) ?_
  refine pv_iconst (M := mX3_settleLetter) (v := 0) dX3_settleLetter_0 1 rfl (by decide) ?_
  refine pv_istore_n (M := mX3_settleLetter) 2 (lo2 := [.ref 169, .int x0, .int 0]) dX3_settleLetter_1 2 rfl rfl (by decide) rfl rfl ?_
  have lp7 : ∀ (fuel6 : Nat) (y1 : Int32) (m2 : Nat → Nat → Int32) (n3 : Nat → Nat → Int64), (0 ≤ y1.toInt) → (y1.toInt ≤ 4) → (∀ d : Nat, d < 4 → (d : Int) < y1.toInt → (m2 175 d).toInt = atp m d + hw m pp x0.toInt d) → (∀ d : Nat, y1.toInt ≤ (d : Int) → m2 175 d = m 175 d) → IV BB m2 → fr (wl [(175, 175, none)]) m m2 → ((4 - y1.toInt) : Int).toNat < fuel6 → PV none g mX3_settleLetter (sqV T BB (wl [(175, 175, none)]) r m (fun m' => ∀ d, d < 4 → (m' 175 d).toInt = atp m d + hw m pp x0.toInt d)) 2 0 0 2 [.ref 169, .int x0, .int y1] [] (mk T m2 n3 r) := by
    intro fuel6
    induction fuel6 with
    | zero => intro y1 m2 n3 b9 b10 b11 b12 I4 K5 z13; omega
    | succ fuel6 ih8 =>
      intro y1 m2 n3 b9 b10 b11 b12 I4 K5 z13
      have kg1 := (show ∀ d : Nat, d < 4 → (d : Int) < y1.toInt → (m2 175 d).toInt = atp m d + hw m pp x0.toInt d by assumption)
      have kg2 := (show ∀ d : Nat, y1.toInt ≤ (d : Int) → m2 175 d = m 175 d by assumption)
      have kF : ∀ b j, b ≠ 175 → m2 b j = m b j := fun b j h => K5 b j (wr_out (by omega))
      refine pv_iload_n (M := mX3_settleLetter) 2 dX3_settleLetter_2 3 rfl rfl rfl ?_
      refine pv_iconst (M := mX3_settleLetter) (v := 4) dX3_settleLetter_3 4 rfl (by decide) ?_
      refine pv_icmp_ge (M := mX3_settleLetter) (tgt := 42) dX3_settleLetter_4 7 rfl (by decide) (fun c17 => ?_) (fun c17 => ?_)
      · have c17 := iv_le (X := 4) (Y := y1.toInt) c17 (by decide) rfl
        exact pv_vret (M := mX3_settleLetter) dX3_settleLetter_42 rfl ⟨_, _, rfl, rfl, I4, K5, (fun d hd => kg1 d hd (by omega))⟩
      · have c17 := iv_nle (X := 4) (Y := y1.toInt) c17 (by decide) rfl
        refine pv_aload_n (M := mX3_settleLetter) 0 dX3_settleLetter_7 8 rfl rfl rfl ?_
        refine mv_get (M := mX3_settleLetter) (v := .ref 172) dX3_settleLetter_8 FX3 2 wd983 (by decide) (tc169 hC) rfl rfl 11 rfl ?_
        refine pv_iload_n (M := mX3_settleLetter) 2 dX3_settleLetter_11 12 rfl rfl rfl ?_
        refine iv_qpart (M := mX3_settleLetter) (X := y1.toInt) dX3_settleLetter_12 hC P rfl (by omega) (by omega) 13 rfl (fun b18 rb18 eb18 fb18 hb18 => ?_)
        have zb18 := hb18.2.2.2.2
        refine pv_aload_n (M := mX3_settleLetter) 0 dX3_settleLetter_13 14 rfl rfl rfl ?_
        refine mv_get (M := mX3_settleLetter) (v := .ref 175) dX3_settleLetter_14 FX3 5 wd986 (by decide) (tc169 hC) rfl rfl 17 rfl ?_
        refine pv_iload_n (M := mX3_settleLetter) 2 dX3_settleLetter_17 18 rfl rfl rfl ?_
        refine iv_iald (M := mX3_settleLetter) (X := y1.toInt) (l1 := (-1)) (l2 := 12) dX3_settleLetter_18 (tc175 hC) rfl (by omega) (by omega) I4 (fun _ => rfl) 19 rfl (fun v19 ev19 pv19 qv19 => ?_)
        have k19 : v19.toInt = atp m y1.toInt.toNat := congrArg Int32.toInt (ev19.trans (kg2 _ (by omega)))
        refine pv_callv (M := mX3_settleLetter) (as := [.int v19]) (st := []) (kc2 := 0) (ks2 := 0) dX3_settleLetter_19 wd1043 YX8_at ⟨wd705, wd706⟩ (mk_get hb18.1) rfl rfl (s_X8_at g hT I4 b18 rb18 hb18 v19) rfl rfl (Nat.le_of_ble_eq_true rfl) (by decide) rfl rfl 22 rfl (fun rv h1 q21 => ?_)
        obtain ⟨v22, rfl, rfl, pv22, qv22, rv22⟩ := q21
        replace rv22 : v22.toInt = atv m2 b18 v19.toInt := rv22
        show PV _ _ _ _ _ _ _ 22 [.ref 169, .int x0, .int y1] [.int v22] _
        have k22 : v22.toInt = lap m pp y1.toInt.toNat := rv22.trans (at_lap kF hp0 (by omega) hp2 (by assumption) k19)
        refine pv_iload_n (M := mX3_settleLetter) 1 dX3_settleLetter_22 23 rfl rfl rfl ?_
        refine pv_icmp_ne (M := mX3_settleLetter) (tgt := 36) dX3_settleLetter_23 26 rfl (by decide) (fun c24 => ?_) (fun c24 => ?_)
        · have c24 := iv_ne (X := v22.toInt) (Y := x0.toInt) c24 rfl rfl
          have k36 : m2 = up2 m2 175 y1.toInt.toNat (m2 175 y1.toInt.toNat) ∧ (m2 175 y1.toInt.toNat).toInt = atp m y1.toInt.toNat + hw m pp x0.toInt y1.toInt.toNat := by first | exact ⟨up2_own noE, by rw [noE, up2_eq]; omega⟩ | exact ⟨(up2_id _ _ _).symm, by rw [kg2 _ (by omega)]; have kh : hw m pp x0.toInt y1.toInt.toNat = 0 := (by unfold hw; rw [if_neg (by omega)]); unfold atp; omega⟩
          refine iv_inc (M := mX3_settleLetter) (C := 1) dX3_settleLetter_36 39 rfl rfl (by decide) rfl rfl (by decide) (by omega) (by omega) (fun v26 ev26 => ?_)
          show PV _ _ _ _ _ _ _ 39 [.ref 169, .int x0, .int v26] [] _
          refine pv_goto (M := mX3_settleLetter) (tgt := 2) dX3_settleLetter_39 (by decide) ?_
          have kb1 : ∀ d : Nat, d < 4 → (d : Int) < v26.toInt → (m2 175 d).toInt = atp m d + hw m pp x0.toInt d := fun d h4 a => if z : (d : Int) = y1.toInt then by rw [show d = (y1.toInt).toNat by omega]; exact k36.2 else by rw [k36.1, up2_ne (by omega)]; exact kg1 d h4 (by omega)
          have kb2 : ∀ d : Nat, v26.toInt ≤ (d : Int) → m2 175 d = m 175 d := fun d a => by rw [k36.1, up2_ne (by omega)]; exact kg2 d (by omega)
          exact ih8 v26 m2 n3 (by first | omega | assumption | exact (iv_rng _).2 | exact (iv_rng _).1 | decide) (by first | omega | assumption | exact (iv_rng _).2 | exact (iv_rng _).1 | decide) kb1 kb2 I4 K5 (by omega)
        · have c24 := iv_eq (X := v22.toInt) (Y := x0.toInt) c24 rfl rfl
          refine pv_aload_n (M := mX3_settleLetter) 0 dX3_settleLetter_26 27 rfl rfl rfl ?_
          refine mv_get (M := mX3_settleLetter) (v := .ref 175) dX3_settleLetter_27 FX3 5 wd986 (by decide) (tc169 hC) rfl rfl 30 rfl ?_
          refine pv_iload_n (M := mX3_settleLetter) 2 dX3_settleLetter_30 31 rfl rfl rfl ?_
          refine pv_dup2 (M := mX3_settleLetter) dX3_settleLetter_31 32 rfl rfl rfl ?_
          refine iv_iald (M := mX3_settleLetter) (X := y1.toInt) (l1 := (-1)) (l2 := 12) dX3_settleLetter_32 (tc175 hC) rfl (by omega) (by omega) I4 (fun _ => rfl) 33 rfl (fun v29 ev29 pv29 qv29 => ?_)
          have k33 : v29.toInt = atp m y1.toInt.toNat := congrArg Int32.toInt (ev29.trans (kg2 _ (by omega)))
          have kh : hw m pp x0.toInt y1.toInt.toNat = 1 := by unfold hw; rw [if_pos (by omega)]
          have k33b := hw_at hp2 hp3 y1.toInt.toNat (by omega)
          have k33c := hp1 y1.toInt.toNat (by omega)
          have k33d := hp2 y1.toInt.toNat (by omega)
          refine pv_iconst (M := mX3_settleLetter) (v := 1) dX3_settleLetter_33 34 rfl (by decide) ?_
          refine iv_iadd (M := mX3_settleLetter) (X := v29.toInt) (Y := 1) dX3_settleLetter_34 35 rfl rfl (by decide) (by omega) (by omega) (fun v35 ev35 => ?_)
          refine iv_iast (M := mX3_settleLetter) (X := y1.toInt) (l1 := (-1)) (l2 := 12) dX3_settleLetter_35 (tc175 hC) rfl (by omega) (by omega) I4 (fun _ => rfl) (by omega) (by omega) 36 rfl (fun m36 e39 I37 => ?_)
          have K38 := K5.set e39 (wl_r (by omega) (by omega))
          have k36 : m36 = up2 m2 175 y1.toInt.toNat (m36 175 y1.toInt.toNat) ∧ (m36 175 y1.toInt.toNat).toInt = atp m y1.toInt.toNat + hw m pp x0.toInt y1.toInt.toNat := by first | exact ⟨up2_own e39, by rw [e39, up2_eq]; omega⟩ | exact ⟨(up2_id _ _ _).symm, by rw [kg2 _ (by omega)]; have kh : hw m pp x0.toInt y1.toInt.toNat = 0 := (by unfold hw; rw [if_neg (by omega)]); unfold atp; omega⟩
          refine iv_inc (M := mX3_settleLetter) (C := 1) dX3_settleLetter_36 39 rfl rfl (by decide) rfl rfl (by decide) (by omega) (by omega) (fun v41 ev41 => ?_)
          show PV _ _ _ _ _ _ _ 39 [.ref 169, .int x0, .int v41] [] _
          refine pv_goto (M := mX3_settleLetter) (tgt := 2) dX3_settleLetter_39 (by decide) ?_
          have kb1 : ∀ d : Nat, d < 4 → (d : Int) < v41.toInt → (m36 175 d).toInt = atp m d + hw m pp x0.toInt d := fun d h4 a => if z : (d : Int) = y1.toInt then by rw [show d = (y1.toInt).toNat by omega]; exact k36.2 else by rw [k36.1, up2_ne (by omega)]; exact kg1 d h4 (by omega)
          have kb2 : ∀ d : Nat, v41.toInt ≤ (d : Int) → m36 175 d = m 175 d := fun d a => by rw [k36.1, up2_ne (by omega)]; exact kg2 d (by omega)
          exact ih8 v41 m36 n3 (by first | omega | assumption | exact (iv_rng _).2 | exact (iv_rng _).1 | decide) (by first | omega | assumption | exact (iv_rng _).2 | exact (iv_rng _).1 | decide) kb1 kb2 I37 K38 (by omega)
  have z44 : (0 : Int32).toInt = 0 := by decide
  exact lp7 (((4 - 0) : Int).toNat + 1) 0 m n (by first | omega | assumption | exact (iv_rng _).2 | exact (iv_rng _).1 | decide) (by first | omega | assumption | exact (iv_rng _).2 | exact (iv_rng _).1 | decide) (fun d _ a => by rw [Int32.toInt_zero] at a; omega) (fun _ _ => rfl) I Kp (by omega)

set_option maxHeartbeats 2000000 in
set_option maxRecDepth 20000 in
theorem s_X3_trace (g : pv_G) {T : List mv_T} {m : Nat → Nat → Int32} {n : Nat → Nat → Int64} {r : Nat → Value} (hT : TX T) (I : IV BB m) (hC : TC T) {pp qq : Nat → Nat} (P : PX T r pp qq) (hp0 : Dj pp) (hp1 : S12 (szp m pp)) (hp2 : APx m pp) : PM g mX3_trace yX3_trace (sqV T BB (wl [(170, 171, none), (175, 175, none), (177, 177, none)]) r m (fun m' => True)) 3 0 0 [.ref 169] (mk T m n r) := by
  have Kp : fr (wl [(170, 171, none), (175, 175, none), (177, 177, none)]) m m := fr.rf
  refine PM.of 7 (lo := [.ref 169, pv_U, pv_U, pv_U, pv_U, pv_U, pv_U, pv_U]) rfl (by decide) rfl rfl (Nat.le_of_ble_eq_true rfl) ?_
  refine pv_aload_n (M := mX3_trace) 0 dX3_trace_0 1 rfl rfl rfl ?_
  refine mv_get (M := mX3_trace) (v := .ref 170) dX3_trace_1 FX3 0 wd979 (by decide) (tc169 hC) rfl rfl 4 rfl ?_
  refine pv_iconst (M := mX3_trace) (v := 0) dX3_trace_4 5 rfl (by decide) ?_
  refine iv_put (M := mX3_trace) (l1 := 0) (l2 := 48) dX3_trace_5 FX8 1 wd197 (by decide) rfl (tc170 hC) rfl rfl rfl I rfl (by decide) (by decide) 8 rfl (fun m1 e4 I2 => ?_)
  have K3 := Kp.set e4 rfl
  refine pv_aload_n (M := mX3_trace) 0 dX3_trace_8 9 rfl rfl rfl ?_
  refine mv_get (M := mX3_trace) (v := .ref 175) dX3_trace_9 FX3 5 wd986 (by decide) (tc169 hC) rfl rfl 12 rfl ?_
  refine pv_iconst (M := mX3_trace) (v := 0) dX3_trace_12 13 rfl (by decide) ?_
  have z5 : (0 : Int32).toInt = 0 := by decide
  refine pv_calls (M := mX3_trace) (as := [.ref 175, .int 0]) (st := []) (kc2 := 0) (ks2 := 0) dX3_trace_13 wd1037 YJ7_fill_53178 wd896 (s_J7_fill_53178 g hT I2 175 4 (-1) 12 ⟨(tc175 hC), (fun _ => rfl), by decide⟩ 0 (by first | omega | assumption | exact (iv_rng _).2 | exact (iv_rng _).1 | decide) (by first | omega | assumption | exact (iv_rng _).2 | exact (iv_rng _).1 | decide)) rfl rfl (Nat.le_of_ble_eq_true rfl) (by decide) rfl rfl 16 rfl (fun rv h1 q6 => ?_)
  obtain ⟨m7, n8, rfl, rfl, I9, K10, rm7⟩ := q6
  replace rm7 : ∀ j : Nat, j < 4 → m7 175 j = (0 : Int32) := by have q_ := rm7; (try rw [z5] at q_); exact q_
  have K10c := K10
  have K10 := K3.trans (K10.sub (wl_sub (by decide)))
  show PV _ _ _ _ _ _ _ 16 [.ref 169, pv_U, pv_U, pv_U, pv_U, pv_U, pv_U, pv_U] [] _
  have kC0 : CK m7 pp 0 := CK_0 hp1 hp2 (fun b j h => K10 b j (wo_t (by omega))) hp0 (fun d hd => by rw [rm7 d (by omega)]; exact Int32.toInt_zero)
  refine pv_iconst (M := mX3_trace) (v := 0) dX3_trace_16 17 rfl (by decide) ?_
  refine pv_istore_n (M := mX3_trace) 1 (lo2 := [.ref 169, .int 0, pv_U, pv_U, pv_U, pv_U, pv_U, pv_U]) dX3_trace_17 18 rfl rfl (by decide) rfl rfl ?_
  refine pv_aload_n (M := mX3_trace) 0 dX3_trace_18 19 rfl rfl rfl ?_
  refine mv_get (M := mX3_trace) (v := .ref 178) dX3_trace_19 FX3 8 wd989 (by decide) (tc169 hC) rfl rfl 22 rfl ?_
  refine pv_iconst (M := mX3_trace) (v := 0) dX3_trace_22 23 rfl (by decide) ?_
  refine iv_iald (M := mX3_trace) (X := 0) (l1 := (-2147483648)) (l2 := 2147483647) dX3_trace_23 (tc178 hC) (by decide) (by omega) (by omega) I9 (fun _ => rfl) 24 rfl (fun v12 ev12 pv12 qv12 => ?_)
  refine pv_istore_n (M := mX3_trace) 2 (lo2 := [.ref 169, .int 0, .int v12, pv_U, pv_U, pv_U, pv_U, pv_U]) dX3_trace_24 25 rfl rfl (by decide) rfl rfl ?_
  have lp20 : ∀ (fuel19 : Nat) (y13 : Int32) (y14 : Int32) (m15 : Nat → Nat → Int32) (n16 : Nat → Nat → Int64), (0 ≤ y13.toInt) → (y13.toInt ≤ 28560) → (CK m15 pp y13.toInt) → IV BB m15 → fr (wl [(170, 171, none), (175, 175, none), (177, 177, none)]) m m15 → ((y14.toInt - (-2147483648)) : Int).toNat < fuel19 → PV none g mX3_trace (sqV T BB (wl [(170, 171, none), (175, 175, none), (177, 177, none)]) r m (fun m' => True)) 3 0 0 25 [.ref 169, .int y13, .int y14, pv_U, pv_U, pv_U, pv_U, pv_U] [] (mk T m15 n16 r) := by
    intro fuel19
    induction fuel19 with
    | zero => intro y13 y14 m15 n16 b22 b23 b24 I17 K18 z25; omega
    | succ fuel19 ih21 =>
      intro y13 y14 m15 n16 b22 b23 b24 I17 K18 z25
      have kC := (show CK m15 pp y13.toInt by assumption)
      refine pv_iload_n (M := mX3_trace) 2 dX3_trace_25 26 rfl rfl rfl ?_
      refine pv_if_le (M := mX3_trace) (tgt := 129) dX3_trace_26 29 rfl (by decide) (fun c27 => ?_) (fun c27 => ?_)
      · have c27 := iv_le (X := y14.toInt) (Y := 0) c27 rfl (by decide)
        exact pv_vret (M := mX3_trace) dX3_trace_129 rfl ⟨_, _, rfl, rfl, I17, K18, trivial⟩
      · have c27 := iv_nle (X := y14.toInt) (Y := 0) c27 rfl (by decide)
        refine pv_aload_n (M := mX3_trace) 0 dX3_trace_29 30 rfl rfl rfl ?_
        refine pv_callv (M := mX3_trace) (as := []) (st := []) (kc2 := 0) (ks2 := 0) dX3_trace_30 wd1025 YX3_lookAhead ⟨wd1027, wd41⟩ (mk_get (tc169 hC)) rfl rfl (s_X3_lookAhead g hT I17 hC P hp0 kC.2.1) rfl rfl (Nat.le_of_ble_eq_true rfl) (by decide) rfl rfl 33 rfl (fun rv h1 q28 => ?_)
        obtain ⟨m29, n30, rfl, rfl, I31, K32, rm29⟩ := q28
        replace rm29 : ∀ d, d < 4 → (m29 177 d).toInt = lap m15 pp d := rm29
        have K32c := K32
        have K32 := K18.trans (K32.sub (wl_sub (by decide)))
        show PV _ _ _ _ _ _ _ 33 [.ref 169, .int y13, .int y14, pv_U, pv_U, pv_U, pv_U, pv_U] [] _
        have kC1 : CK m29 pp y13.toInt := CK_eq kC (fun b j h => K32c b j (wr_out (by omega))) hp0
        have kA1 : AHx m29 pp := fun d hd => Or.inl ((rm29 d hd).trans (lap_eq (fun b hb => funext fun j => (K32c b j (wr_out (by omega)))) hp0 d hd).symm)
        refine pv_bipush (M := mX3_trace) (v := 26) dX3_trace_33 35 rfl (by decide) ?_
        refine pv_istore_n (M := mX3_trace) 3 (lo2 := [.ref 169, .int y13, .int y14, .int 26, pv_U, pv_U, pv_U, pv_U]) dX3_trace_35 36 rfl rfl (by decide) rfl rfl ?_
        refine pv_iconst (M := mX3_trace) (v := 0) dX3_trace_36 37 rfl (by decide) ?_
        refine pv_istore (M := mX3_trace) (lo2 := [.ref 169, .int y13, .int y14, .int 26, .int 0, pv_U, pv_U, pv_U]) dX3_trace_37 39 rfl (by decide) rfl rfl ?_
        refine pv_iconst (M := mX3_trace) (v := 0) dX3_trace_39 40 rfl (by decide) ?_
        refine pv_istore (M := mX3_trace) (lo2 := [.ref 169, .int y13, .int y14, .int 26, .int 0, .int 0, pv_U, pv_U]) dX3_trace_40 42 rfl (by decide) rfl rfl ?_
        have lp43 : ∀ (fuel42 : Nat) (y35 : Int32) (y36 : Int32) (y37 : Int32) (m38 : Nat → Nat → Int32) (n39 : Nat → Nat → Int64), (-2147483648 ≤ y35.toInt) → (y35.toInt ≤ 26) → (0 ≤ y36.toInt) → (y36.toInt ≤ 28560) → (0 ≤ y37.toInt) → (y37.toInt ≤ 4) → (CK m38 pp y13.toInt) → (AHx m38 pp) → (y35.toInt ≠ -1) → (y36.toInt ≤ wn (szp m38 pp) (hw m38 pp y35.toInt) 4) → IV BB m38 → fr (wl [(170, 171, none), (175, 175, none), (177, 177, none)]) m m38 → ((4 - y37.toInt) : Int).toNat < fuel42 → PV none g mX3_trace (sqV T BB (wl [(170, 171, none), (175, 175, none), (177, 177, none)]) r m (fun m' => True)) 3 0 0 42 [.ref 169, .int y13, .int y14, .int y35, .int y36, .int y37, pv_U, pv_U] [] (mk T m38 n39 r) := by
          intro fuel42
          induction fuel42 with
          | zero => intro y35 y36 y37 m38 n39 b45 b46 b47 b48 b49 b50 b51 b52 b53 b54 I40 K41 z55; omega
          | succ fuel42 ih44 =>
            intro y35 y36 y37 m38 n39 b45 b46 b47 b48 b49 b50 b51 b52 b53 b54 I40 K41 z55
            have kg1 := (show CK m38 pp y13.toInt by assumption)
            have kg2 := (show AHx m38 pp by assumption)
            have kg3 := (show y35.toInt ≠ -1 by assumption)
            have kg4 := (show y36.toInt ≤ wn (szp m38 pp) (hw m38 pp y35.toInt) 4 by assumption)
            have kgl := CK_le kg1
            refine pv_iload (M := mX3_trace) dX3_trace_42 44 rfl rfl ?_
            refine pv_iconst (M := mX3_trace) (v := 4) dX3_trace_44 45 rfl (by decide) ?_
            refine pv_icmp_ge (M := mX3_trace) (tgt := 105) dX3_trace_45 48 rfl (by decide) (fun c61 => ?_) (fun c61 => ?_)
            · have c61 := iv_le (X := 4) (Y := y37.toInt) c61 (by decide) rfl
              refine pv_aload_n (M := mX3_trace) 0 dX3_trace_105 106 rfl rfl rfl ?_
              refine mv_get (M := mX3_trace) (v := .ref 170) dX3_trace_106 FX3 0 wd979 (by decide) (tc169 hC) rfl rfl 109 rfl ?_
              refine pv_iload_n (M := mX3_trace) 3 dX3_trace_109 110 rfl rfl rfl ?_
              refine pv_callv (M := mX3_trace) (as := [.int y35]) (st := []) (kc2 := 0) (ks2 := 0) dX3_trace_110 wd1038 YX8_add ⟨wd488, wd489⟩ (mk_get (tc170 hC)) rfl rfl (s_X8_add g hT I40 170 48 (row170 hC) y35) rfl rfl (Nat.le_of_ble_eq_true rfl) (by decide) rfl rfl 113 rfl (fun rv h1 q62 => ?_)
              obtain ⟨m63, n64, rfl, rfl, I65, K66, rm63⟩ := q62
              replace rm63 : (m38 170 1).toInt ≤ (m63 170 1).toInt ∧ (m63 170 1).toInt ≤ (m38 170 1).toInt + 1 := rm63
              have K66c := K66
              have K66 := K41.trans (K66.sub (wl_sub (by decide)))
              show PV _ _ _ _ _ _ _ 113 [.ref 169, .int y13, .int y14, .int y35, .int y36, .int y37, pv_U, pv_U] [] _
              have kf3 : ∀ b j, b ≤ 76 ∨ (173 ≤ b ∧ b ≤ 176) → m63 b j = m38 b j := fun b j h => K66c b j (wr_out (by omega))
              have kC3 : CK m63 pp y13.toInt := CK_eq kg1 kf3 hp0
              have kW3 : y36.toInt ≤ wn (szp m63 pp) (hw m63 pp y35.toInt) 4 := by rw [wnh_eq kf3 hp0]; exact kg4
              refine pv_iload_n (M := mX3_trace) 1 dX3_trace_113 114 rfl rfl rfl ?_
              refine pv_iload (M := mX3_trace) dX3_trace_114 116 rfl rfl ?_
              refine iv_iadd (M := mX3_trace) (X := y13.toInt) (Y := y36.toInt) dX3_trace_116 117 rfl rfl rfl (by omega) (by omega) (fun v70 ev70 => ?_)
              refine pv_istore_n (M := mX3_trace) 1 (lo2 := [.ref 169, .int v70, .int y14, .int y35, .int y36, .int y37, pv_U, pv_U]) dX3_trace_117 118 rfl rfl (by decide) rfl rfl ?_
              refine pv_aload_n (M := mX3_trace) 0 dX3_trace_118 119 rfl rfl rfl ?_
              refine pv_iload_n (M := mX3_trace) 3 dX3_trace_119 120 rfl rfl rfl ?_
              refine pv_callv (M := mX3_trace) (as := [.int y35]) (st := []) (kc2 := 0) (ks2 := 0) dX3_trace_120 wd1039 YX3_settleLetter ⟨wd1041, wd44⟩ (mk_get (tc169 hC)) rfl rfl (s_X3_settleLetter g hT I65 hC P y35 hp0 kC3.1 kC3.2.1 (by omega)) rfl rfl (Nat.le_of_ble_eq_true rfl) (by decide) rfl rfl 123 rfl (fun rv h1 q71 => ?_)
              obtain ⟨m72, n73, rfl, rfl, I74, K75, rm72⟩ := q71
              replace rm72 : ∀ d, d < 4 → (m72 175 d).toInt = atp m63 d + hw m63 pp y35.toInt d := rm72
              have K75c := K75
              have K75 := K66.trans (K75.sub (wl_sub (by decide)))
              show PV _ _ _ _ _ _ _ 123 [.ref 169, .int v70, .int y14, .int y35, .int y36, .int y37, pv_U, pv_U] [] _
              have kC4 : CK m72 pp v70.toInt := by rw [ev70]; exact CK_step kC3 hp0 kg3 (by omega) kW3 (fun b j h => K75c b j (wr_out (by omega))) rm72
              have kC5 := CK_le kC4
              have z79 := iv_rng y14
              refine iv_inc (M := mX3_trace) (C := (-1)) dX3_trace_123 126 rfl rfl (by decide) rfl rfl (by decide) (by omega) (by omega) (fun v78 ev78 => ?_)
              show PV _ _ _ _ _ _ _ 126 [.ref 169, .int v70, .int v78, .int y35, .int y36, .int y37, pv_U, pv_U] [] _
              refine pv_goto (M := mX3_trace) (tgt := 25) dX3_trace_126 (by decide) ?_
              refine pv_fg (lo2 := [.ref 169, .int v70, .int v78, pv_U, pv_U, pv_U, pv_U, pv_U]) ⟨Or.inr rfl, ⟨Or.inr rfl, ⟨Or.inr rfl, ⟨Or.inl rfl, ⟨Or.inl rfl, ⟨Or.inl rfl, ⟨Or.inl rfl, ⟨Or.inl rfl, trivial⟩⟩⟩⟩⟩⟩⟩⟩ ?_
              exact ih21 v70 v78 m72 n73 (by first | omega | assumption | exact (iv_rng _).2 | exact (iv_rng _).1 | decide) (by first | omega | assumption | exact (iv_rng _).2 | exact (iv_rng _).1 | decide) kC4 I74 K75 (by omega)
            · have c61 := iv_nle (X := 4) (Y := y37.toInt) c61 (by decide) rfl
              refine pv_aload_n (M := mX3_trace) 0 dX3_trace_48 49 rfl rfl rfl ?_
              refine mv_get (M := mX3_trace) (v := .ref 177) dX3_trace_49 FX3 7 wd988 (by decide) (tc169 hC) rfl rfl 52 rfl ?_
              refine pv_iload (M := mX3_trace) dX3_trace_52 54 rfl rfl ?_
              refine iv_iald (M := mX3_trace) (X := y37.toInt) (l1 := (-2147483648)) (l2 := 2147483647) dX3_trace_54 (tc177 hC) rfl (by omega) (by omega) I40 (fun _ => rfl) 55 rfl (fun v80 ev80 pv80 qv80 => ?_)
              have k55 : v80.toInt = (m38 177 y37.toInt.toNat).toInt := congrArg Int32.toInt ev80
              refine pv_istore (M := mX3_trace) (lo2 := [.ref 169, .int y13, .int y14, .int y35, .int y36, .int y37, .int v80, pv_U]) dX3_trace_55 57 rfl (by decide) rfl rfl ?_
              refine pv_iload (M := mX3_trace) dX3_trace_57 59 rfl rfl ?_
              refine pv_iconst (M := mX3_trace) (v := (-1)) dX3_trace_59 60 rfl (by decide) ?_
              refine pv_icmp_eq (M := mX3_trace) (tgt := 99) dX3_trace_60 63 rfl (by decide) (fun c82 => ?_) (fun c82 => ?_)
              · have c82 := iv_eq (X := v80.toInt) (Y := (-1)) c82 rfl (by decide)
                refine iv_inc (M := mX3_trace) (C := 1) dX3_trace_99 102 rfl rfl (by decide) rfl rfl (by decide) (by omega) (by omega) (fun v83 ev83 => ?_)
                show PV _ _ _ _ _ _ _ 102 [.ref 169, .int y13, .int y14, .int y35, .int y36, .int v83, .int v80, pv_U] [] _
                refine pv_goto (M := mX3_trace) (tgt := 42) dX3_trace_102 (by decide) ?_
                refine pv_fg (lo2 := [.ref 169, .int y13, .int y14, .int y35, .int y36, .int v83, pv_U, pv_U]) ⟨Or.inr rfl, ⟨Or.inr rfl, ⟨Or.inr rfl, ⟨Or.inr rfl, ⟨Or.inr rfl, ⟨Or.inr rfl, ⟨Or.inl rfl, ⟨Or.inl rfl, trivial⟩⟩⟩⟩⟩⟩⟩⟩ ?_
                have kb1 : CK m38 pp y13.toInt := by first | exact kg1 | exact kC2
                have kb2 : AHx m38 pp := by first | exact kg2 | exact kA2
                have kb3 : y35.toInt ≠ -1 := by first | exact kg3 | omega
                have kb4 : y36.toInt ≤ wn (szp m38 pp) (hw m38 pp y35.toInt) 4 := by first | exact kg4 | (rw [kW2]; exact kg4) | (rw [kW2, k55]; exact k69)
                exact ih44 y35 y36 v83 m38 n39 (by first | omega | assumption | exact (iv_rng _).2 | exact (iv_rng _).1 | decide) (by first | omega | assumption | exact (iv_rng _).2 | exact (iv_rng _).1 | decide) (by first | omega | assumption | exact (iv_rng _).2 | exact (iv_rng _).1 | decide) (by first | omega | assumption | exact (iv_rng _).2 | exact (iv_rng _).1 | decide) (by first | omega | assumption | exact (iv_rng _).2 | exact (iv_rng _).1 | decide) (by first | omega | assumption | exact (iv_rng _).2 | exact (iv_rng _).1 | decide) kb1 kb2 kb3 kb4 I40 K41 (by omega)
              · have c82 := iv_ne (X := v80.toInt) (Y := (-1)) c82 rfl (by decide)
                refine pv_aload_n (M := mX3_trace) 0 dX3_trace_63 64 rfl rfl rfl ?_
                refine pv_iload (M := mX3_trace) dX3_trace_64 66 rfl rfl ?_
                refine pv_callv (M := mX3_trace) (as := [.int y37]) (st := []) (kc2 := 0) (ks2 := 0) dX3_trace_66 wd1029 YX3_takeLetter ⟨wd1031, wd42⟩ (mk_get (tc169 hC)) rfl rfl (s_X3_takeLetter g hT I40 hC P y37 (by omega) (by omega) hp0 kg1.1 kg1.2.1 kg1.2.2.1 kg2 (by omega)) rfl rfl (Nat.le_of_ble_eq_true rfl) (by decide) rfl rfl 69 rfl (fun rv h1 q88 => ?_)
                obtain ⟨m89, n90, v93, rfl, rfl, I91, K92, pv93, qv93, rv93⟩ := q88
                replace rv93 : v93.toInt ≤ wn (szp m38 pp) (hw m38 pp (m38 177 y37.toInt.toNat).toInt) 4 ∧ AHx m89 pp := rv93
                have K92c := K92
                have K92 := K41.trans (K92.sub (wl_sub (by decide)))
                show PV _ _ _ _ _ _ _ 69 [.ref 169, .int y13, .int y14, .int y35, .int y36, .int y37, .int v80, pv_U] [.int v93] _
                have k69 := rv93.1
                have kA2 := rv93.2
                have kf2 : ∀ b j, b ≤ 76 ∨ (173 ≤ b ∧ b ≤ 176) → m89 b j = m38 b j := fun b j h => K92c b j (wr_out (by omega))
                have kC2 : CK m89 pp y13.toInt := CK_eq kg1 kf2 hp0
                have kW2 := wnh_eq kf2 hp0
                have k69b : y13.toInt + v93.toInt ≤ 28560 := by have a := hw_le kg1.1 kg1.2.1 (l := (m38 177 y37.toInt.toNat).toInt) (by omega); have b := kg1.2.2.2.2; omega
                refine pv_istore (M := mX3_trace) (lo2 := [.ref 169, .int y13, .int y14, .int y35, .int y36, .int y37, .int v80, .int v93]) dX3_trace_69 71 rfl (by decide) rfl rfl ?_
                refine pv_iload (M := mX3_trace) dX3_trace_71 73 rfl rfl ?_
                refine pv_iload_n (M := mX3_trace) 3 dX3_trace_73 74 rfl rfl rfl ?_
                refine pv_icmp_ge (M := mX3_trace) (tgt := 99) dX3_trace_74 77 rfl (by decide) (fun c100 => ?_) (fun c100 => ?_)
                · have c100 := iv_le (X := y35.toInt) (Y := v80.toInt) c100 rfl rfl
                  refine iv_inc (M := mX3_trace) (C := 1) dX3_trace_99 102 rfl rfl (by decide) rfl rfl (by decide) (by omega) (by omega) (fun v101 ev101 => ?_)
                  show PV _ _ _ _ _ _ _ 102 [.ref 169, .int y13, .int y14, .int y35, .int y36, .int v101, .int v80, .int v93] [] _
                  refine pv_goto (M := mX3_trace) (tgt := 42) dX3_trace_102 (by decide) ?_
                  refine pv_fg (lo2 := [.ref 169, .int y13, .int y14, .int y35, .int y36, .int v101, pv_U, pv_U]) ⟨Or.inr rfl, ⟨Or.inr rfl, ⟨Or.inr rfl, ⟨Or.inr rfl, ⟨Or.inr rfl, ⟨Or.inr rfl, ⟨Or.inl rfl, ⟨Or.inl rfl, trivial⟩⟩⟩⟩⟩⟩⟩⟩ ?_
                  have kb1 : CK m89 pp y13.toInt := by first | exact kg1 | exact kC2
                  have kb2 : AHx m89 pp := by first | exact kg2 | exact kA2
                  have kb3 : y35.toInt ≠ -1 := by first | exact kg3 | omega
                  have kb4 : y36.toInt ≤ wn (szp m89 pp) (hw m89 pp y35.toInt) 4 := by first | exact kg4 | (rw [kW2]; exact kg4) | (rw [kW2, k55]; exact k69)
                  exact ih44 y35 y36 v101 m89 n90 (by first | omega | assumption | exact (iv_rng _).2 | exact (iv_rng _).1 | decide) (by first | omega | assumption | exact (iv_rng _).2 | exact (iv_rng _).1 | decide) (by first | omega | assumption | exact (iv_rng _).2 | exact (iv_rng _).1 | decide) (by first | omega | assumption | exact (iv_rng _).2 | exact (iv_rng _).1 | decide) (by first | omega | assumption | exact (iv_rng _).2 | exact (iv_rng _).1 | decide) (by first | omega | assumption | exact (iv_rng _).2 | exact (iv_rng _).1 | decide) kb1 kb2 kb3 kb4 I91 K92 (by omega)
                · have c100 := iv_nle (X := y35.toInt) (Y := v80.toInt) c100 rfl rfl
                  refine pv_aload_n (M := mX3_trace) 0 dX3_trace_77 78 rfl rfl rfl ?_
                  refine mv_get (M := mX3_trace) (v := .ref 178) dX3_trace_78 FX3 8 wd989 (by decide) (tc169 hC) rfl rfl 81 rfl ?_
                  refine pv_iload_n (M := mX3_trace) 1 dX3_trace_81 82 rfl rfl rfl ?_
                  refine pv_iload (M := mX3_trace) dX3_trace_82 84 rfl rfl ?_
                  refine iv_iadd (M := mX3_trace) (X := y13.toInt) (Y := v93.toInt) dX3_trace_84 85 rfl rfl rfl (by omega) (by omega) (fun v106 ev106 => ?_)
                  refine iv_iald (M := mX3_trace) (X := v106.toInt) (l1 := (-2147483648)) (l2 := 2147483647) dX3_trace_85 (tc178 hC) rfl (by omega) (by omega) I91 (fun _ => rfl) 86 rfl (fun v107 ev107 pv107 qv107 => ?_)
                  refine pv_iload_n (M := mX3_trace) 2 dX3_trace_86 87 rfl rfl rfl ?_
                  refine pv_iconst (M := mX3_trace) (v := 1) dX3_trace_87 88 rfl (by decide) ?_
                  have z109 := iv_rng y14
                  refine iv_isub (M := mX3_trace) (X := y14.toInt) (Y := 1) dX3_trace_88 89 rfl rfl (by decide) (by omega) (by omega) (fun v108 ev108 => ?_)
                  refine pv_icmp_ne (M := mX3_trace) (tgt := 99) dX3_trace_89 92 rfl (by decide) (fun c110 => ?_) (fun c110 => ?_)
                  · have c110 := iv_ne (X := v107.toInt) (Y := v108.toInt) c110 rfl rfl
                    refine iv_inc (M := mX3_trace) (C := 1) dX3_trace_99 102 rfl rfl (by decide) rfl rfl (by decide) (by omega) (by omega) (fun v111 ev111 => ?_)
                    show PV _ _ _ _ _ _ _ 102 [.ref 169, .int y13, .int y14, .int y35, .int y36, .int v111, .int v80, .int v93] [] _
                    refine pv_goto (M := mX3_trace) (tgt := 42) dX3_trace_102 (by decide) ?_
                    refine pv_fg (lo2 := [.ref 169, .int y13, .int y14, .int y35, .int y36, .int v111, pv_U, pv_U]) ⟨Or.inr rfl, ⟨Or.inr rfl, ⟨Or.inr rfl, ⟨Or.inr rfl, ⟨Or.inr rfl, ⟨Or.inr rfl, ⟨Or.inl rfl, ⟨Or.inl rfl, trivial⟩⟩⟩⟩⟩⟩⟩⟩ ?_
                    have kb1 : CK m89 pp y13.toInt := by first | exact kg1 | exact kC2
                    have kb2 : AHx m89 pp := by first | exact kg2 | exact kA2
                    have kb3 : y35.toInt ≠ -1 := by first | exact kg3 | omega
                    have kb4 : y36.toInt ≤ wn (szp m89 pp) (hw m89 pp y35.toInt) 4 := by first | exact kg4 | (rw [kW2]; exact kg4) | (rw [kW2, k55]; exact k69)
                    exact ih44 y35 y36 v111 m89 n90 (by first | omega | assumption | exact (iv_rng _).2 | exact (iv_rng _).1 | decide) (by first | omega | assumption | exact (iv_rng _).2 | exact (iv_rng _).1 | decide) (by first | omega | assumption | exact (iv_rng _).2 | exact (iv_rng _).1 | decide) (by first | omega | assumption | exact (iv_rng _).2 | exact (iv_rng _).1 | decide) (by first | omega | assumption | exact (iv_rng _).2 | exact (iv_rng _).1 | decide) (by first | omega | assumption | exact (iv_rng _).2 | exact (iv_rng _).1 | decide) kb1 kb2 kb3 kb4 I91 K92 (by omega)
                  · have c110 := iv_eq (X := v107.toInt) (Y := v108.toInt) c110 rfl rfl
                    refine pv_iload (M := mX3_trace) dX3_trace_92 94 rfl rfl ?_
                    refine pv_istore_n (M := mX3_trace) 3 (lo2 := [.ref 169, .int y13, .int y14, .int v80, .int y36, .int y37, .int v80, .int v93]) dX3_trace_94 95 rfl rfl (by decide) rfl rfl ?_
                    refine pv_iload (M := mX3_trace) dX3_trace_95 97 rfl rfl ?_
                    refine pv_istore (M := mX3_trace) (lo2 := [.ref 169, .int y13, .int y14, .int v80, .int v93, .int y37, .int v80, .int v93]) dX3_trace_97 99 rfl (by decide) rfl rfl ?_
                    refine iv_inc (M := mX3_trace) (C := 1) dX3_trace_99 102 rfl rfl (by decide) rfl rfl (by decide) (by omega) (by omega) (fun v116 ev116 => ?_)
                    show PV _ _ _ _ _ _ _ 102 [.ref 169, .int y13, .int y14, .int v80, .int v93, .int v116, .int v80, .int v93] [] _
                    refine pv_goto (M := mX3_trace) (tgt := 42) dX3_trace_102 (by decide) ?_
                    refine pv_fg (lo2 := [.ref 169, .int y13, .int y14, .int v80, .int v93, .int v116, pv_U, pv_U]) ⟨Or.inr rfl, ⟨Or.inr rfl, ⟨Or.inr rfl, ⟨Or.inr rfl, ⟨Or.inr rfl, ⟨Or.inr rfl, ⟨Or.inl rfl, ⟨Or.inl rfl, trivial⟩⟩⟩⟩⟩⟩⟩⟩ ?_
                    have kb1 : CK m89 pp y13.toInt := by first | exact kg1 | exact kC2
                    have kb2 : AHx m89 pp := by first | exact kg2 | exact kA2
                    have kb3 : v80.toInt ≠ -1 := by first | exact kg3 | omega
                    have kb4 : v93.toInt ≤ wn (szp m89 pp) (hw m89 pp v80.toInt) 4 := by first | exact kg4 | (rw [kW2]; exact kg4) | (rw [kW2, k55]; exact k69)
                    exact ih44 v80 v93 v116 m89 n90 (by first | omega | assumption | exact (iv_rng _).2 | exact (iv_rng _).1 | decide) (by first | omega | assumption | exact (iv_rng _).2 | exact (iv_rng _).1 | decide) (by first | omega | assumption | exact (iv_rng _).2 | exact (iv_rng _).1 | decide) (by first | omega | assumption | exact (iv_rng _).2 | exact (iv_rng _).1 | decide) (by first | omega | assumption | exact (iv_rng _).2 | exact (iv_rng _).1 | decide) (by first | omega | assumption | exact (iv_rng _).2 | exact (iv_rng _).1 | decide) kb1 kb2 kb3 kb4 I91 K92 (by omega)
        have z121 : (26 : Int32).toInt = 26 := by decide
        have z122 : (0 : Int32).toInt = 0 := by decide
        have z123 : (0 : Int32).toInt = 0 := by decide
        exact lp43 (((4 - 0) : Int).toNat + 1) 26 0 0 m29 n30 (by first | omega | assumption | exact (iv_rng _).2 | exact (iv_rng _).1 | decide) (by first | omega | assumption | exact (iv_rng _).2 | exact (iv_rng _).1 | decide) (by first | omega | assumption | exact (iv_rng _).2 | exact (iv_rng _).1 | decide) (by first | omega | assumption | exact (iv_rng _).2 | exact (iv_rng _).1 | decide) (by first | omega | assumption | exact (iv_rng _).2 | exact (iv_rng _).1 | decide) (by first | omega | assumption | exact (iv_rng _).2 | exact (iv_rng _).1 | decide) kC1 kA1 (by decide) (by rw [Int32.toInt_zero]; exact wn_b kC1.1 (fun d => (hw_b _ _ _ d).1) _ (by omega)) I31 K32 (by omega)
  have z124 : (0 : Int32).toInt = 0 := by decide
  exact lp20 (((v12.toInt - (-2147483648)) : Int).toNat + 1) 0 v12 m7 n8 (by first | omega | assumption | exact (iv_rng _).2 | exact (iv_rng _).1 | decide) (by first | omega | assumption | exact (iv_rng _).2 | exact (iv_rng _).1 | decide) kC0 I9 K10 (by omega)

set_option maxHeartbeats 2000000 in
set_option maxRecDepth 20000 in
theorem s_X3_solve (g : pv_G) {T : List mv_T} {m : Nat → Nat → Int32} {n : Nat → Nat → Int64} {r : Nat → Value} (hT : TX T) (I : IV BB m) (hC : TC T) {pp qq : Nat → Nat} (P : PX T r pp qq) (hp0 : Dj pp) (hp1 : S12 (szp m pp)) : PM g mX3_solve yX3_solve (sqV T BB (wl [(170, 171, none), (175, 178, none)]) r m (fun m' => True)) 4 0 0 [.ref 169] (mk T m n r) := by
  have Kp : fr (wl [(170, 171, none), (175, 178, none)]) m m := fr.rf
  refine PM.of 2 (lo := [.ref 169, pv_U, pv_U]) rfl (by decide) rfl rfl (Nat.le_of_ble_eq_true rfl) ?_
  refine pv_iconst (M := mX3_solve) (v := 1) dX3_solve_0 1 rfl (by decide) ?_
  refine pv_istore_n (M := mX3_solve) 1 (lo2 := [.ref 169, .int 1, pv_U]) dX3_solve_1 2 rfl rfl (by decide) rfl rfl ?_
  refine pv_iconst (M := mX3_solve) (v := 3) dX3_solve_2 3 rfl (by decide) ?_
  refine pv_istore_n (M := mX3_solve) 2 (lo2 := [.ref 169, .int 1, .int 3]) dX3_solve_3 4 rfl rfl (by decide) rfl rfl ?_
  have lp8 : ∀ (fuel7 : Nat) (y1 : Int32) (y2 : Int32) (m3 : Nat → Nat → Int32) (n4 : Nat → Nat → Int64), (1 ≤ y1.toInt) → (y1.toInt ≤ 28561) → (-1 ≤ y2.toInt) → (y2.toInt ≤ 3) → (y1.toInt = cA (szp m pp) (3 - y2.toInt).toNat) → (∀ d : Nat, d < 4 → y2.toInt < (d : Int) → (m3 176 d).toInt = cA (szp m pp) (3 - d)) → IV BB m3 → fr (wl [(170, 171, none), (175, 178, none)]) m m3 → ((y2.toInt - (-1)) : Int).toNat < fuel7 → PV none g mX3_solve (sqV T BB (wl [(170, 171, none), (175, 178, none)]) r m (fun m' => True)) 4 0 0 4 [.ref 169, .int y1, .int y2] [] (mk T m3 n4 r) := by
    intro fuel7
    induction fuel7 with
    | zero => intro y1 y2 m3 n4 b10 b11 b12 b13 b14 b15 I5 K6 z16; omega
    | succ fuel7 ih9 =>
      intro y1 y2 m3 n4 b10 b11 b12 b13 b14 b15 I5 K6 z16
      have kgA := (show y1.toInt = cA (szp m pp) (3 - y2.toInt).toNat by assumption)
      have kgB := (show ∀ d : Nat, d < 4 → y2.toInt < (d : Int) → (m3 176 d).toInt = cA (szp m pp) (3 - d) by assumption)
      refine pv_iload_n (M := mX3_solve) 2 dX3_solve_4 5 rfl rfl rfl ?_
      refine pv_if_lt (M := mX3_solve) (tgt := 35) dX3_solve_5 8 rfl (by decide) (fun c19 => ?_) (fun c19 => ?_)
      · have c19 := iv_lt (X := y2.toInt) (Y := 0) c19 rfl (by decide)
        have kS : ∀ d, d < 4 → szp m3 pp d = szp m pp d := szp_eq (fun b hb => funext fun j => K6 b j (wo_s (by omega))) hp0
        have kP : APx m3 pp := fun d hd => (kgB d hd (by omega)).trans (cA_of (fun e he => (kS e he).symm) _ (by omega))
        have kT : Szs (szp m3 pp) := fun d hd => by rw [kS d hd]; exact hp1 d hd
        have k4 : y1.toInt = cA (szp m3 pp) 4 := kgA.trans ((congrArg (cA (szp m pp)) (show (3 - y2.toInt).toNat = 4 by omega)).trans (cA_of (fun e he => (kS e he).symm) _ (by omega)))
        refine pv_aload_n (M := mX3_solve) 0 dX3_solve_35 36 rfl rfl rfl ?_
        refine mv_get (M := mX3_solve) (v := .ref 175) dX3_solve_36 FX3 5 wd986 (by decide) (tc169 hC) rfl rfl 39 rfl ?_
        refine pv_iconst (M := mX3_solve) (v := 0) dX3_solve_39 40 rfl (by decide) ?_
        refine pv_aload_n (M := mX3_solve) 0 dX3_solve_40 41 rfl rfl rfl ?_
        refine mv_get (M := mX3_solve) (v := .ref 172) dX3_solve_41 FX3 2 wd983 (by decide) (tc169 hC) rfl rfl 44 rfl ?_
        refine pv_iconst (M := mX3_solve) (v := 0) dX3_solve_44 45 rfl (by decide) ?_
        refine iv_qpart (M := mX3_solve) (X := 0) dX3_solve_45 hC P (by decide) (by omega) (by omega) 46 rfl (fun b24 rb24 eb24 fb24 hb24 => ?_)
        have zb24 := hb24.2.2.2.2
        refine iv_get (M := mX3_solve) (l1 := 0) (l2 := (rb24 : Int)) dX3_solve_46 FX8 1 wd197 (by decide) hb24.1 rfl I5 hb24.2.2.1 49 rfl (fun v25 ev25 pv25 qv25 => ?_)
        have kS0 : v25.toInt = szp m3 pp 0 := (congrArg Int32.toInt ev25).trans (congrArg (fun z => (m3 z 1).toInt) (by assumption))
        have kT0 := kT 0 (by omega)
        refine iv_iast (M := mX3_solve) (X := 0) (l1 := (-1)) (l2 := 12) dX3_solve_49 (tc175 hC) (by decide) (by omega) (by omega) I5 (fun _ => rfl) (by omega) (by omega) 50 rfl (fun m28 e31 I29 => ?_)
        have K30 := K6.set e31 rfl
        have lp38 : ∀ (fuel37 : Nat) (y32 : Int32) (m33 : Nat → Nat → Int32) (n34 : Nat → Nat → Int64), (SV0 m33 pp y32.toInt) → IV BB m33 → fr (wl [(170, 171, none), (175, 178, none)]) m m33 → (((m33 175 0).toInt + 1) : Int).toNat < fuel37 → PV none g mX3_solve (sqV T BB (wl [(170, 171, none), (175, 178, none)]) r m (fun m' => True)) 4 0 0 50 [.ref 169, .int y32, .int y2] [] (mk T m33 n34 r) := by
          intro fuel37
          induction fuel37 with
          | zero => intro y32 m33 n34 b40 I35 K36 z41; omega
          | succ fuel37 ih39 =>
            intro y32 m33 n34 b40 I35 K36 z41
            have kv0 := (show SV0 m33 pp y32.toInt by assumption)
            have kw0 := kv0.1.2.2.2
            refine pv_aload_n (M := mX3_solve) 0 dX3_solve_50 51 rfl rfl rfl ?_
            refine mv_get (M := mX3_solve) (v := .ref 175) dX3_solve_51 FX3 5 wd986 (by decide) (tc169 hC) rfl rfl 54 rfl ?_
            refine pv_iconst (M := mX3_solve) (v := 0) dX3_solve_54 55 rfl (by decide) ?_
            refine iv_iald (M := mX3_solve) (X := 0) (l1 := (-1)) (l2 := 12) dX3_solve_55 (tc175 hC) (by decide) (by omega) (by omega) I35 (fun _ => rfl) 56 rfl (fun v44 ev44 pv44 qv44 => ?_)
            have k56 : v44.toInt = (m33 175 0).toInt := congrArg Int32.toInt ev44
            refine pv_if_lt (M := mX3_solve) (tgt := 191) dX3_solve_56 59 rfl (by decide) (fun c46 => ?_) (fun c46 => ?_)
            · have c46 := iv_lt (X := v44.toInt) (Y := 0) c46 rfl (by decide)
              refine pv_aload_n (M := mX3_solve) 0 dX3_solve_191 192 rfl rfl rfl ?_
              refine pv_callv (M := mX3_solve) (as := []) (st := []) (kc2 := 0) (ks2 := 0) dX3_solve_192 wd1033 YX3_trace ⟨wd1035, wd43⟩ (mk_get (tc169 hC)) rfl rfl (s_X3_trace g hT I35 hC P hp0 kv0.1.1 kv0.1.2.1) rfl rfl (Nat.le_of_ble_eq_true rfl) (by decide) rfl rfl 195 rfl (fun rv h1 q47 => ?_)
              obtain ⟨m48, n49, rfl, rfl, I50, K51, rm48⟩ := q47
              have K51c := K51
              have K51 := K36.trans (K51.sub (wl_sub (by decide)))
              show PV _ _ _ _ _ _ _ 195 [.ref 169, .int y32, .int y2] [] _
              exact pv_vret (M := mX3_solve) dX3_solve_195 rfl ⟨_, _, rfl, rfl, I50, K51, trivial⟩
            · have c46 := iv_nlt (X := v44.toInt) (Y := 0) c46 rfl (by decide)
              refine pv_aload_n (M := mX3_solve) 0 dX3_solve_59 60 rfl rfl rfl ?_
              refine mv_get (M := mX3_solve) (v := .ref 175) dX3_solve_60 FX3 5 wd986 (by decide) (tc169 hC) rfl rfl 63 rfl ?_
              refine pv_iconst (M := mX3_solve) (v := 1) dX3_solve_63 64 rfl (by decide) ?_
              refine pv_aload_n (M := mX3_solve) 0 dX3_solve_64 65 rfl rfl rfl ?_
              refine mv_get (M := mX3_solve) (v := .ref 172) dX3_solve_65 FX3 2 wd983 (by decide) (tc169 hC) rfl rfl 68 rfl ?_
              refine pv_iconst (M := mX3_solve) (v := 1) dX3_solve_68 69 rfl (by decide) ?_
              refine iv_qpart (M := mX3_solve) (X := 1) dX3_solve_69 hC P (by decide) (by omega) (by omega) 70 rfl (fun b52 rb52 eb52 fb52 hb52 => ?_)
              have zb52 := hb52.2.2.2.2
              refine iv_get (M := mX3_solve) (l1 := 0) (l2 := (rb52 : Int)) dX3_solve_70 FX8 1 wd197 (by decide) hb52.1 rfl I35 hb52.2.2.1 73 rfl (fun v53 ev53 pv53 qv53 => ?_)
              have kS1 : v53.toInt = szp m33 pp 1 := (congrArg Int32.toInt ev53).trans (congrArg (fun z => (m33 z 1).toInt) (by assumption))
              have kT1 := kv0.1.1 1 (by omega)
              refine iv_iast (M := mX3_solve) (X := 1) (l1 := (-1)) (l2 := 12) dX3_solve_73 (tc175 hC) (by decide) (by omega) (by omega) I35 (fun _ => rfl) (by omega) (by omega) 74 rfl (fun m56 e59 I57 => ?_)
              have K58 := K36.set e59 rfl
              have lp66 : ∀ (fuel65 : Nat) (y60 : Int32) (m61 : Nat → Nat → Int32) (n62 : Nat → Nat → Int64), (SV1 m61 pp y60.toInt) → ((m61 175 0).toInt = (m33 175 0).toInt) → IV BB m61 → fr (wl [(170, 171, none), (175, 178, none)]) m m61 → (((m61 175 1).toInt + 1) : Int).toNat < fuel65 → PV none g mX3_solve (sqV T BB (wl [(170, 171, none), (175, 178, none)]) r m (fun m' => True)) 4 0 0 74 [.ref 169, .int y60, .int y2] [] (mk T m61 n62 r) := by
                intro fuel65
                induction fuel65 with
                | zero => intro y60 m61 n62 b68 b69 I63 K64 z70; omega
                | succ fuel65 ih67 =>
                  intro y60 m61 n62 b68 b69 I63 K64 z70
                  have kv1 := (show SV1 m61 pp y60.toInt by assumption)
                  have kw1 := kv1.1.2.2.2
                  have kr1 := (show (m61 175 0).toInt = (m33 175 0).toInt by assumption)
                  have kx10 := kv1.1.2.2.1 0 (by omega)
                  have ky10 := kv1.1.1 0 (by omega)
                  refine pv_aload_n (M := mX3_solve) 0 dX3_solve_74 75 rfl rfl rfl ?_
                  refine mv_get (M := mX3_solve) (v := .ref 175) dX3_solve_75 FX3 5 wd986 (by decide) (tc169 hC) rfl rfl 78 rfl ?_
                  refine pv_iconst (M := mX3_solve) (v := 1) dX3_solve_78 79 rfl (by decide) ?_
                  refine iv_iald (M := mX3_solve) (X := 1) (l1 := (-1)) (l2 := 12) dX3_solve_79 (tc175 hC) (by decide) (by omega) (by omega) I63 (fun _ => rfl) 80 rfl (fun v76 ev76 pv76 qv76 => ?_)
                  have k80 : v76.toInt = (m61 175 1).toInt := congrArg Int32.toInt ev76
                  refine pv_if_lt (M := mX3_solve) (tgt := 178) dX3_solve_80 83 rfl (by decide) (fun c78 => ?_) (fun c78 => ?_)
                  · have c78 := iv_lt (X := v76.toInt) (Y := 0) c78 rfl (by decide)
                    refine pv_aload_n (M := mX3_solve) 0 dX3_solve_178 179 rfl rfl rfl ?_
                    refine mv_get (M := mX3_solve) (v := .ref 175) dX3_solve_179 FX3 5 wd986 (by decide) (tc169 hC) rfl rfl 182 rfl ?_
                    refine pv_iconst (M := mX3_solve) (v := 0) dX3_solve_182 183 rfl (by decide) ?_
                    refine pv_dup2 (M := mX3_solve) dX3_solve_183 184 rfl rfl rfl ?_
                    refine iv_iald (M := mX3_solve) (X := 0) (l1 := (-1)) (l2 := 12) dX3_solve_184 (tc175 hC) (by decide) (by omega) (by omega) I63 (fun _ => rfl) 185 rfl (fun v79 ev79 pv79 qv79 => ?_)
                    have k185 : v79.toInt = (m61 175 0).toInt := congrArg Int32.toInt ev79
                    refine pv_iconst (M := mX3_solve) (v := 1) dX3_solve_185 186 rfl (by decide) ?_
                    refine iv_isub (M := mX3_solve) (X := v79.toInt) (Y := 1) dX3_solve_186 187 rfl rfl (by decide) (by omega) (by omega) (fun v81 ev81 => ?_)
                    refine iv_iast (M := mX3_solve) (X := 0) (l1 := (-1)) (l2 := 12) dX3_solve_187 (tc175 hC) (by decide) (by omega) (by omega) I63 (fun _ => rfl) (by omega) (by omega) 188 rfl (fun m82 e85 I83 => ?_)
                    have K84 := K64.set e85 rfl
                    refine pv_goto (M := mX3_solve) (tgt := 50) dX3_solve_188 (by decide) ?_
                    have k187 := (e85)
                    have kb0 : SV0 m82 pp y60.toInt := SV_out0 kv1 (by omega) hp0 k187 (by omega)
                    have kp0 : (m82 175 0).toInt = (m61 175 0).toInt - 1 := by rw [k187, show ((0 : Int)).toNat = 0 from rfl, up2_eq]; omega
                    exact ih39 y60 m82 n62 kb0 I83 K84 (by omega)
                  · have c78 := iv_nlt (X := v76.toInt) (Y := 0) c78 rfl (by decide)
                    refine pv_aload_n (M := mX3_solve) 0 dX3_solve_83 84 rfl rfl rfl ?_
                    refine mv_get (M := mX3_solve) (v := .ref 175) dX3_solve_84 FX3 5 wd986 (by decide) (tc169 hC) rfl rfl 87 rfl ?_
                    refine pv_iconst (M := mX3_solve) (v := 2) dX3_solve_87 88 rfl (by decide) ?_
                    refine pv_aload_n (M := mX3_solve) 0 dX3_solve_88 89 rfl rfl rfl ?_
                    refine mv_get (M := mX3_solve) (v := .ref 172) dX3_solve_89 FX3 2 wd983 (by decide) (tc169 hC) rfl rfl 92 rfl ?_
                    refine pv_iconst (M := mX3_solve) (v := 2) dX3_solve_92 93 rfl (by decide) ?_
                    refine iv_qpart (M := mX3_solve) (X := 2) dX3_solve_93 hC P (by decide) (by omega) (by omega) 94 rfl (fun b89 rb89 eb89 fb89 hb89 => ?_)
                    have zb89 := hb89.2.2.2.2
                    refine iv_get (M := mX3_solve) (l1 := 0) (l2 := (rb89 : Int)) dX3_solve_94 FX8 1 wd197 (by decide) hb89.1 rfl I63 hb89.2.2.1 97 rfl (fun v90 ev90 pv90 qv90 => ?_)
                    have kS2 : v90.toInt = szp m61 pp 2 := (congrArg Int32.toInt ev90).trans (congrArg (fun z => (m61 z 1).toInt) (by assumption))
                    have kT2 := kv1.1.1 2 (by omega)
                    refine iv_iast (M := mX3_solve) (X := 2) (l1 := (-1)) (l2 := 12) dX3_solve_97 (tc175 hC) (by decide) (by omega) (by omega) I63 (fun _ => rfl) (by omega) (by omega) 98 rfl (fun m93 e96 I94 => ?_)
                    have K95 := K64.set e96 rfl
                    have lp103 : ∀ (fuel102 : Nat) (y97 : Int32) (m98 : Nat → Nat → Int32) (n99 : Nat → Nat → Int64), (SV2 m98 pp y97.toInt) → ((m98 175 0).toInt = (m33 175 0).toInt) → ((m98 175 1).toInt = (m61 175 1).toInt) → IV BB m98 → fr (wl [(170, 171, none), (175, 178, none)]) m m98 → (((m98 175 2).toInt + 1) : Int).toNat < fuel102 → PV none g mX3_solve (sqV T BB (wl [(170, 171, none), (175, 178, none)]) r m (fun m' => True)) 4 0 0 98 [.ref 169, .int y97, .int y2] [] (mk T m98 n99 r) := by
                      intro fuel102
                      induction fuel102 with
                      | zero => intro y97 m98 n99 b105 b106 b107 I100 K101 z108; omega
                      | succ fuel102 ih104 =>
                        intro y97 m98 n99 b105 b106 b107 I100 K101 z108
                        have kv2 := (show SV2 m98 pp y97.toInt by assumption)
                        have kw2 := kv2.1.2.2.2
                        have kr20 := (show (m98 175 0).toInt = (m33 175 0).toInt by assumption)
                        have kr21 := (show (m98 175 1).toInt = (m61 175 1).toInt by assumption)
                        have kx21 := kv2.1.2.2.1 1 (by omega)
                        have ky21 := kv2.1.1 1 (by omega)
                        refine pv_aload_n (M := mX3_solve) 0 dX3_solve_98 99 rfl rfl rfl ?_
                        refine mv_get (M := mX3_solve) (v := .ref 175) dX3_solve_99 FX3 5 wd986 (by decide) (tc169 hC) rfl rfl 102 rfl ?_
                        refine pv_iconst (M := mX3_solve) (v := 2) dX3_solve_102 103 rfl (by decide) ?_
                        refine iv_iald (M := mX3_solve) (X := 2) (l1 := (-1)) (l2 := 12) dX3_solve_103 (tc175 hC) (by decide) (by omega) (by omega) I100 (fun _ => rfl) 104 rfl (fun v115 ev115 pv115 qv115 => ?_)
                        have k104 : v115.toInt = (m98 175 2).toInt := congrArg Int32.toInt ev115
                        refine pv_if_lt (M := mX3_solve) (tgt := 165) dX3_solve_104 107 rfl (by decide) (fun c117 => ?_) (fun c117 => ?_)
                        · have c117 := iv_lt (X := v115.toInt) (Y := 0) c117 rfl (by decide)
                          refine pv_aload_n (M := mX3_solve) 0 dX3_solve_165 166 rfl rfl rfl ?_
                          refine mv_get (M := mX3_solve) (v := .ref 175) dX3_solve_166 FX3 5 wd986 (by decide) (tc169 hC) rfl rfl 169 rfl ?_
                          refine pv_iconst (M := mX3_solve) (v := 1) dX3_solve_169 170 rfl (by decide) ?_
                          refine pv_dup2 (M := mX3_solve) dX3_solve_170 171 rfl rfl rfl ?_
                          refine iv_iald (M := mX3_solve) (X := 1) (l1 := (-1)) (l2 := 12) dX3_solve_171 (tc175 hC) (by decide) (by omega) (by omega) I100 (fun _ => rfl) 172 rfl (fun v118 ev118 pv118 qv118 => ?_)
                          have k172 : v118.toInt = (m98 175 1).toInt := congrArg Int32.toInt ev118
                          refine pv_iconst (M := mX3_solve) (v := 1) dX3_solve_172 173 rfl (by decide) ?_
                          refine iv_isub (M := mX3_solve) (X := v118.toInt) (Y := 1) dX3_solve_173 174 rfl rfl (by decide) (by omega) (by omega) (fun v120 ev120 => ?_)
                          refine iv_iast (M := mX3_solve) (X := 1) (l1 := (-1)) (l2 := 12) dX3_solve_174 (tc175 hC) (by decide) (by omega) (by omega) I100 (fun _ => rfl) (by omega) (by omega) 175 rfl (fun m121 e124 I122 => ?_)
                          have K123 := K101.set e124 rfl
                          refine pv_goto (M := mX3_solve) (tgt := 74) dX3_solve_175 (by decide) ?_
                          have k174 := (e124)
                          have kb1 : SV1 m121 pp y97.toInt := SV_out1 kv2 (by omega) hp0 k174 (by omega)
                          have kp1 : (m121 175 1).toInt = (m98 175 1).toInt - 1 := by rw [k174, show ((1 : Int)).toNat = 1 from rfl, up2_eq]; omega
                          have kq10 : (m121 175 0).toInt = (m33 175 0).toInt := by rw [k174, up2_ne (by omega)]; exact kr20
                          exact ih67 y97 m121 n99 kb1 kq10 I122 K123 (by omega)
                        · have c117 := iv_nlt (X := v115.toInt) (Y := 0) c117 rfl (by decide)
                          refine pv_aload_n (M := mX3_solve) 0 dX3_solve_107 108 rfl rfl rfl ?_
                          refine mv_get (M := mX3_solve) (v := .ref 175) dX3_solve_108 FX3 5 wd986 (by decide) (tc169 hC) rfl rfl 111 rfl ?_
                          refine pv_iconst (M := mX3_solve) (v := 3) dX3_solve_111 112 rfl (by decide) ?_
                          refine pv_aload_n (M := mX3_solve) 0 dX3_solve_112 113 rfl rfl rfl ?_
                          refine mv_get (M := mX3_solve) (v := .ref 172) dX3_solve_113 FX3 2 wd983 (by decide) (tc169 hC) rfl rfl 116 rfl ?_
                          refine pv_iconst (M := mX3_solve) (v := 3) dX3_solve_116 117 rfl (by decide) ?_
                          refine iv_qpart (M := mX3_solve) (X := 3) dX3_solve_117 hC P (by decide) (by omega) (by omega) 118 rfl (fun b129 rb129 eb129 fb129 hb129 => ?_)
                          have zb129 := hb129.2.2.2.2
                          refine iv_get (M := mX3_solve) (l1 := 0) (l2 := (rb129 : Int)) dX3_solve_118 FX8 1 wd197 (by decide) hb129.1 rfl I100 hb129.2.2.1 121 rfl (fun v130 ev130 pv130 qv130 => ?_)
                          have kS3 : v130.toInt = szp m98 pp 3 := (congrArg Int32.toInt ev130).trans (congrArg (fun z => (m98 z 1).toInt) (by assumption))
                          have kT3 := kv2.1.1 3 (by omega)
                          refine iv_iast (M := mX3_solve) (X := 3) (l1 := (-1)) (l2 := 12) dX3_solve_121 (tc175 hC) (by decide) (by omega) (by omega) I100 (fun _ => rfl) (by omega) (by omega) 122 rfl (fun m133 e136 I134 => ?_)
                          have K135 := K101.set e136 rfl
                          have lp143 : ∀ (fuel142 : Nat) (y137 : Int32) (m138 : Nat → Nat → Int32) (n139 : Nat → Nat → Int64), (SV3 m138 pp y137.toInt) → ((m138 175 0).toInt = (m33 175 0).toInt) → ((m138 175 1).toInt = (m61 175 1).toInt) → ((m138 175 2).toInt = (m98 175 2).toInt) → IV BB m138 → fr (wl [(170, 171, none), (175, 178, none)]) m m138 → (((m138 175 3).toInt + 1) : Int).toNat < fuel142 → PV none g mX3_solve (sqV T BB (wl [(170, 171, none), (175, 178, none)]) r m (fun m' => True)) 4 0 0 122 [.ref 169, .int y137, .int y2] [] (mk T m138 n139 r) := by
                            intro fuel142
                            induction fuel142 with
                            | zero => intro y137 m138 n139 b145 b146 b147 b148 I140 K141 z149; omega
                            | succ fuel142 ih144 =>
                              intro y137 m138 n139 b145 b146 b147 b148 I140 K141 z149
                              have kv3 := (show SV3 m138 pp y137.toInt by assumption)
                              have kw3 := kv3.1.2.2.2
                              have kr30 := (show (m138 175 0).toInt = (m33 175 0).toInt by assumption)
                              have kr31 := (show (m138 175 1).toInt = (m61 175 1).toInt by assumption)
                              have kr32 := (show (m138 175 2).toInt = (m98 175 2).toInt by assumption)
                              have kx32 := kv3.1.2.2.1 2 (by omega)
                              have ky32 := kv3.1.1 2 (by omega)
                              have ky33 := kv3.1.1 3 (by omega)
                              refine pv_aload_n (M := mX3_solve) 0 dX3_solve_122 123 rfl rfl rfl ?_
                              refine mv_get (M := mX3_solve) (v := .ref 175) dX3_solve_123 FX3 5 wd986 (by decide) (tc169 hC) rfl rfl 126 rfl ?_
                              refine pv_iconst (M := mX3_solve) (v := 3) dX3_solve_126 127 rfl (by decide) ?_
                              refine iv_iald (M := mX3_solve) (X := 3) (l1 := (-1)) (l2 := 12) dX3_solve_127 (tc175 hC) (by decide) (by omega) (by omega) I140 (fun _ => rfl) 128 rfl (fun v158 ev158 pv158 qv158 => ?_)
                              have k128 : v158.toInt = (m138 175 3).toInt := congrArg Int32.toInt ev158
                              refine pv_if_lt (M := mX3_solve) (tgt := 152) dX3_solve_128 131 rfl (by decide) (fun c160 => ?_) (fun c160 => ?_)
                              · have c160 := iv_lt (X := v158.toInt) (Y := 0) c160 rfl (by decide)
                                refine pv_aload_n (M := mX3_solve) 0 dX3_solve_152 153 rfl rfl rfl ?_
                                refine mv_get (M := mX3_solve) (v := .ref 175) dX3_solve_153 FX3 5 wd986 (by decide) (tc169 hC) rfl rfl 156 rfl ?_
                                refine pv_iconst (M := mX3_solve) (v := 2) dX3_solve_156 157 rfl (by decide) ?_
                                refine pv_dup2 (M := mX3_solve) dX3_solve_157 158 rfl rfl rfl ?_
                                refine iv_iald (M := mX3_solve) (X := 2) (l1 := (-1)) (l2 := 12) dX3_solve_158 (tc175 hC) (by decide) (by omega) (by omega) I140 (fun _ => rfl) 159 rfl (fun v161 ev161 pv161 qv161 => ?_)
                                have k159 : v161.toInt = (m138 175 2).toInt := congrArg Int32.toInt ev161
                                refine pv_iconst (M := mX3_solve) (v := 1) dX3_solve_159 160 rfl (by decide) ?_
                                refine iv_isub (M := mX3_solve) (X := v161.toInt) (Y := 1) dX3_solve_160 161 rfl rfl (by decide) (by omega) (by omega) (fun v163 ev163 => ?_)
                                refine iv_iast (M := mX3_solve) (X := 2) (l1 := (-1)) (l2 := 12) dX3_solve_161 (tc175 hC) (by decide) (by omega) (by omega) I140 (fun _ => rfl) (by omega) (by omega) 162 rfl (fun m164 e167 I165 => ?_)
                                have K166 := K141.set e167 rfl
                                refine pv_goto (M := mX3_solve) (tgt := 98) dX3_solve_162 (by decide) ?_
                                have k161 := (e167)
                                have kb2 : SV2 m164 pp y137.toInt := SV_out2 kv3 (by omega) hp0 k161 (by omega)
                                have kp2 : (m164 175 2).toInt = (m138 175 2).toInt - 1 := by rw [k161, show ((2 : Int)).toNat = 2 from rfl, up2_eq]; omega
                                have kq20 : (m164 175 0).toInt = (m33 175 0).toInt := by rw [k161, up2_ne (by omega)]; exact kr30
                                have kq21 : (m164 175 1).toInt = (m61 175 1).toInt := by rw [k161, up2_ne (by omega)]; exact kr31
                                exact ih104 y137 m164 n139 kb2 kq20 kq21 I165 K166 (by omega)
                              · have c160 := iv_nlt (X := v158.toInt) (Y := 0) c160 rfl (by decide)
                                have kz := SV3_ix kv3 (by omega)
                                have kz1 := kz.2.1
                                have kz2 := kz.2.2.1
                                have kz3 := kz.2.2.2
                                have z178 := iv_rng y137
                                refine iv_inc (M := mX3_solve) (C := (-1)) dX3_solve_131 134 rfl rfl (by decide) rfl rfl (by decide) (by omega) (by omega) (fun v177 ev177 => ?_)
                                show PV _ _ _ _ _ _ _ 134 [.ref 169, .int v177, .int y2] [] _
                                refine pv_aload_n (M := mX3_solve) 0 dX3_solve_134 135 rfl rfl rfl ?_
                                refine pv_iload_n (M := mX3_solve) 1 dX3_solve_135 136 rfl rfl rfl ?_
                                refine pv_callv (M := mX3_solve) (as := [.int v177]) (st := []) (kc2 := 0) (ks2 := 0) dX3_solve_136 wd1021 YX3_settle ⟨wd1023, wd40⟩ (mk_get (tc169 hC)) rfl rfl (s_X3_settle g hT I140 hC P v177 (by omega) (by omega) hp0 kv3.1.1 kz.1 kv3.1.2.1 (by omega)) rfl rfl (Nat.le_of_ble_eq_true rfl) (by decide) rfl rfl 139 rfl (fun rv h1 q179 => ?_)
                                obtain ⟨m180, n181, rfl, rfl, I182, K183, rm180⟩ := q179
                                have K183c := K183
                                have K183 := K141.trans (K183.sub (wl_sub (by decide)))
                                show PV _ _ _ _ _ _ _ 139 [.ref 169, .int v177, .int y2] [] _
                                have kf : ∀ b j, b ≤ 176 → m180 b j = m138 b j := fun b j h => K183c b j (wr_out (by omega))
                                refine pv_aload_n (M := mX3_solve) 0 dX3_solve_139 140 rfl rfl rfl ?_
                                refine mv_get (M := mX3_solve) (v := .ref 175) dX3_solve_140 FX3 5 wd986 (by decide) (tc169 hC) rfl rfl 143 rfl ?_
                                refine pv_iconst (M := mX3_solve) (v := 3) dX3_solve_143 144 rfl (by decide) ?_
                                refine pv_dup2 (M := mX3_solve) dX3_solve_144 145 rfl rfl rfl ?_
                                refine iv_iald (M := mX3_solve) (X := 3) (l1 := (-1)) (l2 := 12) dX3_solve_145 (tc175 hC) (by decide) (by omega) (by omega) I182 (fun _ => rfl) 146 rfl (fun v185 ev185 pv185 qv185 => ?_)
                                have k146 : v185.toInt = (m138 175 3).toInt := congrArg Int32.toInt (ev185.trans (kf 175 3 (by omega)))
                                refine pv_iconst (M := mX3_solve) (v := 1) dX3_solve_146 147 rfl (by decide) ?_
                                refine iv_isub (M := mX3_solve) (X := v185.toInt) (Y := 1) dX3_solve_147 148 rfl rfl (by decide) (by omega) (by omega) (fun v187 ev187 => ?_)
                                refine iv_iast (M := mX3_solve) (X := 3) (l1 := (-1)) (l2 := 12) dX3_solve_148 (tc175 hC) (by decide) (by omega) (by omega) I182 (fun _ => rfl) (by omega) (by omega) 149 rfl (fun m188 e191 I189 => ?_)
                                have K190 := K183.set e191 rfl
                                refine pv_goto (M := mX3_solve) (tgt := 122) dX3_solve_149 (by decide) ?_
                                have k148 := (e191)
                                have kb3 : SV3 m188 pp v177.toInt := SV3_next kv3 (by omega) hp0 kf k148 (by omega) (by omega)
                                have kp3 : (m188 175 3).toInt = (m138 175 3).toInt - 1 := by rw [k148, show ((3 : Int)).toNat = 3 from rfl, up2_eq]; omega
                                have kq30 : (m188 175 0).toInt = (m33 175 0).toInt := by rw [k148, up2_ne (by omega), kf 175 0 (by omega)]; exact kr30
                                have kq31 : (m188 175 1).toInt = (m61 175 1).toInt := by rw [k148, up2_ne (by omega), kf 175 1 (by omega)]; exact kr31
                                have kq32 : (m188 175 2).toInt = (m98 175 2).toInt := by rw [k148, up2_ne (by omega), kf 175 2 (by omega)]; exact kr32
                                exact ih144 v177 m188 n181 kb3 kq30 kq31 kq32 I189 K190 (by omega)
                          have kV3 : SV3 m133 pp y97.toInt := SV_in2 kv2 (by omega) hp0 e136 kS3
                          exact lp143 ((((m133 175 3).toInt + 1) : Int).toNat + 1) y97 m133 n99 kV3 (by rw [e136, up2_ne (by omega)] <;> assumption) (by rw [e136, up2_ne (by omega)] <;> assumption) (by rw [e136, up2_ne (by omega)] <;> assumption) I134 K135 (by omega)
                    have kV2 : SV2 m93 pp y60.toInt := SV_in1 kv1 (by omega) hp0 e96 kS2
                    exact lp103 ((((m93 175 2).toInt + 1) : Int).toNat + 1) y60 m93 n62 kV2 (by rw [e96, up2_ne (by omega)] <;> assumption) (by rw [e96, up2_ne (by omega)] <;> assumption) I94 K95 (by omega)
              have kV1 : SV1 m56 pp y32.toInt := SV_in0 kv0 (by omega) hp0 e59 kS1
              exact lp66 ((((m56 175 1).toInt + 1) : Int).toNat + 1) y32 m56 n34 kV1 (by rw [e59, up2_ne (by omega)] <;> assumption) I57 K58 (by omega)
        have kV0 : SV0 m28 pp y1.toInt := SV_start kT kP k4 hp0 e31 kS0
        exact lp38 ((((m28 175 0).toInt + 1) : Int).toNat + 1) y1 m28 n4 kV0 I29 K30 (by omega)
      · have c19 := iv_nlt (X := y2.toInt) (Y := 0) c19 rfl (by decide)
        refine pv_aload_n (M := mX3_solve) 0 dX3_solve_8 9 rfl rfl rfl ?_
        refine mv_get (M := mX3_solve) (v := .ref 176) dX3_solve_9 FX3 6 wd987 (by decide) (tc169 hC) rfl rfl 12 rfl ?_
        refine pv_iload_n (M := mX3_solve) 2 dX3_solve_12 13 rfl rfl rfl ?_
        refine pv_iload_n (M := mX3_solve) 1 dX3_solve_13 14 rfl rfl rfl ?_
        refine iv_iast (M := mX3_solve) (X := y2.toInt) (l1 := 0) (l2 := 28561) dX3_solve_14 (tc176 hC) rfl (by omega) (by omega) I5 (fun _ => rfl) (by omega) (by omega) 15 rfl (fun m202 e205 I203 => ?_)
        have K204 := K6.set e205 rfl
        have k15 := (e205)
        refine pv_iload_n (M := mX3_solve) 1 dX3_solve_15 16 rfl rfl rfl ?_
        refine pv_aload_n (M := mX3_solve) 0 dX3_solve_16 17 rfl rfl rfl ?_
        refine mv_get (M := mX3_solve) (v := .ref 172) dX3_solve_17 FX3 2 wd983 (by decide) (tc169 hC) rfl rfl 20 rfl ?_
        refine pv_iload_n (M := mX3_solve) 2 dX3_solve_20 21 rfl rfl rfl ?_
        refine iv_qpart (M := mX3_solve) (X := y2.toInt) dX3_solve_21 hC P rfl (by omega) (by omega) 22 rfl (fun b207 rb207 eb207 fb207 hb207 => ?_)
        have zb207 := hb207.2.2.2.2
        refine iv_get (M := mX3_solve) (l1 := 0) (l2 := (rb207 : Int)) dX3_solve_22 FX8 1 wd197 (by decide) hb207.1 rfl I203 hb207.2.2.1 25 rfl (fun v208 ev208 pv208 qv208 => ?_)
        have k25d := hp0 y2.toInt.toNat (by omega)
        have k25 : v208.toInt = szp m pp y2.toInt.toNat := (congrArg Int32.toInt (ev208.trans (K204 _ _ (wo_s (by omega))))).trans (congrArg (fun z => (m z 1).toInt) (by assumption))
        have k25s := hp1 y2.toInt.toNat (by omega)
        refine pv_iconst (M := mX3_solve) (v := 1) dX3_solve_25 26 rfl (by decide) ?_
        refine iv_iadd (M := mX3_solve) (X := v208.toInt) (Y := 1) dX3_solve_26 27 rfl rfl (by decide) (by omega) (by omega) (fun v212 ev212 => ?_)
        have k27 := cA_step (y := v212.toInt) hp1 (by omega) (by omega) kgA (by omega)
        have k27a := k27.2.1
        have k27b := k27.2.2
        refine iv_imul (M := mX3_solve) (X := y1.toInt) (Y := v212.toInt) dX3_solve_27 28 rfl rfl rfl (by omega) (by omega) (fun v216 ev216 => ?_)
        refine pv_istore_n (M := mX3_solve) 1 (lo2 := [.ref 169, .int v216, .int y2]) dX3_solve_28 29 rfl rfl (by decide) rfl rfl ?_
        refine iv_inc (M := mX3_solve) (C := (-1)) dX3_solve_29 32 rfl rfl (by decide) rfl rfl (by decide) (by omega) (by omega) (fun v217 ev217 => ?_)
        show PV _ _ _ _ _ _ _ 32 [.ref 169, .int v216, .int v217] [] _
        refine pv_goto (M := mX3_solve) (tgt := 4) dX3_solve_32 (by decide) ?_
        have kbA : v216.toInt = cA (szp m pp) (3 - v217.toInt).toNat := by rw [show v217.toInt = y2.toInt - 1 by omega]; exact ev216.trans k27.1
        have kbB : ∀ d : Nat, d < 4 → v217.toInt < (d : Int) → (m202 176 d).toInt = cA (szp m pp) (3 - d) := fun d h a => if z : (d : Int) = y2.toInt then by rw [k15, show d = (y2.toInt).toNat by omega, up2_eq, show 3 - (y2.toInt).toNat = (3 - y2.toInt).toNat by omega]; exact kgA else by rw [k15, up2_ne (by omega)]; exact kgB d h (by omega)
        exact ih9 v216 v217 m202 n4 (by first | omega | assumption | exact (iv_rng _).2 | exact (iv_rng _).1 | decide) (by first | omega | assumption | exact (iv_rng _).2 | exact (iv_rng _).1 | decide) (by first | omega | assumption | exact (iv_rng _).2 | exact (iv_rng _).1 | decide) (by first | omega | assumption | exact (iv_rng _).2 | exact (iv_rng _).1 | decide) kbA kbB I203 K204 (by omega)
  have z220 : (1 : Int32).toInt = 1 := by decide
  have z221 : (3 : Int32).toInt = 3 := by decide
  exact lp8 (((3 - (-1)) : Int).toNat + 1) 1 3 m n (by first | omega | assumption | exact (iv_rng _).2 | exact (iv_rng _).1 | decide) (by first | omega | assumption | exact (iv_rng _).2 | exact (iv_rng _).1 | decide) (by first | omega | assumption | exact (iv_rng _).2 | exact (iv_rng _).1 | decide) (by first | omega | assumption | exact (iv_rng _).2 | exact (iv_rng _).1 | decide) (by rw [show ((3 : Int32)).toInt = 3 by decide]; rfl) (fun d h a => by rw [show ((3 : Int32)).toInt = 3 by decide] at a; omega) I Kp (by omega)
