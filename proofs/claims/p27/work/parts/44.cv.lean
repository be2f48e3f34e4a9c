set_option maxHeartbeats 2000000 in
set_option maxRecDepth 20000 in
theorem s_X3_howMany (g : pv_G) {T : List mv_T} {m : Nat → Nat → Int32} {n : Nat → Nat → Int64} {r : Nat → Value} (hT : TX T) (I : IV BB m) (hC : TC T) {pp qq : Nat → Nat} (P : PX T r pp qq) : PM g mX3_howMany yX3_howMany (sqPJ (mk T m n r)) 1 0 0 [.ref 169] (mk T m n r) := by
  have Kp : fr (wl []) m m := fr.rf
  refine PM.of 0 (lo := [.ref 169]) rfl (by decide) rfl rfl (Nat.le_of_ble_eq_true rfl) ?_
  refine pv_aload_n (M := mX3_howMany) 0 dX3_howMany_0 1 rfl rfl rfl ?_
  refine mv_get (M := mX3_howMany) (v := .ref 179) dX3_howMany_1 FX3 9 wd990 (by decide) (tc169 hC) rfl rfl 4 rfl ?_
  refine pv_iconst (M := mX3_howMany) (v := 0) dX3_howMany_4 5 rfl (by decide) ?_
  refine iv_lald (M := mX3_howMany) (X := 0) dX3_howMany_5 (tc179 hC) (by decide) (by omega) (by omega) 6 rfl (fun v1 ev1 => ?_)
  exact pv_lret (M := mX3_howMany) dX3_howMany_6 rfl ⟨_, rfl, rfl⟩

set_option maxHeartbeats 2000000 in
set_option maxRecDepth 20000 in
theorem s_X3_lookAhead (g : pv_G) {T : List mv_T} {m : Nat → Nat → Int32} {n : Nat → Nat → Int64} {r : Nat → Value} (hT : TX T) (I : IV BB m) (hC : TC T) {pp qq : Nat → Nat} (P : PX T r pp qq) (hp0 : Dj pp) (hp1 : ATx m pp) : PM g mX3_lookAhead yX3_lookAhead (sqV T BB (wl [(177, 177, none)]) r m (fun m' => ∀ d, d < 4 → (m' 177 d).toInt = lap m pp d)) 1 0 0 [.ref 169] (mk T m n r) := by
  have Kp : fr (wl [(177, 177, none)]) m m := fr.rf
  refine PM.of 1 (lo := [.ref 169, pv_U]) rfl (by decide) rfl rfl (Nat.le_of_ble_eq_true rfl) ?_
  refine pv_iconst (M := mX3_lookAhead) (v := 0) dX3_lookAhead_0 1 rfl (by decide) ?_
  refine pv_istore_n (M := mX3_lookAhead) 1 (lo2 := [.ref 169, .int 0]) dX3_lookAhead_1 2 rfl rfl (by decide) rfl rfl ?_
  have lp7 : ∀ (fuel6 : Nat) (y1 : Int32) (m2 : Nat → Nat → Int32) (n3 : Nat → Nat → Int64), (0 ≤ y1.toInt) → (y1.toInt ≤ 4) → (∀ d : Nat, (d : Int) < y1.toInt → (m2 177 d).toInt = lap m pp d) → IV BB m2 → fr (wl [(177, 177, none)]) m m2 → ((4 - y1.toInt) : Int).toNat < fuel6 → PV none g mX3_lookAhead (sqV T BB (wl [(177, 177, none)]) r m (fun m' => ∀ d, d < 4 → (m' 177 d).toInt = lap m pp d)) 1 0 0 2 [.ref 169, .int y1] [] (mk T m2 n3 r) := by
    intro fuel6
    induction fuel6 with
    | zero => intro y1 m2 n3 b9 b10 b11 I4 K5 z12; omega
    | succ fuel6 ih8 =>
      intro y1 m2 n3 b9 b10 b11 I4 K5 z12
      have kg := (show ∀ d : Nat, (d : Int) < y1.toInt → (m2 177 d).toInt = lap m pp d by assumption)
      have kF : ∀ b j, b ≤ 176 → m2 b j = m b j := fun b j h => K5 b j (wr_out (by omega))
      refine pv_iload_n (M := mX3_lookAhead) 1 dX3_lookAhead_2 3 rfl rfl rfl ?_
      refine pv_iconst (M := mX3_lookAhead) (v := 4) dX3_lookAhead_3 4 rfl (by decide) ?_
      refine pv_icmp_ge (M := mX3_lookAhead) (tgt := 57) dX3_lookAhead_4 7 rfl (by decide) (fun c15 => ?_) (fun c15 => ?_)
      · have c15 := iv_le (X := 4) (Y := y1.toInt) c15 (by decide) rfl
        exact pv_vret (M := mX3_lookAhead) dX3_lookAhead_57 rfl ⟨_, _, rfl, rfl, I4, K5, (fun d hd => kg d (by omega))⟩
      · have c15 := iv_nle (X := 4) (Y := y1.toInt) c15 (by decide) rfl
        have kd := hp0 y1.toInt.toNat (by omega)
        have ka := hp1 y1.toInt.toNat (by omega)
        refine pv_aload_n (M := mX3_lookAhead) 0 dX3_lookAhead_7 8 rfl rfl rfl ?_
        refine mv_get (M := mX3_lookAhead) (v := .ref 177) dX3_lookAhead_8 FX3 7 wd988 (by decide) (tc169 hC) rfl rfl 11 rfl ?_
        refine pv_iload_n (M := mX3_lookAhead) 1 dX3_lookAhead_11 12 rfl rfl rfl ?_
        refine pv_aload_n (M := mX3_lookAhead) 0 dX3_lookAhead_12 13 rfl rfl rfl ?_
        refine mv_get (M := mX3_lookAhead) (v := .ref 175) dX3_lookAhead_13 FX3 5 wd986 (by decide) (tc169 hC) rfl rfl 16 rfl ?_
        refine pv_iload_n (M := mX3_lookAhead) 1 dX3_lookAhead_16 17 rfl rfl rfl ?_
        refine iv_iald (M := mX3_lookAhead) (X := y1.toInt) (l1 := (-1)) (l2 := 12) dX3_lookAhead_17 (tc175 hC) rfl (by omega) (by omega) I4 (fun _ => rfl) 18 rfl (fun v18 ev18 pv18 qv18 => ?_)
        have k18 : v18.toInt = atp m y1.toInt.toNat := congrArg Int32.toInt (ev18.trans (kF _ _ (by omega)))
        refine pv_aload_n (M := mX3_lookAhead) 0 dX3_lookAhead_18 19 rfl rfl rfl ?_
        refine mv_get (M := mX3_lookAhead) (v := .ref 172) dX3_lookAhead_19 FX3 2 wd983 (by decide) (tc169 hC) rfl rfl 22 rfl ?_
        refine pv_iload_n (M := mX3_lookAhead) 1 dX3_lookAhead_22 23 rfl rfl rfl ?_
        refine iv_qpart (M := mX3_lookAhead) (X := y1.toInt) dX3_lookAhead_23 hC P rfl (by omega) (by omega) 24 rfl (fun b20 rb20 eb20 fb20 hb20 => ?_)
        have zb20 := hb20.2.2.2.2
        refine iv_get (M := mX3_lookAhead) (l1 := 0) (l2 := (rb20 : Int)) dX3_lookAhead_24 FX8 1 wd197 (by decide) hb20.1 rfl I4 hb20.2.2.1 27 rfl (fun v21 ev21 pv21 qv21 => ?_)
        have k27 : v21.toInt = szp m pp y1.toInt.toNat := (congrArg Int32.toInt (ev21.trans (kF _ _ (by omega)))).trans (congrArg (fun z => (m z 1).toInt) (by assumption))
        refine pv_icmp_ge (M := mX3_lookAhead) (tgt := 49) dX3_lookAhead_27 30 rfl (by decide) (fun c23 => ?_) (fun c23 => ?_)
        · have c23 := iv_le (X := v21.toInt) (Y := v18.toInt) c23 rfl rfl
          refine pv_iconst (M := mX3_lookAhead) (v := (-1)) dX3_lookAhead_49 50 rfl (by decide) ?_
          have k50 : (-1) = lap m pp y1.toInt.toNat := by unfold lap; first | exact k46.trans (if_pos (by omega)).symm | exact (if_neg (by omega)).symm
          refine iv_iast (M := mX3_lookAhead) (X := y1.toInt) (l1 := (-2147483648)) (l2 := 2147483647) dX3_lookAhead_50 (tc177 hC) rfl (by omega) (by omega) I4 (fun _ => rfl) (by decide) (by decide) 51 rfl (fun m25 e28 I26 => ?_)
          have K27 := K5.set e28 (wl_r (by omega) (by omega))
          have k51 := (e28).trans (up2_ix (j := y1.toInt.toNat) (by omega))
          refine iv_inc (M := mX3_lookAhead) (C := 1) dX3_lookAhead_51 54 rfl rfl (by decide) rfl rfl (by decide) (by omega) (by omega) (fun v30 ev30 => ?_)
          show PV _ _ _ _ _ _ _ 54 [.ref 169, .int v30] [] _
          refine pv_goto (M := mX3_lookAhead) (tgt := 2) dX3_lookAhead_54 (by decide) ?_
          have kb : ∀ d : Nat, (d : Int) < v30.toInt → (m25 177 d).toInt = lap m pp d := fun d a => if z : (d : Int) = y1.toInt then by rw [k51, show d = (y1.toInt).toNat by omega, up2_eq]; first | exact k50 | (rw [show ((-1 : Int32)).toInt = -1 by decide]; exact k50) else by rw [k51, up2_ne (by omega)]; exact kg d (by omega)
          exact ih8 v30 m25 n3 (by first | omega | assumption | exact (iv_rng _).2 | exact (iv_rng _).1 | decide) (by first | omega | assumption | exact (iv_rng _).2 | exact (iv_rng _).1 | decide) kb I26 K27 (by omega)
        · have c23 := iv_nle (X := v21.toInt) (Y := v18.toInt) c23 rfl rfl
          refine pv_aload_n (M := mX3_lookAhead) 0 dX3_lookAhead_30 31 rfl rfl rfl ?_
          refine mv_get (M := mX3_lookAhead) (v := .ref 172) dX3_lookAhead_31 FX3 2 wd983 (by decide) (tc169 hC) rfl rfl 34 rfl ?_
          refine pv_iload_n (M := mX3_lookAhead) 1 dX3_lookAhead_34 35 rfl rfl rfl ?_
          refine iv_qpart (M := mX3_lookAhead) (X := y1.toInt) dX3_lookAhead_35 hC P rfl (by omega) (by omega) 36 rfl (fun b32 rb32 eb32 fb32 hb32 => ?_)
          have zb32 := hb32.2.2.2.2
          refine mv_get (M := mX3_lookAhead) (v := .ref (b32 + 1)) dX3_lookAhead_36 FX8 0 wd192 (by decide) hb32.1 rfl rfl 39 rfl ?_
          refine pv_aload_n (M := mX3_lookAhead) 0 dX3_lookAhead_39 40 rfl rfl rfl ?_
          refine mv_get (M := mX3_lookAhead) (v := .ref 175) dX3_lookAhead_40 FX3 5 wd986 (by decide) (tc169 hC) rfl rfl 43 rfl ?_
          refine pv_iload_n (M := mX3_lookAhead) 1 dX3_lookAhead_43 44 rfl rfl rfl ?_
          refine iv_iald (M := mX3_lookAhead) (X := y1.toInt) (l1 := (-1)) (l2 := 12) dX3_lookAhead_44 (tc175 hC) rfl (by omega) (by omega) I4 (fun _ => rfl) 45 rfl (fun v33 ev33 pv33 qv33 => ?_)
          have k45 : v33.toInt = atp m y1.toInt.toNat := congrArg Int32.toInt (ev33.trans (kF _ _ (by omega)))
          refine iv_iald (M := mX3_lookAhead) (X := v33.toInt) (l1 := (-2147483648)) (l2 := 2147483647) dX3_lookAhead_45 hb32.2.1 rfl (by omega) (by omega) I4 hb32.2.2.2.1 46 rfl (fun v35 ev35 pv35 qv35 => ?_)
          have k46 : v35.toInt = (m (pp y1.toInt.toNat + 1) (atp m y1.toInt.toNat).toNat).toInt := (congrArg Int32.toInt (ev35.trans (kF _ _ (by omega)))).trans (by rw [k45]; exact congrArg (fun z => (m (z + 1) _).toInt) (by assumption))
          refine pv_goto (M := mX3_lookAhead) (tgt := 50) dX3_lookAhead_46 (by decide) ?_
          have k50 : v35.toInt = lap m pp y1.toInt.toNat := by unfold lap; first | exact k46.trans (if_pos (by omega)).symm | exact (if_neg (by omega)).symm
          refine iv_iast (M := mX3_lookAhead) (X := y1.toInt) (l1 := (-2147483648)) (l2 := 2147483647) dX3_lookAhead_50 (tc177 hC) rfl (by omega) (by omega) I4 (fun _ => rfl) (iv_rng v35).1 (iv_rng v35).2 51 rfl (fun m38 e41 I39 => ?_)
          have K40 := K5.set e41 (wl_r (by omega) (by omega))
          have k51 := (e41).trans (up2_ix (j := y1.toInt.toNat) (by omega))
          refine iv_inc (M := mX3_lookAhead) (C := 1) dX3_lookAhead_51 54 rfl rfl (by decide) rfl rfl (by decide) (by omega) (by omega) (fun v43 ev43 => ?_)
          show PV _ _ _ _ _ _ _ 54 [.ref 169, .int v43] [] _
          refine pv_goto (M := mX3_lookAhead) (tgt := 2) dX3_lookAhead_54 (by decide) ?_
          have kb : ∀ d : Nat, (d : Int) < v43.toInt → (m38 177 d).toInt = lap m pp d := fun d a => if z : (d : Int) = y1.toInt then by rw [k51, show d = (y1.toInt).toNat by omega, up2_eq]; first | exact k50 | (rw [show ((-1 : Int32)).toInt = -1 by decide]; exact k50) else by rw [k51, up2_ne (by omega)]; exact kg d (by omega)
          exact ih8 v43 m38 n3 (by first | omega | assumption | exact (iv_rng _).2 | exact (iv_rng _).1 | decide) (by first | omega | assumption | exact (iv_rng _).2 | exact (iv_rng _).1 | decide) kb I39 K40 (by omega)
  have z45 : (0 : Int32).toInt = 0 := by decide
  exact lp7 (((4 - 0) : Int).toNat + 1) 0 m n (by first | omega | assumption | exact (iv_rng _).2 | exact (iv_rng _).1 | decide) (by first | omega | assumption | exact (iv_rng _).2 | exact (iv_rng _).1 | decide) (fun d a => by rw [Int32.toInt_zero] at a; omega) I Kp (by omega)

set_option maxHeartbeats 2000000 in
set_option maxRecDepth 20000 in
theorem s_X3_takeLetter (g : pv_G) {T : List mv_T} {m : Nat → Nat → Int32} {n : Nat → Nat → Int64} {r : Nat → Value} (hT : TX T) (I : IV BB m) (hC : TC T) {pp qq : Nat → Nat} (P : PX T r pp qq) (x0 : Int32) (hl0 : 0 ≤ x0.toInt) (hh0 : x0.toInt ≤ 3) (hp0 : Dj pp) (hp1 : S12 (szp m pp)) (hp2 : ATx m pp) (hp3 : APx m pp) (hp4 : AHx m pp) (hp5 : (m 177 x0.toInt.toNat).toInt ≠ -1) : PM g mX3_takeLetter yX3_takeLetter (sqI T BB (wl [(177, 177, none)]) r m 0 28560 (fun m' v => v.toInt ≤ wn (szp m pp) (hw m pp (m 177 x0.toInt.toNat).toInt) 4 ∧ AHx m' pp)) 1 0 0 [.ref 169, .int x0] (mk T m n r) := by
  have Kp : fr (wl [(177, 177, none)]) m m := fr.rf
  refine PM.of 3 (lo := [.ref 169, .int x0, pv_U, pv_U, pv_U]) rfl (by decide) rfl rfl (Nat.le_of_ble_eq_true rfl) ?_
  have kT : wn (szp m pp) (hw m pp (m 177 x0.toInt.toNat).toInt) 4 ≤ 28560 := by have a := hw_le hp1 hp2 (l := (m 177 x0.toInt.toNat).toInt) hp5; have b := ix4_0 hp1 (fun d hd => (hp2 d hd).1); omega
  refine pv_aload_n (M := mX3_takeLetter) 0 dX3_takeLetter_0 1 rfl rfl rfl ?_
  refine mv_get (M := mX3_takeLetter) (v := .ref 177) dX3_takeLetter_1 FX3 7 wd988 (by decide) (tc169 hC) rfl rfl 4 rfl ?_
  refine pv_iload_n (M := mX3_takeLetter) 1 dX3_takeLetter_4 5 rfl rfl rfl ?_
  refine iv_iald (M := mX3_takeLetter) (X := x0.toInt) (l1 := (-2147483648)) (l2 := 2147483647) dX3_takeLetter_5 (tc177 hC) rfl (by omega) (by omega) I (fun _ => rfl) 6 rfl (fun v2 ev2 pv2 qv2 => ?_)
  have k6 : v2.toInt = (m 177 x0.toInt.toNat).toInt := congrArg Int32.toInt ev2
  refine pv_istore_n (M := mX3_takeLetter) 2 (lo2 := [.ref 169, .int x0, .int v2, pv_U, pv_U]) dX3_takeLetter_6 7 rfl rfl (by decide) rfl rfl ?_
  refine pv_iconst (M := mX3_takeLetter) (v := 0) dX3_takeLetter_7 8 rfl (by decide) ?_
  refine pv_istore_n (M := mX3_takeLetter) 3 (lo2 := [.ref 169, .int x0, .int v2, .int 0, pv_U]) dX3_takeLetter_8 9 rfl rfl (by decide) rfl rfl ?_
  refine pv_iload_n (M := mX3_takeLetter) 1 dX3_takeLetter_9 10 rfl rfl rfl ?_
  refine pv_istore (M := mX3_takeLetter) (lo2 := [.ref 169, .int x0, .int v2, .int 0, .int x0]) dX3_takeLetter_10 12 rfl (by decide) rfl rfl ?_
  have lp11 : ∀ (fuel10 : Nat) (y4 : Int32) (y5 : Int32) (m6 : Nat → Nat → Int32) (n7 : Nat → Nat → Int64), (0 ≤ y4.toInt) → (y4.toInt ≤ 28560) → (0 ≤ y5.toInt) → (y5.toInt ≤ 4) → (y4.toInt ≤ wn (szp m pp) (hw m pp (m 177 x0.toInt.toNat).toInt) y5.toInt.toNat) → (AHx m6 pp) → IV BB m6 → fr (wl [(177, 177, none)]) m m6 → ((4 - y5.toInt) : Int).toNat < fuel10 → PV none g mX3_takeLetter (sqI T BB (wl [(177, 177, none)]) r m 0 28560 (fun m' v => v.toInt ≤ wn (szp m pp) (hw m pp (m 177 x0.toInt.toNat).toInt) 4 ∧ AHx m' pp)) 1 0 0 12 [.ref 169, .int x0, .int v2, .int y4, .int y5] [] (mk T m6 n7 r) := by
    intro fuel10
    induction fuel10 with
    | zero => intro y4 y5 m6 n7 b13 b14 b15 b16 b17 b18 I8 K9 z19; omega
    | succ fuel10 ih12 =>
      intro y4 y5 m6 n7 b13 b14 b15 b16 b17 b18 I8 K9 z19
      have kg1 := (show y4.toInt ≤ wn (szp m pp) (hw m pp (m 177 x0.toInt.toNat).toInt) y5.toInt.toNat by assumption)
      have kg2 := (show AHx m6 pp by assumption)
      have kL : ∀ d, d < 4 → lap m6 pp d = lap m pp d := lap_eq (fun b hb => funext fun j => K9 b j (wr_out (by omega))) hp0
      refine pv_iload (M := mX3_takeLetter) dX3_takeLetter_12 14 rfl rfl ?_
      refine pv_iconst (M := mX3_takeLetter) (v := 4) dX3_takeLetter_14 15 rfl (by decide) ?_
      refine pv_icmp_ge (M := mX3_takeLetter) (tgt := 53) dX3_takeLetter_15 18 rfl (by decide) (fun c23 => ?_) (fun c23 => ?_)
      · have c23 := iv_le (X := 4) (Y := y5.toInt) c23 (by decide) rfl
        refine pv_iload_n (M := mX3_takeLetter) 3 dX3_takeLetter_53 54 rfl rfl rfl ?_
        exact pv_iret (M := mX3_takeLetter) dX3_takeLetter_54 rfl rfl ⟨_, _, _, rfl, rfl, I8, K9, by omega, by omega, ⟨by have q := kg1; rw [show y5.toInt.toNat = 4 by omega] at q; exact q, kg2⟩⟩
      · have c23 := iv_nle (X := 4) (Y := y5.toInt) c23 (by decide) rfl
        refine pv_aload_n (M := mX3_takeLetter) 0 dX3_takeLetter_18 19 rfl rfl rfl ?_
        refine mv_get (M := mX3_takeLetter) (v := .ref 177) dX3_takeLetter_19 FX3 7 wd988 (by decide) (tc169 hC) rfl rfl 22 rfl ?_
        refine pv_iload (M := mX3_takeLetter) dX3_takeLetter_22 24 rfl rfl ?_
        refine iv_iald (M := mX3_takeLetter) (X := y5.toInt) (l1 := (-2147483648)) (l2 := 2147483647) dX3_takeLetter_24 (tc177 hC) rfl (by omega) (by omega) I8 (fun _ => rfl) 25 rfl (fun v24 ev24 pv24 qv24 => ?_)
        have k25 : v24.toInt = (m6 177 y5.toInt.toNat).toInt := congrArg Int32.toInt ev24
        refine pv_iload_n (M := mX3_takeLetter) 2 dX3_takeLetter_25 26 rfl rfl rfl ?_
        refine pv_icmp_ne (M := mX3_takeLetter) (tgt := 47) dX3_takeLetter_26 29 rfl (by decide) (fun c26 => ?_) (fun c26 => ?_)
        · have c26 := iv_ne (X := v24.toInt) (Y := v2.toInt) c26 rfl rfl
          try have k47 := AHx_set kg2 hp0 noE (by decide)
          refine iv_inc (M := mX3_takeLetter) (C := 1) dX3_takeLetter_47 50 rfl rfl (by decide) rfl rfl (by decide) (by omega) (by omega) (fun v28 ev28 => ?_)
          show PV _ _ _ _ _ _ _ 50 [.ref 169, .int x0, .int v2, .int y4, .int v28] [] _
          refine pv_goto (M := mX3_takeLetter) (tgt := 12) dX3_takeLetter_50 (by decide) ?_
          have ku : v28.toInt = y5.toInt + 1 := by omega
          have kb1 : y4.toInt ≤ wn (szp m pp) (hw m pp (m 177 x0.toInt.toNat).toInt) v28.toInt.toNat := by rw [ku]; first | exact k38 | exact wn_miss hp1 (by omega) (by omega) rfl kg1
          have kb2 : AHx m6 pp := by first | exact kg2 | exact k47
          exact ih12 y4 v28 m6 n7 (by first | omega | assumption | exact (iv_rng _).2 | exact (iv_rng _).1 | decide) (by first | omega | assumption | exact (iv_rng _).2 | exact (iv_rng _).1 | decide) (by first | omega | assumption | exact (iv_rng _).2 | exact (iv_rng _).1 | decide) (by first | omega | assumption | exact (iv_rng _).2 | exact (iv_rng _).1 | decide) kb1 kb2 I8 K9 (by omega)
        · have c26 := iv_eq (X := v24.toInt) (Y := v2.toInt) c26 rfl rfl
          have kh : lap m pp y5.toInt.toNat = (m 177 x0.toInt.toNat).toInt := by have q := kg2 y5.toInt.toNat (by omega); rw [kL _ (by omega)] at q; omega
          refine pv_iload_n (M := mX3_takeLetter) 3 dX3_takeLetter_29 30 rfl rfl rfl ?_
          refine pv_aload_n (M := mX3_takeLetter) 0 dX3_takeLetter_30 31 rfl rfl rfl ?_
          refine mv_get (M := mX3_takeLetter) (v := .ref 176) dX3_takeLetter_31 FX3 6 wd987 (by decide) (tc169 hC) rfl rfl 34 rfl ?_
          refine pv_iload (M := mX3_takeLetter) dX3_takeLetter_34 36 rfl rfl ?_
          refine iv_iald (M := mX3_takeLetter) (X := y5.toInt) (l1 := 0) (l2 := 28561) dX3_takeLetter_36 (tc176 hC) rfl (by omega) (by omega) I8 (fun _ => rfl) 37 rfl (fun v33 ev33 pv33 qv33 => ?_)
          have k37 : v33.toInt = (m 176 y5.toInt.toNat).toInt := congrArg Int32.toInt (ev33.trans (K9 176 _ (wr_out (by omega))))
          refine iv_iadd (M := mX3_takeLetter) (X := y4.toInt) (Y := v33.toInt) dX3_takeLetter_37 38 rfl rfl rfl (by omega) (by omega) (fun v35 ev35 => ?_)
          have k38 : v35.toInt ≤ wn (szp m pp) (hw m pp (m 177 x0.toInt.toNat).toInt) (y5.toInt + 1).toNat := wn_hit hp3 (by omega) (by omega) rfl kh kg1 (by omega)
          have k38b := wn_up hp1 (fun d => (hw_b m pp (m 177 x0.toInt.toNat).toInt d).1) 4 (y5.toInt + 1).toNat (by omega) (by omega)
          refine pv_istore_n (M := mX3_takeLetter) 3 (lo2 := [.ref 169, .int x0, .int v2, .int v35, .int y5]) dX3_takeLetter_38 39 rfl rfl (by decide) rfl rfl ?_
          refine pv_aload_n (M := mX3_takeLetter) 0 dX3_takeLetter_39 40 rfl rfl rfl ?_
          refine mv_get (M := mX3_takeLetter) (v := .ref 177) dX3_takeLetter_40 FX3 7 wd988 (by decide) (tc169 hC) rfl rfl 43 rfl ?_
          refine pv_iload (M := mX3_takeLetter) dX3_takeLetter_43 45 rfl rfl ?_
          refine pv_iconst (M := mX3_takeLetter) (v := (-1)) dX3_takeLetter_45 46 rfl (by decide) ?_
          refine iv_iast (M := mX3_takeLetter) (X := y5.toInt) (l1 := (-2147483648)) (l2 := 2147483647) dX3_takeLetter_46 (tc177 hC) rfl (by omega) (by omega) I8 (fun _ => rfl) (by decide) (by decide) 47 rfl (fun m38 e41 I39 => ?_)
          have K40 := K9.set e41 (wl_r (by omega) (by omega))
          try have k47 := AHx_set kg2 hp0 e41 (by decide)
          refine iv_inc (M := mX3_takeLetter) (C := 1) dX3_takeLetter_47 50 rfl rfl (by decide) rfl rfl (by decide) (by omega) (by omega) (fun v43 ev43 => ?_)
          show PV _ _ _ _ _ _ _ 50 [.ref 169, .int x0, .int v2, .int v35, .int v43] [] _
          refine pv_goto (M := mX3_takeLetter) (tgt := 12) dX3_takeLetter_50 (by decide) ?_
          have ku : v43.toInt = y5.toInt + 1 := by omega
          have kb1 : v35.toInt ≤ wn (szp m pp) (hw m pp (m 177 x0.toInt.toNat).toInt) v43.toInt.toNat := by rw [ku]; first | exact k38 | exact wn_miss hp1 (by omega) (by omega) rfl kg1
          have kb2 : AHx m38 pp := by first | exact kg2 | exact k47
          exact ih12 v35 v43 m38 n7 (by first | omega | assumption | exact (iv_rng _).2 | exact (iv_rng _).1 | decide) (by first | omega | assumption | exact (iv_rng _).2 | exact (iv_rng _).1 | decide) (by first | omega | assumption | exact (iv_rng _).2 | exact (iv_rng _).1 | decide) (by first | omega | assumption | exact (iv_rng _).2 | exact (iv_rng _).1 | decide) kb1 kb2 I39 K40 (by omega)
  have z47 : (0 : Int32).toInt = 0 := by decide
  exact lp11 (((4 - x0.toInt) : Int).toNat + 1) 0 x0 m n (by first | omega | assumption | exact (iv_rng _).2 | exact (iv_rng _).1 | decide) (by first | omega | assumption | exact (iv_rng _).2 | exact (iv_rng _).1 | decide) (by first | omega | assumption | exact (iv_rng _).2 | exact (iv_rng _).1 | decide) (by first | omega | assumption | exact (iv_rng _).2 | exact (iv_rng _).1 | decide) (by rw [Int32.toInt_zero]; exact wn_b hp1 (fun d => (hw_b _ _ _ d).1) _ (by omega)) hp4 I Kp (by omega)

set_option maxHeartbeats 2000000 in
set_option maxRecDepth 20000 in
theorem s_X3_settle (g : pv_G) {T : List mv_T} {m : Nat → Nat → Int32} {n : Nat → Nat → Int64} {r : Nat → Value} (hT : TX T) (I : IV BB m) (hC : TC T) {pp qq : Nat → Nat} (P : PX T r pp qq) (x0 : Int32) (hl0 : 0 ≤ x0.toInt) (hh0 : x0.toInt ≤ 28560) (hp0 : Dj pp) (hp1 : S12 (szp m pp)) (hp2 : ATx m pp) (hp3 : APx m pp) (hp4 : x0.toInt ≤ ix4 (szp m pp) (atp m)) : PM g mX3_settle yX3_settle (sqV T BB (wl [(177, 178, none)]) r m (fun m' => True)) 2 0 0 [.ref 169, .int x0] (mk T m n r) := by
  have Kp : fr (wl [(177, 178, none)]) m m := fr.rf
  refine PM.of 5 (lo := [.ref 169, .int x0, pv_U, pv_U, pv_U, pv_U, pv_U]) rfl (by decide) rfl rfl (Nat.le_of_ble_eq_true rfl) ?_
  refine pv_aload_n (M := mX3_settle) 0 dX3_settle_0 1 rfl rfl rfl ?_
  refine pv_callv (M := mX3_settle) (as := []) (st := []) (kc2 := 0) (ks2 := 0) dX3_settle_1 wd1025 YX3_lookAhead ⟨wd1027, wd41⟩ (mk_get (tc169 hC)) rfl rfl (s_X3_lookAhead g hT I hC P hp0 hp2) rfl rfl (Nat.le_of_ble_eq_true rfl) (by decide) rfl rfl 4 rfl (fun rv h1 q1 => ?_)
  obtain ⟨m2, n3, rfl, rfl, I4, K5, rm2⟩ := q1
  replace rm2 : ∀ d, d < 4 → (m2 177 d).toInt = lap m pp d := rm2
  have K5c := K5
  have K5 := Kp.trans (K5.sub (wr_wr (by omega) (by omega)))
  show PV _ _ _ _ _ _ _ 4 [.ref 169, .int x0, pv_U, pv_U, pv_U, pv_U, pv_U] [] _
  have kA0 : AHx m2 pp := fun d hd => Or.inl ((rm2 d hd).trans (lap_eq (fun b hb => funext fun j => (K5 b j (wr_out (by omega)))) hp0 d hd).symm)
  refine pv_iconst (M := mX3_settle) (v := (-1)) dX3_settle_4 5 rfl (by decide) ?_
  refine pv_istore_n (M := mX3_settle) 2 (lo2 := [.ref 169, .int x0, .int (-1), pv_U, pv_U, pv_U, pv_U]) dX3_settle_5 6 rfl rfl (by decide) rfl rfl ?_
  refine pv_lconst (M := mX3_settle) (v := 1) dX3_settle_6 7 rfl (by decide) ?_
  refine pv_lstore_n (M := mX3_settle) 3 (lo2 := [.ref 169, .int x0, .int (-1), .long 1, pv_U, pv_U, pv_U]) dX3_settle_7 8 rfl rfl (by decide) rfl rfl ?_
  refine pv_iconst (M := mX3_settle) (v := 0) dX3_settle_8 9 rfl (by decide) ?_
  refine pv_istore (M := mX3_settle) (lo2 := [.ref 169, .int x0, .int (-1), .long 1, pv_U, .int 0, pv_U]) dX3_settle_9 11 rfl (by decide) rfl rfl ?_
  have lp15 : ∀ (fuel14 : Nat) (y7 : Int32) (y8 : Int64) (y9 : Int32) (m10 : Nat → Nat → Int32) (n11 : Nat → Nat → Int64), (0 ≤ y9.toInt) → (y9.toInt ≤ 4) → (AHx m10 pp) → IV BB m10 → fr (wl [(177, 178, none)]) m m10 → ((4 - y9.toInt) : Int).toNat < fuel14 → PV none g mX3_settle (sqV T BB (wl [(177, 178, none)]) r m (fun m' => True)) 2 0 0 11 [.ref 169, .int x0, .int y7, .long y8, pv_U, .int y9, pv_U] [] (mk T m10 n11 r) := by
    intro fuel14
    induction fuel14 with
    | zero => intro y7 y8 y9 m10 n11 b17 b18 b19 I12 K13 z20; omega
    | succ fuel14 ih16 =>
      intro y7 y8 y9 m10 n11 b17 b18 b19 I12 K13 z20
      have kg := (show AHx m10 pp by assumption)
      have kF : ∀ b j, b ≤ 176 → m10 b j = m b j := fun b j h => K13 b j (wr_out (by omega))
      have kX := CX_eq kF hp0 hp1 hp2 hp3
      have kX4 := kX.2.2.2
      refine pv_iload (M := mX3_settle) dX3_settle_11 13 rfl rfl ?_
      refine pv_iconst (M := mX3_settle) (v := 4) dX3_settle_13 14 rfl (by decide) ?_
      refine pv_icmp_ge (M := mX3_settle) (tgt := 100) dX3_settle_14 17 rfl (by decide) (fun c25 => ?_) (fun c25 => ?_)
      · have c25 := iv_le (X := 4) (Y := y9.toInt) c25 (by decide) rfl
        refine pv_aload_n (M := mX3_settle) 0 dX3_settle_100 101 rfl rfl rfl ?_
        refine mv_get (M := mX3_settle) (v := .ref 178) dX3_settle_101 FX3 8 wd989 (by decide) (tc169 hC) rfl rfl 104 rfl ?_
        refine pv_iload_n (M := mX3_settle) 1 dX3_settle_104 105 rfl rfl rfl ?_
        refine pv_iload_n (M := mX3_settle) 2 dX3_settle_105 106 rfl rfl rfl ?_
        refine pv_iconst (M := mX3_settle) (v := 1) dX3_settle_106 107 rfl (by decide) ?_
        refine iv_addU (M := mX3_settle) dX3_settle_107 108 rfl (fun v26 ev26 => ?_)
        refine iv_iast (M := mX3_settle) (X := x0.toInt) (l1 := (-2147483648)) (l2 := 2147483647) dX3_settle_108 (tc178 hC) rfl (by omega) (by omega) I12 (fun _ => rfl) (iv_rng v26).1 (iv_rng v26).2 109 rfl (fun m27 e30 I28 => ?_)
        have K29 := K13.set e30 (wl_r (by omega) (by omega))
        refine pv_aload_n (M := mX3_settle) 0 dX3_settle_109 110 rfl rfl rfl ?_
        refine mv_get (M := mX3_settle) (v := .ref 179) dX3_settle_110 FX3 9 wd990 (by decide) (tc169 hC) rfl rfl 113 rfl ?_
        refine pv_iload_n (M := mX3_settle) 1 dX3_settle_113 114 rfl rfl rfl ?_
        refine pv_lload_n (M := mX3_settle) 3 dX3_settle_114 115 rfl rfl rfl ?_
        refine iv_last (M := mX3_settle) (X := x0.toInt) dX3_settle_115 (tc179 hC) rfl (by omega) (by omega) 116 rfl (fun n31 en31 => ?_)
        exact pv_vret (M := mX3_settle) dX3_settle_116 rfl ⟨_, _, rfl, rfl, I28, K29, trivial⟩
      · have c25 := iv_nle (X := 4) (Y := y9.toInt) c25 (by decide) rfl
        refine pv_aload_n (M := mX3_settle) 0 dX3_settle_17 18 rfl rfl rfl ?_
        refine mv_get (M := mX3_settle) (v := .ref 177) dX3_settle_18 FX3 7 wd988 (by decide) (tc169 hC) rfl rfl 21 rfl ?_
        refine pv_iload (M := mX3_settle) dX3_settle_21 23 rfl rfl ?_
        refine iv_iald (M := mX3_settle) (X := y9.toInt) (l1 := (-2147483648)) (l2 := 2147483647) dX3_settle_23 (tc177 hC) rfl (by omega) (by omega) I12 (fun _ => rfl) 24 rfl (fun v32 ev32 pv32 qv32 => ?_)
        have k24 : v32.toInt = (m10 177 y9.toInt.toNat).toInt := congrArg Int32.toInt ev32
        refine pv_iconst (M := mX3_settle) (v := (-1)) dX3_settle_24 25 rfl (by decide) ?_
        refine pv_icmp_eq (M := mX3_settle) (tgt := 94) dX3_settle_25 28 rfl (by decide) (fun c34 => ?_) (fun c34 => ?_)
        · have c34 := iv_eq (X := v32.toInt) (Y := (-1)) c34 rfl (by decide)
          refine iv_inc (M := mX3_settle) (C := 1) dX3_settle_94 97 rfl rfl (by decide) rfl rfl (by decide) (by omega) (by omega) (fun v35 ev35 => ?_)
          show PV _ _ _ _ _ _ _ 97 [.ref 169, .int x0, .int y7, .long y8, pv_U, .int v35, pv_U] [] _
          refine pv_goto (M := mX3_settle) (tgt := 11) dX3_settle_97 (by decide) ?_
          have kb : AHx m10 pp := by first | exact kg | exact kb2
          exact ih16 y7 y8 v35 m10 n11 (by first | omega | assumption | exact (iv_rng _).2 | exact (iv_rng _).1 | decide) (by first | omega | assumption | exact (iv_rng _).2 | exact (iv_rng _).1 | decide) kb I12 K13 (by omega)
        · have c34 := iv_ne (X := v32.toInt) (Y := (-1)) c34 rfl (by decide)
          refine pv_iload_n (M := mX3_settle) 1 dX3_settle_28 29 rfl rfl rfl ?_
          refine pv_aload_n (M := mX3_settle) 0 dX3_settle_29 30 rfl rfl rfl ?_
          refine pv_iload (M := mX3_settle) dX3_settle_30 32 rfl rfl ?_
          refine pv_callv (M := mX3_settle) (as := [.int y9]) (st := [.int x0]) (kc2 := 0) (ks2 := 0) dX3_settle_32 wd1029 YX3_takeLetter ⟨wd1031, wd42⟩ (mk_get (tc169 hC)) rfl rfl (s_X3_takeLetter g hT I12 hC P y9 (by omega) (by omega) hp0 kX.1 kX.2.1 kX.2.2.1 kg (by omega)) rfl rfl (Nat.le_of_ble_eq_true rfl) (by decide) rfl rfl 35 rfl (fun rv h1 q37 => ?_)
          obtain ⟨m38, n39, v42, rfl, rfl, I40, K41, pv42, qv42, rv42⟩ := q37
          replace rv42 : v42.toInt ≤ wn (szp m10 pp) (hw m10 pp (m10 177 y9.toInt.toNat).toInt) 4 ∧ AHx m38 pp := rv42
          have K41c := K41
          have K41 := K13.trans (K41.sub (wr_wr (by omega) (by omega)))
          show PV _ _ _ _ _ _ _ 35 [.ref 169, .int x0, .int y7, .long y8, pv_U, .int y9, pv_U] [.int v42, .int x0] _
          have k35 := rv42.1
          have kb2 := rv42.2
          have k35b := hw_le kX.1 kX.2.1 (l := (m10 177 y9.toInt.toNat).toInt) (by omega)
          refine iv_iadd (M := mX3_settle) (X := x0.toInt) (Y := v42.toInt) dX3_settle_35 36 rfl rfl rfl (by omega) (by omega) (fun v46 ev46 => ?_)
          refine pv_istore (M := mX3_settle) (lo2 := [.ref 169, .int x0, .int y7, .long y8, pv_U, .int y9, .int v46]) dX3_settle_36 38 rfl (by decide) rfl rfl ?_
          refine pv_iload_n (M := mX3_settle) 2 dX3_settle_38 39 rfl rfl rfl ?_
          refine pv_iconst (M := mX3_settle) (v := (-1)) dX3_settle_39 40 rfl (by decide) ?_
          refine pv_icmp_eq (M := mX3_settle) (tgt := 54) dX3_settle_40 43 rfl (by decide) (fun c47 => ?_) (fun c47 => ?_)
          · have c47 := iv_eq (X := y7.toInt) (Y := (-1)) c47 rfl (by decide)
            refine pv_aload_n (M := mX3_settle) 0 dX3_settle_54 55 rfl rfl rfl ?_
            refine mv_get (M := mX3_settle) (v := .ref 178) dX3_settle_55 FX3 8 wd989 (by decide) (tc169 hC) rfl rfl 58 rfl ?_
            refine pv_iload (M := mX3_settle) dX3_settle_58 60 rfl rfl ?_
            refine iv_iald (M := mX3_settle) (X := v46.toInt) (l1 := (-2147483648)) (l2 := 2147483647) dX3_settle_60 (tc178 hC) rfl (by omega) (by omega) I40 (fun _ => rfl) 61 rfl (fun v48 ev48 pv48 qv48 => ?_)
            refine pv_istore_n (M := mX3_settle) 2 (lo2 := [.ref 169, .int x0, .int v48, .long y8, pv_U, .int y9, .int v46]) dX3_settle_61 62 rfl rfl (by decide) rfl rfl ?_
            refine pv_aload_n (M := mX3_settle) 0 dX3_settle_62 63 rfl rfl rfl ?_
            refine mv_get (M := mX3_settle) (v := .ref 179) dX3_settle_63 FX3 9 wd990 (by decide) (tc169 hC) rfl rfl 66 rfl ?_
            refine pv_iload (M := mX3_settle) dX3_settle_66 68 rfl rfl ?_
            refine iv_lald (M := mX3_settle) (X := v46.toInt) dX3_settle_68 (tc179 hC) rfl (by omega) (by omega) 69 rfl (fun v49 ev49 => ?_)
            refine pv_lstore_n (M := mX3_settle) 3 (lo2 := [.ref 169, .int x0, .int v48, .long v49, pv_U, .int y9, .int v46]) dX3_settle_69 70 rfl rfl (by decide) rfl rfl ?_
            refine pv_goto (M := mX3_settle) (tgt := 94) dX3_settle_70 (by decide) ?_
            refine iv_inc (M := mX3_settle) (C := 1) dX3_settle_94 97 rfl rfl (by decide) rfl rfl (by decide) (by omega) (by omega) (fun v50 ev50 => ?_)
            show PV _ _ _ _ _ _ _ 97 [.ref 169, .int x0, .int v48, .long v49, pv_U, .int v50, .int v46] [] _
            refine pv_goto (M := mX3_settle) (tgt := 11) dX3_settle_97 (by decide) ?_
            refine pv_fg (lo2 := [.ref 169, .int x0, .int v48, .long v49, pv_U, .int v50, pv_U]) ⟨Or.inr rfl, ⟨Or.inr rfl, ⟨Or.inr rfl, ⟨Or.inr rfl, ⟨Or.inl rfl, ⟨Or.inr rfl, ⟨Or.inl rfl, trivial⟩⟩⟩⟩⟩⟩⟩ ?_
            have kb : AHx m38 pp := by first | exact kg | exact kb2
            exact ih16 v48 v49 v50 m38 n39 (by first | omega | assumption | exact (iv_rng _).2 | exact (iv_rng _).1 | decide) (by first | omega | assumption | exact (iv_rng _).2 | exact (iv_rng _).1 | decide) kb I40 K41 (by omega)
          · have c47 := iv_ne (X := y7.toInt) (Y := (-1)) c47 rfl (by decide)
            refine pv_aload_n (M := mX3_settle) 0 dX3_settle_43 44 rfl rfl rfl ?_
            refine mv_get (M := mX3_settle) (v := .ref 178) dX3_settle_44 FX3 8 wd989 (by decide) (tc169 hC) rfl rfl 47 rfl ?_
            refine pv_iload (M := mX3_settle) dX3_settle_47 49 rfl rfl ?_
            refine iv_iald (M := mX3_settle) (X := v46.toInt) (l1 := (-2147483648)) (l2 := 2147483647) dX3_settle_49 (tc178 hC) rfl (by omega) (by omega) I40 (fun _ => rfl) 50 rfl (fun v52 ev52 pv52 qv52 => ?_)
            refine pv_iload_n (M := mX3_settle) 2 dX3_settle_50 51 rfl rfl rfl ?_
            refine pv_icmp_ge (M := mX3_settle) (tgt := 73) dX3_settle_51 54 rfl (by decide) (fun c53 => ?_) (fun c53 => ?_)
            · have c53 := iv_le (X := y7.toInt) (Y := v52.toInt) c53 rfl rfl
              refine pv_aload_n (M := mX3_settle) 0 dX3_settle_73 74 rfl rfl rfl ?_
              refine mv_get (M := mX3_settle) (v := .ref 178) dX3_settle_74 FX3 8 wd989 (by decide) (tc169 hC) rfl rfl 77 rfl ?_
              refine pv_iload (M := mX3_settle) dX3_settle_77 79 rfl rfl ?_
              refine iv_iald (M := mX3_settle) (X := v46.toInt) (l1 := (-2147483648)) (l2 := 2147483647) dX3_settle_79 (tc178 hC) rfl (by omega) (by omega) I40 (fun _ => rfl) 80 rfl (fun v54 ev54 pv54 qv54 => ?_)
              refine pv_iload_n (M := mX3_settle) 2 dX3_settle_80 81 rfl rfl rfl ?_
              refine pv_icmp_ne (M := mX3_settle) (tgt := 94) dX3_settle_81 84 rfl (by decide) (fun c55 => ?_) (fun c55 => ?_)
              · have c55 := iv_ne (X := v54.toInt) (Y := y7.toInt) c55 rfl rfl
                refine iv_inc (M := mX3_settle) (C := 1) dX3_settle_94 97 rfl rfl (by decide) rfl rfl (by decide) (by omega) (by omega) (fun v56 ev56 => ?_)
                show PV _ _ _ _ _ _ _ 97 [.ref 169, .int x0, .int y7, .long y8, pv_U, .int v56, .int v46] [] _
                refine pv_goto (M := mX3_settle) (tgt := 11) dX3_settle_97 (by decide) ?_
                refine pv_fg (lo2 := [.ref 169, .int x0, .int y7, .long y8, pv_U, .int v56, pv_U]) ⟨Or.inr rfl, ⟨Or.inr rfl, ⟨Or.inr rfl, ⟨Or.inr rfl, ⟨Or.inl rfl, ⟨Or.inr rfl, ⟨Or.inl rfl, trivial⟩⟩⟩⟩⟩⟩⟩ ?_
                have kb : AHx m38 pp := by first | exact kg | exact kb2
                exact ih16 y7 y8 v56 m38 n39 (by first | omega | assumption | exact (iv_rng _).2 | exact (iv_rng _).1 | decide) (by first | omega | assumption | exact (iv_rng _).2 | exact (iv_rng _).1 | decide) kb I40 K41 (by omega)
              · have c55 := iv_eq (X := v54.toInt) (Y := y7.toInt) c55 rfl rfl
                refine pv_lload_n (M := mX3_settle) 3 dX3_settle_84 85 rfl rfl rfl ?_
                refine pv_aload_n (M := mX3_settle) 0 dX3_settle_85 86 rfl rfl rfl ?_
                refine mv_get (M := mX3_settle) (v := .ref 179) dX3_settle_86 FX3 9 wd990 (by decide) (tc169 hC) rfl rfl 89 rfl ?_
                refine pv_iload (M := mX3_settle) dX3_settle_89 91 rfl rfl ?_
                refine iv_lald (M := mX3_settle) (X := v46.toInt) dX3_settle_91 (tc179 hC) rfl (by omega) (by omega) 92 rfl (fun v58 ev58 => ?_)
                refine iv_addJ (M := mX3_settle) dX3_settle_92 93 rfl (fun v59 ev59 => ?_)
                refine pv_lstore_n (M := mX3_settle) 3 (lo2 := [.ref 169, .int x0, .int y7, .long v59, pv_U, .int y9, .int v46]) dX3_settle_93 94 rfl rfl (by decide) rfl rfl ?_
                refine iv_inc (M := mX3_settle) (C := 1) dX3_settle_94 97 rfl rfl (by decide) rfl rfl (by decide) (by omega) (by omega) (fun v60 ev60 => ?_)
                show PV _ _ _ _ _ _ _ 97 [.ref 169, .int x0, .int y7, .long v59, pv_U, .int v60, .int v46] [] _
                refine pv_goto (M := mX3_settle) (tgt := 11) dX3_settle_97 (by decide) ?_
                refine pv_fg (lo2 := [.ref 169, .int x0, .int y7, .long v59, pv_U, .int v60, pv_U]) ⟨Or.inr rfl, ⟨Or.inr rfl, ⟨Or.inr rfl, ⟨Or.inr rfl, ⟨Or.inl rfl, ⟨Or.inr rfl, ⟨Or.inl rfl, trivial⟩⟩⟩⟩⟩⟩⟩ ?_
                have kb : AHx m38 pp := by first | exact kg | exact kb2
                exact ih16 y7 v59 v60 m38 n39 (by first | omega | assumption | exact (iv_rng _).2 | exact (iv_rng _).1 | decide) (by first | omega | assumption | exact (iv_rng _).2 | exact (iv_rng _).1 | decide) kb I40 K41 (by omega)
            · have c53 := iv_nle (X := y7.toInt) (Y := v52.toInt) c53 rfl rfl
              refine pv_aload_n (M := mX3_settle) 0 dX3_settle_54 55 rfl rfl rfl ?_
              refine mv_get (M := mX3_settle) (v := .ref 178) dX3_settle_55 FX3 8 wd989 (by decide) (tc169 hC) rfl rfl 58 rfl ?_
              refine pv_iload (M := mX3_settle) dX3_settle_58 60 rfl rfl ?_
              refine iv_iald (M := mX3_settle) (X := v46.toInt) (l1 := (-2147483648)) (l2 := 2147483647) dX3_settle_60 (tc178 hC) rfl (by omega) (by omega) I40 (fun _ => rfl) 61 rfl (fun v62 ev62 pv62 qv62 => ?_)
              refine pv_istore_n (M := mX3_settle) 2 (lo2 := [.ref 169, .int x0, .int v62, .long y8, pv_U, .int y9, .int v46]) dX3_settle_61 62 rfl rfl (by decide) rfl rfl ?_
              refine pv_aload_n (M := mX3_settle) 0 dX3_settle_62 63 rfl rfl rfl ?_
              refine mv_get (M := mX3_settle) (v := .ref 179) dX3_settle_63 FX3 9 wd990 (by decide) (tc169 hC) rfl rfl 66 rfl ?_
              refine pv_iload (M := mX3_settle) dX3_settle_66 68 rfl rfl ?_
              refine iv_lald (M := mX3_settle) (X := v46.toInt) dX3_settle_68 (tc179 hC) rfl (by omega) (by omega) 69 rfl (fun v63 ev63 => ?_)
              refine pv_lstore_n (M := mX3_settle) 3 (lo2 := [.ref 169, .int x0, .int v62, .long v63, pv_U, .int y9, .int v46]) dX3_settle_69 70 rfl rfl (by decide) rfl rfl ?_
              refine pv_goto (M := mX3_settle) (tgt := 94) dX3_settle_70 (by decide) ?_
              refine iv_inc (M := mX3_settle) (C := 1) dX3_settle_94 97 rfl rfl (by decide) rfl rfl (by decide) (by omega) (by omega) (fun v64 ev64 => ?_)
              show PV _ _ _ _ _ _ _ 97 [.ref 169, .int x0, .int v62, .long v63, pv_U, .int v64, .int v46] [] _
              refine pv_goto (M := mX3_settle) (tgt := 11) dX3_settle_97 (by decide) ?_
              refine pv_fg (lo2 := [.ref 169, .int x0, .int v62, .long v63, pv_U, .int v64, pv_U]) ⟨Or.inr rfl, ⟨Or.inr rfl, ⟨Or.inr rfl, ⟨Or.inr rfl, ⟨Or.inl rfl, ⟨Or.inr rfl, ⟨Or.inl rfl, trivial⟩⟩⟩⟩⟩⟩⟩ ?_
              have kb : AHx m38 pp := by first | exact kg | exact kb2
              exact ih16 v62 v63 v64 m38 n39 (by first | omega | assumption | exact (iv_rng _).2 | exact (iv_rng _).1 | decide) (by first | omega | assumption | exact (iv_rng _).2 | exact (iv_rng _).1 | decide) kb I40 K41 (by omega)
  have z66 : ((-1) : Int32).toInt = (-1) := by decide
  have z67 : (0 : Int32).toInt = 0 := by decide
  exact lp15 (((4 - 0) : Int).toNat + 1) (-1) 1 0 m2 n3 (by first | omega | assumption | exact (iv_rng _).2 | exact (iv_rng _).1 | decide) (by first | omega | assumption | exact (iv_rng _).2 | exact (iv_rng _).1 | decide) kA0 I4 K5 (by omega)
