set_option maxHeartbeats 2000000 in
set_option maxRecDepth 20000 in
theorem s_X3_takeLetter_ve (g : pv_G) {T : List mv_T} {m : Nat → Nat → Int32} {n : Nat → Nat → Int64} {r : Nat → Value} (hT : TX T) (I : IV BB m) (hC : TC T) {pp qq : Nat → Nat} (P : PX T r pp qq) (x0 : Int32) (hl0 : 0 ≤ x0.toInt) (hh0 : x0.toInt ≤ 3) (hp0 : Dj pp) (hp1 : S12 (szp m pp)) (hp2 : ATx m pp) (hp3 : APx m pp) (hp4 : AHe m pp x0.toInt.toNat) (hp5 : (m 177 x0.toInt.toNat).toInt ≠ -1) : PM g mX3_takeLetter yX3_takeLetter (sqIn T BB (wl [(177, 177, none)]) r m 0 28560 (fun m' n' v => nE n n' ∧ (v.toInt = wn (szp m pp) (hw m pp (lap m pp x0.toInt.toNat)) 4 ∧ AHe m' pp (x0.toInt.toNat + 1)))) 1 0 0 [.ref 169, .int x0] (mk T m n r) := by
  have Kp : fr (wl [(177, 177, none)]) m m := fr.rf
  have NKp : nE n n := nE.rf
  refine PM.of 3 (lo := [.ref 169, .int x0, pv_U, pv_U, pv_U]) rfl (by decide) rfl rfl (Nat.le_of_ble_eq_true rfl) ?_
  have kT : wn (szp m pp) (hw m pp (lap m pp x0.toInt.toNat)) 4 ≤ 28560 := by have a := hw_le hp1 hp2 (l := (lap m pp x0.toInt.toNat)) (by rw [← (AHe_let hp4 (by omega) hp5).1]; exact hp5); have b := ix4_0 hp1 (fun d hd => (hp2 d hd).1); omega
  have kH := AHe_let hp4 (by omega) hp5
  have kz : ∀ e, e < x0.toInt.toNat → hw m pp (lap m pp x0.toInt.toNat) e = 0 := fun e he => by unfold hw; rw [if_neg (kH.2.1 e he)]
  refine pv_aload_n (M := mX3_takeLetter) 0 dX3_takeLetter_0 1 rfl rfl rfl ?_
  refine mv_get (M := mX3_takeLetter) (v := .ref 177) dX3_takeLetter_1 FX3 7 wd988 (by decide) (tc169 hC) rfl rfl 4 rfl ?_
  refine pv_iload_n (M := mX3_takeLetter) 1 dX3_takeLetter_4 5 rfl rfl rfl ?_
  refine iv_iald (M := mX3_takeLetter) (X := x0.toInt) (l1 := (-2147483648)) (l2 := 2147483647) dX3_takeLetter_5 (tc177 hC) rfl (by omega) (by omega) I (fun _ => rfl) 6 rfl (fun v4 ev4 pv4 qv4 => ?_)
  have k6 : v4.toInt = (lap m pp x0.toInt.toNat) := (congrArg Int32.toInt ev4).trans kH.1
  refine pv_istore_n (M := mX3_takeLetter) 2 (lo2 := [.ref 169, .int x0, .int v4, pv_U, pv_U]) dX3_takeLetter_6 7 rfl rfl (by decide) rfl rfl ?_
  refine pv_iconst (M := mX3_takeLetter) (v := 0) dX3_takeLetter_7 8 rfl (by decide) ?_
  refine pv_istore_n (M := mX3_takeLetter) 3 (lo2 := [.ref 169, .int x0, .int v4, .int 0, pv_U]) dX3_takeLetter_8 9 rfl rfl (by decide) rfl rfl ?_
  refine pv_iload_n (M := mX3_takeLetter) 1 dX3_takeLetter_9 10 rfl rfl rfl ?_
  refine pv_istore (M := mX3_takeLetter) (lo2 := [.ref 169, .int x0, .int v4, .int 0, .int x0]) dX3_takeLetter_10 12 rfl (by decide) rfl rfl ?_
  have lp13 : ∀ (fuel12 : Nat) (y6 : Int32) (y7 : Int32) (m8 : Nat → Nat → Int32) (n9 : Nat → Nat → Int64), (0 ≤ y6.toInt) → (y6.toInt ≤ 28560) → (0 ≤ y7.toInt) → (y7.toInt ≤ 4) → (x0.toInt ≤ y7.toInt) → (y6.toInt = wn (szp m pp) (hw m pp (lap m pp x0.toInt.toNat)) y7.toInt.toNat) → (R7P m m8 (lap m pp x0.toInt.toNat) y7.toInt) → IV BB m8 → fr (wl [(177, 177, none)]) m m8 → nE n n9 → ((4 - y7.toInt) : Int).toNat < fuel12 → PV none g mX3_takeLetter (sqIn T BB (wl [(177, 177, none)]) r m 0 28560 (fun m' n' v => nE n n' ∧ (v.toInt = wn (szp m pp) (hw m pp (lap m pp x0.toInt.toNat)) 4 ∧ AHe m' pp (x0.toInt.toNat + 1)))) 1 0 0 12 [.ref 169, .int x0, .int v4, .int y6, .int y7] [] (mk T m8 n9 r) := by
    intro fuel12
    induction fuel12 with
    | zero => intro y6 y7 m8 n9 b15 b16 b17 b18 b19 b20 b21 I10 K11 NK11 z22; omega
    | succ fuel12 ih14 =>
      intro y6 y7 m8 n9 b15 b16 b17 b18 b19 b20 b21 I10 K11 NK11 z22
      have kg1 := (show y6.toInt = wn (szp m pp) (hw m pp (lap m pp x0.toInt.toNat)) y7.toInt.toNat by assumption)
      have kg2 := (show R7P m m8 (lap m pp x0.toInt.toNat) y7.toInt by assumption)
      refine pv_iload (M := mX3_takeLetter) dX3_takeLetter_12 14 rfl rfl ?_
      refine pv_iconst (M := mX3_takeLetter) (v := 4) dX3_takeLetter_14 15 rfl (by decide) ?_
      refine pv_icmp_ge (M := mX3_takeLetter) (tgt := 53) dX3_takeLetter_15 18 rfl (by decide) (fun c25 => ?_) (fun c25 => ?_)
      · have c25 := iv_le (X := 4) (Y := y7.toInt) c25 (by decide) rfl
        refine pv_iload_n (M := mX3_takeLetter) 3 dX3_takeLetter_53 54 rfl rfl rfl ?_
        exact pv_iret (M := mX3_takeLetter) dX3_takeLetter_54 rfl rfl ⟨_, _, _, rfl, rfl, I10, K11, by omega, by omega, ⟨NK11, ⟨by have q := kg1; rw [show y7.toInt.toNat = 4 by omega] at q; exact q, AHe_take hp4 (by omega) hp5 (lap_eq (fun b hb => funext fun j => K11 b j (wr_out (by omega))) hp0) (R7_end kg2 (by omega))⟩⟩⟩
      · have c25 := iv_nle (X := 4) (Y := y7.toInt) c25 (by decide) rfl
        refine pv_aload_n (M := mX3_takeLetter) 0 dX3_takeLetter_18 19 rfl rfl rfl ?_
        refine mv_get (M := mX3_takeLetter) (v := .ref 177) dX3_takeLetter_19 FX3 7 wd988 (by decide) (tc169 hC) rfl rfl 22 rfl ?_
        refine pv_iload (M := mX3_takeLetter) dX3_takeLetter_22 24 rfl rfl ?_
        refine iv_iald (M := mX3_takeLetter) (X := y7.toInt) (l1 := (-2147483648)) (l2 := 2147483647) dX3_takeLetter_24 (tc177 hC) rfl (by omega) (by omega) I10 (fun _ => rfl) 25 rfl (fun v26 ev26 pv26 qv26 => ?_)
        have k25 : v26.toInt = (m 177 y7.toInt.toNat).toInt := (congrArg Int32.toInt ev26).trans (R7_at kg2 (by omega) (by omega))
        have k25b := kH.2.2 y7.toInt.toNat (by omega)
        refine pv_iload_n (M := mX3_takeLetter) 2 dX3_takeLetter_25 26 rfl rfl rfl ?_
        refine pv_icmp_ne (M := mX3_takeLetter) (tgt := 47) dX3_takeLetter_26 29 rfl (by decide) (fun c29 => ?_) (fun c29 => ?_)
        · have c29 := iv_ne (X := v26.toInt) (Y := v4.toInt) c29 rfl rfl
          try have k47 := (noE).trans (up2_ix (j := y7.toInt.toNat) (by omega))
          refine iv_inc (M := mX3_takeLetter) (C := 1) dX3_takeLetter_47 50 rfl rfl (by decide) rfl rfl (by decide) (by omega) (by omega) (fun v31 ev31 => ?_)
          show PV _ _ _ _ _ _ _ 50 [.ref 169, .int x0, .int v4, .int y6, .int v31] [] _
          refine pv_goto (M := mX3_takeLetter) (tgt := 12) dX3_takeLetter_50 (by decide) ?_
          have ku : v31.toInt = y7.toInt + 1 := by omega
          have kb1 : y6.toInt = wn (szp m pp) (hw m pp (lap m pp x0.toInt.toNat)) v31.toInt.toNat := by rw [ku]; first | omega | (rw [wn_s (j := y7.toInt) (by omega) rfl, show hw m pp (lap m pp x0.toInt.toNat) (y7.toInt).toNat = 0 by unfold hw; rw [if_neg (fun q => by have z := k25b.mpr ⟨q, by omega⟩; omega)], Int.zero_mul]; omega)
          have kb2 : R7P m m8 (lap m pp x0.toInt.toNat) v31.toInt := by first | exact R7_hit kg2 (by omega) k47 (by decide) (by omega) ku | exact R7_miss kg2 (by omega) (by omega) ku
          exact ih14 y6 v31 m8 n9 (by first | omega | assumption | exact (iv_rng _).2 | exact (iv_rng _).1 | decide) (by first | omega | assumption | exact (iv_rng _).2 | exact (iv_rng _).1 | decide) (by first | omega | assumption | exact (iv_rng _).2 | exact (iv_rng _).1 | decide) (by first | omega | assumption | exact (iv_rng _).2 | exact (iv_rng _).1 | decide) (by first | omega | assumption | (show x0.toInt ≤ v31.toInt; omega) | decide) kb1 kb2 I10 K11 NK11 (by omega)
        · have c29 := iv_eq (X := v26.toInt) (Y := v4.toInt) c29 rfl rfl
          refine pv_iload_n (M := mX3_takeLetter) 3 dX3_takeLetter_29 30 rfl rfl rfl ?_
          refine pv_aload_n (M := mX3_takeLetter) 0 dX3_takeLetter_30 31 rfl rfl rfl ?_
          refine mv_get (M := mX3_takeLetter) (v := .ref 176) dX3_takeLetter_31 FX3 6 wd987 (by decide) (tc169 hC) rfl rfl 34 rfl ?_
          refine pv_iload (M := mX3_takeLetter) dX3_takeLetter_34 36 rfl rfl ?_
          refine iv_iald (M := mX3_takeLetter) (X := y7.toInt) (l1 := 0) (l2 := 28561) dX3_takeLetter_36 (tc176 hC) rfl (by omega) (by omega) I10 (fun _ => rfl) 37 rfl (fun v35 ev35 pv35 qv35 => ?_)
          have k37 : v35.toInt = (m 176 y7.toInt.toNat).toInt := congrArg Int32.toInt (ev35.trans (K11 176 _ (wr_out (by omega))))
          have kh : lap m pp y7.toInt.toNat = (lap m pp x0.toInt.toNat) := (k25b.mp (by omega)).1
          have k37b := hp3 y7.toInt.toNat (by omega)
          have k37c := wn_up hp1 (fun d => (hw_b m pp (lap m pp x0.toInt.toNat) d).1) 4 (y7.toInt + 1).toNat (by omega) (by omega)
          have k37d : wn (szp m pp) (hw m pp (lap m pp x0.toInt.toNat)) (y7.toInt + 1).toNat = wn (szp m pp) (hw m pp (lap m pp x0.toInt.toNat)) y7.toInt.toNat + hw m pp (lap m pp x0.toInt.toNat) y7.toInt.toNat * cA (szp m pp) (3 - y7.toInt.toNat) := wn_s (by omega) rfl
          have k37e : hw m pp (lap m pp x0.toInt.toNat) y7.toInt.toNat = 1 := by unfold hw; rw [if_pos kh]
          rw [k37e, Int.one_mul] at k37d
          refine iv_iadd (M := mX3_takeLetter) (X := y6.toInt) (Y := v35.toInt) dX3_takeLetter_37 38 rfl rfl rfl (by omega) (by omega) (fun v43 ev43 => ?_)
          refine pv_istore_n (M := mX3_takeLetter) 3 (lo2 := [.ref 169, .int x0, .int v4, .int v43, .int y7]) dX3_takeLetter_38 39 rfl rfl (by decide) rfl rfl ?_
          refine pv_aload_n (M := mX3_takeLetter) 0 dX3_takeLetter_39 40 rfl rfl rfl ?_
          refine mv_get (M := mX3_takeLetter) (v := .ref 177) dX3_takeLetter_40 FX3 7 wd988 (by decide) (tc169 hC) rfl rfl 43 rfl ?_
          refine pv_iload (M := mX3_takeLetter) dX3_takeLetter_43 45 rfl rfl ?_
          refine pv_iconst (M := mX3_takeLetter) (v := (-1)) dX3_takeLetter_45 46 rfl (by decide) ?_
          refine iv_iast (M := mX3_takeLetter) (X := y7.toInt) (l1 := (-2147483648)) (l2 := 2147483647) dX3_takeLetter_46 (tc177 hC) rfl (by omega) (by omega) I10 (fun _ => rfl) (by decide) (by decide) 47 rfl (fun m44 e47 I45 => ?_)
          have K46 := K11.set e47 (wl_r (by omega) (by omega))
          have NK46 := NK11
          try have k47 := (e47).trans (up2_ix (j := y7.toInt.toNat) (by omega))
          refine iv_inc (M := mX3_takeLetter) (C := 1) dX3_takeLetter_47 50 rfl rfl (by decide) rfl rfl (by decide) (by omega) (by omega) (fun v49 ev49 => ?_)
          show PV _ _ _ _ _ _ _ 50 [.ref 169, .int x0, .int v4, .int v43, .int v49] [] _
          refine pv_goto (M := mX3_takeLetter) (tgt := 12) dX3_takeLetter_50 (by decide) ?_
          have ku : v49.toInt = y7.toInt + 1 := by omega
          have kb1 : v43.toInt = wn (szp m pp) (hw m pp (lap m pp x0.toInt.toNat)) v49.toInt.toNat := by rw [ku]; first | omega | (rw [wn_s (j := y7.toInt) (by omega) rfl, show hw m pp (lap m pp x0.toInt.toNat) (y7.toInt).toNat = 0 by unfold hw; rw [if_neg (fun q => by have z := k25b.mpr ⟨q, by omega⟩; omega)], Int.zero_mul]; omega)
          have kb2 : R7P m m44 (lap m pp x0.toInt.toNat) v49.toInt := by first | exact R7_hit kg2 (by omega) k47 (by decide) (by omega) ku | exact R7_miss kg2 (by omega) (by omega) ku
          exact ih14 v43 v49 m44 n9 (by first | omega | assumption | exact (iv_rng _).2 | exact (iv_rng _).1 | decide) (by first | omega | assumption | exact (iv_rng _).2 | exact (iv_rng _).1 | decide) (by first | omega | assumption | exact (iv_rng _).2 | exact (iv_rng _).1 | decide) (by first | omega | assumption | exact (iv_rng _).2 | exact (iv_rng _).1 | decide) (by first | omega | assumption | (show x0.toInt ≤ v49.toInt; omega) | decide) kb1 kb2 I45 K46 NK46 (by omega)
  have z53 : (0 : Int32).toInt = 0 := by decide
  exact lp13 (((4 - x0.toInt) : Int).toNat + 1) 0 x0 m n (by first | omega | assumption | exact (iv_rng _).2 | exact (iv_rng _).1 | decide) (by first | omega | assumption | exact (iv_rng _).2 | exact (iv_rng _).1 | decide) (by first | omega | assumption | exact (iv_rng _).2 | exact (iv_rng _).1 | decide) (by first | omega | assumption | exact (iv_rng _).2 | exact (iv_rng _).1 | decide) (by first | omega | assumption | (show x0.toInt ≤ x0.toInt; omega) | decide) (by rw [Int32.toInt_zero]; exact (wn_z _ kz).symm) (R7_0 (fun e he q z => by have w := ((kH.2.2 e he).mp z).2; omega)) I Kp NKp (by omega)

set_option maxHeartbeats 2000000 in
set_option maxRecDepth 20000 in
theorem s_X3_settle_ve (g : pv_G) {T : List mv_T} {m : Nat → Nat → Int32} {n : Nat → Nat → Int64} {r : Nat → Value} (hT : TX T) (I : IV BB m) (hC : TC T) {pp qq : Nat → Nat} (P : PX T r pp qq) (x0 : Int32) (hl0 : 0 ≤ x0.toInt) (hh0 : x0.toInt ≤ 28560) (hp0 : Dj pp) (hp1 : S12 (szp m pp)) (hp2 : ATx m pp) (hp3 : APx m pp) (hp4 : x0.toInt = ix4 (szp m pp) (atp m)) (hp5 : ∀ e, e < 4 → lap m pp e ≠ -1 → 0 ≤ Tn m pp e ∧ Tn m pp e ≤ 1000) : PM g mX3_settle yX3_settle (sqV T BB (wl [(177, 178, none)]) r m (fun m' => (∀ j, j ≠ x0.toInt.toNat → m' 178 j = m 178 j) ∧ OB1 (szp m pp) (srp m pp) (fun b => (m 178 (ix4 (szp m pp) b).toNat).toInt) (atp m) (m' 178 x0.toInt.toNat).toInt)) 2 0 0 [.ref 169, .int x0] (mk T m n r) := by
  have Kp : fr (wl [(177, 178, none)]) m m := fr.rf
  refine PM.of 5 (lo := [.ref 169, .int x0, pv_U, pv_U, pv_U, pv_U, pv_U]) rfl (by decide) rfl rfl (Nat.le_of_ble_eq_true rfl) ?_
  refine pv_aload_n (M := mX3_settle) 0 dX3_settle_0 1 rfl rfl rfl ?_
  refine pv_callv (M := mX3_settle) (as := []) (st := []) (kc2 := 0) (ks2 := 0) dX3_settle_1 wd1025 YX3_lookAhead ⟨wd1027, wd41⟩ (mk_get (tc169 hC)) rfl rfl (s_X3_lookAhead g hT I hC P hp0 hp2) rfl rfl (Nat.le_of_ble_eq_true rfl) (by decide) rfl rfl 4 rfl (fun rv h1 q1 => ?_)
  obtain ⟨m2, n3, rfl, rfl, I4, K5, rm2⟩ := q1
  have NK5c := rm2.1
  replace rm2 := rm2.2
  replace rm2 : ∀ d, d < 4 → (m2 177 d).toInt = lap m pp d := rm2
  have K5c := K5
  have K5 := Kp.trans (K5.sub (wr_wr (by omega) (by omega)))
  show PV _ _ _ _ _ _ _ 4 [.ref 169, .int x0, pv_U, pv_U, pv_U, pv_U, pv_U] [] _
  have kA0 : AHe m2 pp 0 := AHe_0 (m := m) (fun d hd => (rm2 d hd).trans (lap_eq (fun b hb => funext fun j => (K5 b j (wr_out (by omega)))) hp0 d hd).symm)
  have k80 : ∀ j, m2 178 j = m 178 j := fun j => K5c 178 j (wr_out (by omega))
  refine pv_iconst (M := mX3_settle) (v := (-1)) dX3_settle_4 5 rfl (by decide) ?_
  refine pv_istore_n (M := mX3_settle) 2 (lo2 := [.ref 169, .int x0, .int (-1), pv_U, pv_U, pv_U, pv_U]) dX3_settle_5 6 rfl rfl (by decide) rfl rfl ?_
  refine pv_lconst (M := mX3_settle) (v := 1) dX3_settle_6 7 rfl (by decide) ?_
  refine pv_lstore_n (M := mX3_settle) 3 (lo2 := [.ref 169, .int x0, .int (-1), .long 1, pv_U, pv_U, pv_U]) dX3_settle_7 8 rfl rfl (by decide) rfl rfl ?_
  refine pv_iconst (M := mX3_settle) (v := 0) dX3_settle_8 9 rfl (by decide) ?_
  refine pv_istore (M := mX3_settle) (lo2 := [.ref 169, .int x0, .int (-1), .long 1, pv_U, .int 0, pv_U]) dX3_settle_9 11 rfl (by decide) rfl rfl ?_
  have lp16 : ∀ (fuel15 : Nat) (y8 : Int32) (y9 : Int64) (y10 : Int32) (m11 : Nat → Nat → Int32) (n12 : Nat → Nat → Int64), (-1 ≤ y8.toInt) → (y8.toInt ≤ 1000) → (0 ≤ y10.toInt) → (y10.toInt ≤ 4) → (AHe m11 pp y10.toInt.toNat) → (MNE m pp y10.toInt.toNat y8.toInt) → (∀ j, m11 178 j = m 178 j) → IV BB m11 → fr (wl [(177, 178, none)]) m m11 → ((4 - y10.toInt) : Int).toNat < fuel15 → PV none g mX3_settle (sqV T BB (wl [(177, 178, none)]) r m (fun m' => (∀ j, j ≠ x0.toInt.toNat → m' 178 j = m 178 j) ∧ OB1 (szp m pp) (srp m pp) (fun b => (m 178 (ix4 (szp m pp) b).toNat).toInt) (atp m) (m' 178 x0.toInt.toNat).toInt)) 2 0 0 11 [.ref 169, .int x0, .int y8, .long y9, pv_U, .int y10, pv_U] [] (mk T m11 n12 r) := by
    intro fuel15
    induction fuel15 with
    | zero => intro y8 y9 y10 m11 n12 b18 b19 b20 b21 b22 b23 b24 I13 K14 z25; omega
    | succ fuel15 ih17 =>
      intro y8 y9 y10 m11 n12 b18 b19 b20 b21 b22 b23 b24 I13 K14 z25
      have kg1 := (show AHe m11 pp y10.toInt.toNat by assumption)
      have kg2 := (show MNE m pp y10.toInt.toNat y8.toInt by assumption)
      have kg8 := (show ∀ j, m11 178 j = m 178 j by assumption)
      have kF : ∀ b j, b ≤ 176 → m11 b j = m b j := fun b j h => K14 b j (wr_out (by omega))
      have kX := CX_eq kF hp0 hp1 hp2 hp3
      have kL := lap_eq (m := m) (m2 := m11) (fun b hb => funext fun j => kF b j (by omega)) hp0
      refine pv_iload (M := mX3_settle) dX3_settle_11 13 rfl rfl ?_
      refine pv_iconst (M := mX3_settle) (v := 4) dX3_settle_13 14 rfl (by decide) ?_
      refine pv_icmp_ge (M := mX3_settle) (tgt := 100) dX3_settle_14 17 rfl (by decide) (fun c32 => ?_) (fun c32 => ?_)
      · have c32 := iv_le (X := 4) (Y := y10.toInt) c32 (by decide) rfl
        refine pv_aload_n (M := mX3_settle) 0 dX3_settle_100 101 rfl rfl rfl ?_
        refine mv_get (M := mX3_settle) (v := .ref 178) dX3_settle_101 FX3 8 wd989 (by decide) (tc169 hC) rfl rfl 104 rfl ?_
        refine pv_iload_n (M := mX3_settle) 1 dX3_settle_104 105 rfl rfl rfl ?_
        refine pv_iload_n (M := mX3_settle) 2 dX3_settle_105 106 rfl rfl rfl ?_
        refine pv_iconst (M := mX3_settle) (v := 1) dX3_settle_106 107 rfl (by decide) ?_
        refine iv_iadd (M := mX3_settle) (X := y8.toInt) (Y := 1) dX3_settle_107 108 rfl rfl (by decide) (by omega) (by omega) (fun v33 ev33 => ?_)
        have k108 : v33.toInt = y8.toInt + 1 := by omega
        refine iv_iast (M := mX3_settle) (X := x0.toInt) (l1 := (-2147483648)) (l2 := 2147483647) dX3_settle_108 (tc178 hC) rfl (by omega) (by omega) I13 (fun _ => rfl) (iv_rng v33).1 (iv_rng v33).2 109 rfl (fun m35 e38 I36 => ?_)
        have K37 := K14.set e38 (wl_r (by omega) (by omega))
        have k109 := (e38).trans (up2_ix (j := x0.toInt.toNat) (by omega))
        refine pv_aload_n (M := mX3_settle) 0 dX3_settle_109 110 rfl rfl rfl ?_
        refine mv_get (M := mX3_settle) (v := .ref 179) dX3_settle_110 FX3 9 wd990 (by decide) (tc169 hC) rfl rfl 113 rfl ?_
        refine pv_iload_n (M := mX3_settle) 1 dX3_settle_113 114 rfl rfl rfl ?_
        refine pv_lload_n (M := mX3_settle) 3 dX3_settle_114 115 rfl rfl rfl ?_
        refine iv_last (M := mX3_settle) (X := x0.toInt) dX3_settle_115 (tc179 hC) rfl (by omega) (by omega) 116 rfl (fun n40 en40 => ?_)
        exact pv_vret (M := mX3_settle) dX3_settle_116 rfl ⟨_, _, rfl, rfl, I36, K37, ⟨fun j h => by rw [k109, up2_ne (by omega)]; exact kg8 j, by rw [k109, up2_eq, k108]; exact (MNE_end (by have q := kg2; rw [show y10.toInt.toNat = 4 by omega] at q; exact q)).1⟩⟩
      · have c32 := iv_nle (X := 4) (Y := y10.toInt) c32 (by decide) rfl
        refine pv_aload_n (M := mX3_settle) 0 dX3_settle_17 18 rfl rfl rfl ?_
        refine mv_get (M := mX3_settle) (v := .ref 177) dX3_settle_18 FX3 7 wd988 (by decide) (tc169 hC) rfl rfl 21 rfl ?_
        refine pv_iload (M := mX3_settle) dX3_settle_21 23 rfl rfl ?_
        refine iv_iald (M := mX3_settle) (X := y10.toInt) (l1 := (-2147483648)) (l2 := 2147483647) dX3_settle_23 (tc177 hC) rfl (by omega) (by omega) I13 (fun _ => rfl) 24 rfl (fun v41 ev41 pv41 qv41 => ?_)
        have k24 : v41.toInt = (m11 177 y10.toInt.toNat).toInt := congrArg Int32.toInt ev41
        refine pv_iconst (M := mX3_settle) (v := (-1)) dX3_settle_24 25 rfl (by decide) ?_
        refine pv_icmp_eq (M := mX3_settle) (tgt := 94) dX3_settle_25 28 rfl (by decide) (fun c43 => ?_) (fun c43 => ?_)
        · have c43 := iv_eq (X := v41.toInt) (Y := (-1)) c43 rfl (by decide)
          refine iv_inc (M := mX3_settle) (C := 1) dX3_settle_94 97 rfl rfl (by decide) rfl rfl (by decide) (by omega) (by omega) (fun v44 ev44 => ?_)
          show PV _ _ _ _ _ _ _ 97 [.ref 169, .int x0, .int y8, .long y9, pv_U, .int v44, pv_U] [] _
          refine pv_goto (M := mX3_settle) (tgt := 11) dX3_settle_97 (by decide) ?_
          have kbA : AHe m11 pp v44.toInt.toNat := by rw [show v44.toInt.toNat = (y10.toInt).toNat + 1 by omega]; first | exact kA2 | exact AHe_skip kg1 (by omega) (by omega)
          have kbM : MNE m pp v44.toInt.toNat y8.toInt := by rw [show v44.toInt.toNat = (y10.toInt).toNat + 1 by omega]; first | exact MNE_hit kg2 kne rfl kTn.1 (by omega) | exact MNE_skip kg2 (skip_of (by omega) kL (AHe_m1 kg1 (by omega) (by omega)))
          have kb8 : ∀ j, m11 178 j = m 178 j := by first | exact k8t | exact kg8
          exact ih17 y8 y9 v44 m11 n12 (by first | omega | assumption | exact (iv_rng _).2 | exact (iv_rng _).1 | decide) (by first | omega | assumption | exact (iv_rng _).2 | exact (iv_rng _).1 | decide) (by first | omega | assumption | exact (iv_rng _).2 | exact (iv_rng _).1 | decide) (by first | omega | assumption | exact (iv_rng _).2 | exact (iv_rng _).1 | decide) kbA kbM kb8 I13 K14 (by omega)
        · have c43 := iv_ne (X := v41.toInt) (Y := (-1)) c43 rfl (by decide)
          have kne0 := (AHe_let kg1 (by omega) (by omega)).1
          have kne : lap m pp y10.toInt.toNat ≠ -1 := by rw [← kL y10.toInt.toNat (by omega)]; omega
          have kTn := hp5 y10.toInt.toNat (by omega) kne
          refine pv_iload_n (M := mX3_settle) 1 dX3_settle_28 29 rfl rfl rfl ?_
          refine pv_aload_n (M := mX3_settle) 0 dX3_settle_29 30 rfl rfl rfl ?_
          refine pv_iload (M := mX3_settle) dX3_settle_30 32 rfl rfl ?_
          refine pv_callv (M := mX3_settle) (as := [.int y10]) (st := [.int x0]) (kc2 := 0) (ks2 := 0) dX3_settle_32 wd1029 YX3_takeLetter ⟨wd1031, wd42⟩ (mk_get (tc169 hC)) rfl rfl (s_X3_takeLetter_ve g hT I13 hC P y10 (by omega) (by omega) hp0 kX.1 kX.2.1 kX.2.2.1 kg1 (by omega)) rfl rfl (Nat.le_of_ble_eq_true rfl) (by decide) rfl rfl 35 rfl (fun rv h1 q51 => ?_)
          obtain ⟨m52, n53, v56, rfl, rfl, I54, K55, pv56, qv56, rv56⟩ := q51
          have NK55c := rv56.1
          replace rv56 := rv56.2
          replace rv56 : v56.toInt = wn (szp m11 pp) (hw m11 pp (lap m11 pp y10.toInt.toNat)) 4 ∧ AHe m52 pp (y10.toInt.toNat + 1) := rv56
          have K55c := K55
          have K55 := K14.trans (K55.sub (wr_wr (by omega) (by omega)))
          show PV _ _ _ _ _ _ _ 35 [.ref 169, .int x0, .int y8, .long y9, pv_U, .int y10, pv_U] [.int v56, .int x0] _
          have k35 : v56.toInt = wn (szp m pp) (hw m pp (lap m pp y10.toInt.toNat)) 4 := rv56.1.trans ((wnh_eq (m := m) (m2 := m11) (fun b j h => kF b j (by omega)) hp0 _).trans (by rw [kL y10.toInt.toNat (by omega)]))
          have kA2 := rv56.2
          have k35b := hw_le hp1 hp2 (l := lap m pp y10.toInt.toNat) kne
          have k35c := nx_ix (m := m) (pp := pp) (lap m pp y10.toInt.toNat)
          have k8t : ∀ j, m52 178 j = m 178 j := fun j => (K55c 178 j (wr_out (by omega))).trans (kg8 j)
          refine iv_iadd (M := mX3_settle) (X := x0.toInt) (Y := v56.toInt) dX3_settle_35 36 rfl rfl rfl (by omega) (by omega) (fun v62 ev62 => ?_)
          have k36 : v62.toInt = ix4 (szp m pp) (adv4 (szp m pp) (srp m pp) (atp m) (lap m pp y10.toInt.toNat)) := by omega
          refine pv_istore (M := mX3_settle) (lo2 := [.ref 169, .int x0, .int y8, .long y9, pv_U, .int y10, .int v62]) dX3_settle_36 38 rfl (by decide) rfl rfl ?_
          refine pv_iload_n (M := mX3_settle) 2 dX3_settle_38 39 rfl rfl rfl ?_
          refine pv_iconst (M := mX3_settle) (v := (-1)) dX3_settle_39 40 rfl (by decide) ?_
          refine pv_icmp_eq (M := mX3_settle) (tgt := 54) dX3_settle_40 43 rfl (by decide) (fun c64 => ?_) (fun c64 => ?_)
          · have c64 := iv_eq (X := y8.toInt) (Y := (-1)) c64 rfl (by decide)
            refine pv_aload_n (M := mX3_settle) 0 dX3_settle_54 55 rfl rfl rfl ?_
            refine mv_get (M := mX3_settle) (v := .ref 178) dX3_settle_55 FX3 8 wd989 (by decide) (tc169 hC) rfl rfl 58 rfl ?_
            refine pv_iload (M := mX3_settle) dX3_settle_58 60 rfl rfl ?_
            refine iv_iald (M := mX3_settle) (X := v62.toInt) (l1 := (-2147483648)) (l2 := 2147483647) dX3_settle_60 (tc178 hC) rfl (by omega) (by omega) I54 (fun _ => rfl) 61 rfl (fun v65 ev65 pv65 qv65 => ?_)
            have k61 : v65.toInt = Tn m pp y10.toInt.toNat := (congrArg Int32.toInt (ev65.trans (k8t _))).trans (by unfold Tn; rw [k36])
            refine pv_istore_n (M := mX3_settle) 2 (lo2 := [.ref 169, .int x0, .int v65, .long y9, pv_U, .int y10, .int v62]) dX3_settle_61 62 rfl rfl (by decide) rfl rfl ?_
            refine pv_aload_n (M := mX3_settle) 0 dX3_settle_62 63 rfl rfl rfl ?_
            refine mv_get (M := mX3_settle) (v := .ref 179) dX3_settle_63 FX3 9 wd990 (by decide) (tc169 hC) rfl rfl 66 rfl ?_
            refine pv_iload (M := mX3_settle) dX3_settle_66 68 rfl rfl ?_
            refine iv_lald (M := mX3_settle) (X := v62.toInt) dX3_settle_68 (tc179 hC) rfl (by omega) (by omega) 69 rfl (fun v67 ev67 => ?_)
            refine pv_lstore_n (M := mX3_settle) 3 (lo2 := [.ref 169, .int x0, .int v65, .long v67, pv_U, .int y10, .int v62]) dX3_settle_69 70 rfl rfl (by decide) rfl rfl ?_
            refine pv_goto (M := mX3_settle) (tgt := 94) dX3_settle_70 (by decide) ?_
            refine iv_inc (M := mX3_settle) (C := 1) dX3_settle_94 97 rfl rfl (by decide) rfl rfl (by decide) (by omega) (by omega) (fun v68 ev68 => ?_)
            show PV _ _ _ _ _ _ _ 97 [.ref 169, .int x0, .int v65, .long v67, pv_U, .int v68, .int v62] [] _
            refine pv_goto (M := mX3_settle) (tgt := 11) dX3_settle_97 (by decide) ?_
            refine pv_fg (lo2 := [.ref 169, .int x0, .int v65, .long v67, pv_U, .int v68, pv_U]) ⟨Or.inr rfl, ⟨Or.inr rfl, ⟨Or.inr rfl, ⟨Or.inr rfl, ⟨Or.inl rfl, ⟨Or.inr rfl, ⟨Or.inl rfl, trivial⟩⟩⟩⟩⟩⟩⟩ ?_
            have kbA : AHe m52 pp v68.toInt.toNat := by rw [show v68.toInt.toNat = (y10.toInt).toNat + 1 by omega]; first | exact kA2 | exact AHe_skip kg1 (by omega) (by omega)
            have kbM : MNE m pp v68.toInt.toNat v65.toInt := by rw [show v68.toInt.toNat = (y10.toInt).toNat + 1 by omega]; first | exact MNE_hit kg2 kne rfl kTn.1 (by omega) | exact MNE_skip kg2 (skip_of (by omega) kL (AHe_m1 kg1 (by omega) (by omega)))
            have kb8 : ∀ j, m52 178 j = m 178 j := by first | exact k8t | exact kg8
            exact ih17 v65 v67 v68 m52 n53 (by first | omega | assumption | exact (iv_rng _).2 | exact (iv_rng _).1 | decide) (by first | omega | assumption | exact (iv_rng _).2 | exact (iv_rng _).1 | decide) (by first | omega | assumption | exact (iv_rng _).2 | exact (iv_rng _).1 | decide) (by first | omega | assumption | exact (iv_rng _).2 | exact (iv_rng _).1 | decide) kbA kbM kb8 I54 K55 (by omega)
          · have c64 := iv_ne (X := y8.toInt) (Y := (-1)) c64 rfl (by decide)
            refine pv_aload_n (M := mX3_settle) 0 dX3_settle_43 44 rfl rfl rfl ?_
            refine mv_get (M := mX3_settle) (v := .ref 178) dX3_settle_44 FX3 8 wd989 (by decide) (tc169 hC) rfl rfl 47 rfl ?_
            refine pv_iload (M := mX3_settle) dX3_settle_47 49 rfl rfl ?_
            refine iv_iald (M := mX3_settle) (X := v62.toInt) (l1 := (-2147483648)) (l2 := 2147483647) dX3_settle_49 (tc178 hC) rfl (by omega) (by omega) I54 (fun _ => rfl) 50 rfl (fun v72 ev72 pv72 qv72 => ?_)
            have k50 : v72.toInt = Tn m pp y10.toInt.toNat := (congrArg Int32.toInt (ev72.trans (k8t _))).trans (by unfold Tn; rw [k36])
            refine pv_iload_n (M := mX3_settle) 2 dX3_settle_50 51 rfl rfl rfl ?_
            refine pv_icmp_ge (M := mX3_settle) (tgt := 73) dX3_settle_51 54 rfl (by decide) (fun c74 => ?_) (fun c74 => ?_)
            · have c74 := iv_le (X := y8.toInt) (Y := v72.toInt) c74 rfl rfl
              refine pv_aload_n (M := mX3_settle) 0 dX3_settle_73 74 rfl rfl rfl ?_
              refine mv_get (M := mX3_settle) (v := .ref 178) dX3_settle_74 FX3 8 wd989 (by decide) (tc169 hC) rfl rfl 77 rfl ?_
              refine pv_iload (M := mX3_settle) dX3_settle_77 79 rfl rfl ?_
              refine iv_iald (M := mX3_settle) (X := v62.toInt) (l1 := (-2147483648)) (l2 := 2147483647) dX3_settle_79 (tc178 hC) rfl (by omega) (by omega) I54 (fun _ => rfl) 80 rfl (fun v75 ev75 pv75 qv75 => ?_)
              have k80b : v75.toInt = Tn m pp y10.toInt.toNat := (congrArg Int32.toInt (ev75.trans (k8t _))).trans (by unfold Tn; rw [k36])
              refine pv_iload_n (M := mX3_settle) 2 dX3_settle_80 81 rfl rfl rfl ?_
              refine pv_icmp_ne (M := mX3_settle) (tgt := 94) dX3_settle_81 84 rfl (by decide) (fun c77 => ?_) (fun c77 => ?_)
              · have c77 := iv_ne (X := v75.toInt) (Y := y8.toInt) c77 rfl rfl
                refine iv_inc (M := mX3_settle) (C := 1) dX3_settle_94 97 rfl rfl (by decide) rfl rfl (by decide) (by omega) (by omega) (fun v78 ev78 => ?_)
                show PV _ _ _ _ _ _ _ 97 [.ref 169, .int x0, .int y8, .long y9, pv_U, .int v78, .int v62] [] _
                refine pv_goto (M := mX3_settle) (tgt := 11) dX3_settle_97 (by decide) ?_
                refine pv_fg (lo2 := [.ref 169, .int x0, .int y8, .long y9, pv_U, .int v78, pv_U]) ⟨Or.inr rfl, ⟨Or.inr rfl, ⟨Or.inr rfl, ⟨Or.inr rfl, ⟨Or.inl rfl, ⟨Or.inr rfl, ⟨Or.inl rfl, trivial⟩⟩⟩⟩⟩⟩⟩ ?_
                have kbA : AHe m52 pp v78.toInt.toNat := by rw [show v78.toInt.toNat = (y10.toInt).toNat + 1 by omega]; first | exact kA2 | exact AHe_skip kg1 (by omega) (by omega)
                have kbM : MNE m pp v78.toInt.toNat y8.toInt := by rw [show v78.toInt.toNat = (y10.toInt).toNat + 1 by omega]; first | exact MNE_hit kg2 kne rfl kTn.1 (by omega) | exact MNE_skip kg2 (skip_of (by omega) kL (AHe_m1 kg1 (by omega) (by omega)))
                have kb8 : ∀ j, m52 178 j = m 178 j := by first | exact k8t | exact kg8
                exact ih17 y8 y9 v78 m52 n53 (by first | omega | assumption | exact (iv_rng _).2 | exact (iv_rng _).1 | decide) (by first | omega | assumption | exact (iv_rng _).2 | exact (iv_rng _).1 | decide) (by first | omega | assumption | exact (iv_rng _).2 | exact (iv_rng _).1 | decide) (by first | omega | assumption | exact (iv_rng _).2 | exact (iv_rng _).1 | decide) kbA kbM kb8 I54 K55 (by omega)
              · have c77 := iv_eq (X := v75.toInt) (Y := y8.toInt) c77 rfl rfl
                refine pv_lload_n (M := mX3_settle) 3 dX3_settle_84 85 rfl rfl rfl ?_
                refine pv_aload_n (M := mX3_settle) 0 dX3_settle_85 86 rfl rfl rfl ?_
                refine mv_get (M := mX3_settle) (v := .ref 179) dX3_settle_86 FX3 9 wd990 (by decide) (tc169 hC) rfl rfl 89 rfl ?_
                refine pv_iload (M := mX3_settle) dX3_settle_89 91 rfl rfl ?_
                refine iv_lald (M := mX3_settle) (X := v62.toInt) dX3_settle_91 (tc179 hC) rfl (by omega) (by omega) 92 rfl (fun v82 ev82 => ?_)
                refine iv_addJ (M := mX3_settle) dX3_settle_92 93 rfl (fun v83 ev83 => ?_)
                refine pv_lstore_n (M := mX3_settle) 3 (lo2 := [.ref 169, .int x0, .int y8, .long v83, pv_U, .int y10, .int v62]) dX3_settle_93 94 rfl rfl (by decide) rfl rfl ?_
                refine iv_inc (M := mX3_settle) (C := 1) dX3_settle_94 97 rfl rfl (by decide) rfl rfl (by decide) (by omega) (by omega) (fun v84 ev84 => ?_)
                show PV _ _ _ _ _ _ _ 97 [.ref 169, .int x0, .int y8, .long v83, pv_U, .int v84, .int v62] [] _
                refine pv_goto (M := mX3_settle) (tgt := 11) dX3_settle_97 (by decide) ?_
                refine pv_fg (lo2 := [.ref 169, .int x0, .int y8, .long v83, pv_U, .int v84, pv_U]) ⟨Or.inr rfl, ⟨Or.inr rfl, ⟨Or.inr rfl, ⟨Or.inr rfl, ⟨Or.inl rfl, ⟨Or.inr rfl, ⟨Or.inl rfl, trivial⟩⟩⟩⟩⟩⟩⟩ ?_
                have kbA : AHe m52 pp v84.toInt.toNat := by rw [show v84.toInt.toNat = (y10.toInt).toNat + 1 by omega]; first | exact kA2 | exact AHe_skip kg1 (by omega) (by omega)
                have kbM : MNE m pp v84.toInt.toNat y8.toInt := by rw [show v84.toInt.toNat = (y10.toInt).toNat + 1 by omega]; first | exact MNE_hit kg2 kne rfl kTn.1 (by omega) | exact MNE_skip kg2 (skip_of (by omega) kL (AHe_m1 kg1 (by omega) (by omega)))
                have kb8 : ∀ j, m52 178 j = m 178 j := by first | exact k8t | exact kg8
                exact ih17 y8 v83 v84 m52 n53 (by first | omega | assumption | exact (iv_rng _).2 | exact (iv_rng _).1 | decide) (by first | omega | assumption | exact (iv_rng _).2 | exact (iv_rng _).1 | decide) (by first | omega | assumption | exact (iv_rng _).2 | exact (iv_rng _).1 | decide) (by first | omega | assumption | exact (iv_rng _).2 | exact (iv_rng _).1 | decide) kbA kbM kb8 I54 K55 (by omega)
            · have c74 := iv_nle (X := y8.toInt) (Y := v72.toInt) c74 rfl rfl
              refine pv_aload_n (M := mX3_settle) 0 dX3_settle_54 55 rfl rfl rfl ?_
              refine mv_get (M := mX3_settle) (v := .ref 178) dX3_settle_55 FX3 8 wd989 (by decide) (tc169 hC) rfl rfl 58 rfl ?_
              refine pv_iload (M := mX3_settle) dX3_settle_58 60 rfl rfl ?_
              refine iv_iald (M := mX3_settle) (X := v62.toInt) (l1 := (-2147483648)) (l2 := 2147483647) dX3_settle_60 (tc178 hC) rfl (by omega) (by omega) I54 (fun _ => rfl) 61 rfl (fun v88 ev88 pv88 qv88 => ?_)
              have k61 : v88.toInt = Tn m pp y10.toInt.toNat := (congrArg Int32.toInt (ev88.trans (k8t _))).trans (by unfold Tn; rw [k36])
              refine pv_istore_n (M := mX3_settle) 2 (lo2 := [.ref 169, .int x0, .int v88, .long y9, pv_U, .int y10, .int v62]) dX3_settle_61 62 rfl rfl (by decide) rfl rfl ?_
              refine pv_aload_n (M := mX3_settle) 0 dX3_settle_62 63 rfl rfl rfl ?_
              refine mv_get (M := mX3_settle) (v := .ref 179) dX3_settle_63 FX3 9 wd990 (by decide) (tc169 hC) rfl rfl 66 rfl ?_
              refine pv_iload (M := mX3_settle) dX3_settle_66 68 rfl rfl ?_
              refine iv_lald (M := mX3_settle) (X := v62.toInt) dX3_settle_68 (tc179 hC) rfl (by omega) (by omega) 69 rfl (fun v90 ev90 => ?_)
              refine pv_lstore_n (M := mX3_settle) 3 (lo2 := [.ref 169, .int x0, .int v88, .long v90, pv_U, .int y10, .int v62]) dX3_settle_69 70 rfl rfl (by decide) rfl rfl ?_
              refine pv_goto (M := mX3_settle) (tgt := 94) dX3_settle_70 (by decide) ?_
              refine iv_inc (M := mX3_settle) (C := 1) dX3_settle_94 97 rfl rfl (by decide) rfl rfl (by decide) (by omega) (by omega) (fun v91 ev91 => ?_)
              show PV _ _ _ _ _ _ _ 97 [.ref 169, .int x0, .int v88, .long v90, pv_U, .int v91, .int v62] [] _
              refine pv_goto (M := mX3_settle) (tgt := 11) dX3_settle_97 (by decide) ?_
              refine pv_fg (lo2 := [.ref 169, .int x0, .int v88, .long v90, pv_U, .int v91, pv_U]) ⟨Or.inr rfl, ⟨Or.inr rfl, ⟨Or.inr rfl, ⟨Or.inr rfl, ⟨Or.inl rfl, ⟨Or.inr rfl, ⟨Or.inl rfl, trivial⟩⟩⟩⟩⟩⟩⟩ ?_
              have kbA : AHe m52 pp v91.toInt.toNat := by rw [show v91.toInt.toNat = (y10.toInt).toNat + 1 by omega]; first | exact kA2 | exact AHe_skip kg1 (by omega) (by omega)
              have kbM : MNE m pp v91.toInt.toNat v88.toInt := by rw [show v91.toInt.toNat = (y10.toInt).toNat + 1 by omega]; first | exact MNE_hit kg2 kne rfl kTn.1 (by omega) | exact MNE_skip kg2 (skip_of (by omega) kL (AHe_m1 kg1 (by omega) (by omega)))
              have kb8 : ∀ j, m52 178 j = m 178 j := by first | exact k8t | exact kg8
              exact ih17 v88 v90 v91 m52 n53 (by first | omega | assumption | exact (iv_rng _).2 | exact (iv_rng _).1 | decide) (by first | omega | assumption | exact (iv_rng _).2 | exact (iv_rng _).1 | decide) (by first | omega | assumption | exact (iv_rng _).2 | exact (iv_rng _).1 | decide) (by first | omega | assumption | exact (iv_rng _).2 | exact (iv_rng _).1 | decide) kbA kbM kb8 I54 K55 (by omega)
  have z95 : ((-1) : Int32).toInt = (-1) := by decide
  have z96 : (0 : Int32).toInt = 0 := by decide
  exact lp16 (((4 - 0) : Int).toNat + 1) (-1) 1 0 m2 n3 (by first | omega | assumption | exact (iv_rng _).2 | exact (iv_rng _).1 | decide) (by first | omega | assumption | exact (iv_rng _).2 | exact (iv_rng _).1 | decide) (by first | omega | assumption | exact (iv_rng _).2 | exact (iv_rng _).1 | decide) (by first | omega | assumption | exact (iv_rng _).2 | exact (iv_rng _).1 | decide) kA0 MNE_0 k80 I4 K5 (by omega)

set_option maxHeartbeats 2000000 in
set_option maxRecDepth 20000 in
theorem s_X3_trace_ve (g : pv_G) {T : List mv_T} {m : Nat → Nat → Int32} {n : Nat → Nat → Int64} {r : Nat → Value} (hT : TX T) (I : IV BB m) (hC : TC T) {pp qq : Nat → Nat} (P : PX T r pp qq) (hp0 : Dj pp) (hp1 : S12 (szp m pp)) (hp2 : APx m pp) (hp3 : 0 ≤ (m 178 0).toInt) (hp4 : (m 178 0).toInt ≤ 48) : PM g mX3_trace yX3_trace (sqVn T BB (wl [(170, 171, none), (175, 175, none), (177, 177, none)]) r m (fun m' n' => nE n n' ∧ ((m' 170 1).toInt = (m 178 0).toInt))) 3 0 0 [.ref 169] (mk T m n r) := by
  have Kp : fr (wl [(170, 171, none), (175, 175, none), (177, 177, none)]) m m := fr.rf
  have NKp : nE n n := nE.rf
  have z138 : 0 ≤ (m 170 1).toInt ∧ (m 170 1).toInt ≤ 48 := I 170 1
  refine PM.of 7 (lo := [.ref 169, pv_U, pv_U, pv_U, pv_U, pv_U, pv_U, pv_U]) rfl (by decide) rfl rfl (Nat.le_of_ble_eq_true rfl) ?_
  refine pv_aload_n (M := mX3_trace) 0 dX3_trace_0 1 rfl rfl rfl ?_
  refine mv_get (M := mX3_trace) (v := .ref 170) dX3_trace_1 FX3 0 wd979 (by decide) (tc169 hC) rfl rfl 4 rfl ?_
  refine pv_iconst (M := mX3_trace) (v := 0) dX3_trace_4 5 rfl (by decide) ?_
  refine iv_put (M := mX3_trace) (l1 := 0) (l2 := 48) dX3_trace_5 FX8 1 wd197 (by decide) rfl (tc170 hC) rfl rfl rfl I rfl (by decide) (by decide) 8 rfl (fun m1 e4 I2 => ?_)
  have K3 := Kp.set e4 rfl
  have NK3 := NKp
  have w5 : (m1 170 1).toInt = 0 := by rw [e4, up2_eq] <;> rfl
  refine pv_aload_n (M := mX3_trace) 0 dX3_trace_8 9 rfl rfl rfl ?_
  refine mv_get (M := mX3_trace) (v := .ref 175) dX3_trace_9 FX3 5 wd986 (by decide) (tc169 hC) rfl rfl 12 rfl ?_
  refine pv_iconst (M := mX3_trace) (v := 0) dX3_trace_12 13 rfl (by decide) ?_
  have z6 : (0 : Int32).toInt = 0 := by decide
  refine pv_calls (M := mX3_trace) (as := [.ref 175, .int 0]) (st := []) (kc2 := 0) (ks2 := 0) dX3_trace_13 wd1037 YJ7_fill_53178 wd896 (s_J7_fill_53178 g hT I2 175 4 (-1) 12 ⟨(tc175 hC), (fun _ => rfl), by decide⟩ 0 (by first | omega | assumption | exact (iv_rng _).2 | exact (iv_rng _).1 | decide) (by first | omega | assumption | exact (iv_rng _).2 | exact (iv_rng _).1 | decide)) rfl rfl (Nat.le_of_ble_eq_true rfl) (by decide) rfl rfl 16 rfl (fun rv h1 q7 => ?_)
  obtain ⟨m8, n9, rfl, rfl, I10, K11, rm8⟩ := q7
  have NK11c := rm8.1
  replace rm8 := rm8.2
  replace rm8 : ∀ j : Nat, j < 4 → m8 175 j = (0 : Int32) := by have q_ := rm8; (try rw [z6] at q_); exact q_
  have K11c := K11
  have w12 : (m8 170 1).toInt = (m1 170 1).toInt := congrArg Int32.toInt (K11 170 1 (wr_out (by decide)))
  have NK11 := nE.trans NK3 NK11c
  have K11 := K3.trans (K11.sub (wl_sub (by decide)))
  show PV _ _ _ _ _ _ _ 16 [.ref 169, pv_U, pv_U, pv_U, pv_U, pv_U, pv_U, pv_U] [] _
  have kC0 : CK m8 pp 0 := CK_0 hp1 hp2 (fun b j h => K11 b j (wo_t (by omega))) hp0 (fun d hd => by rw [rm8 d (by omega)]; exact Int32.toInt_zero)
  have k16z : (m8 170 1).toInt = 0 := by have z := congrArg Int32.toInt (K11c 170 1 (wr_out (by omega))); rw [z, e4, up2_eq]; decide
  refine pv_iconst (M := mX3_trace) (v := 0) dX3_trace_16 17 rfl (by decide) ?_
  refine pv_istore_n (M := mX3_trace) 1 (lo2 := [.ref 169, .int 0, pv_U, pv_U, pv_U, pv_U, pv_U, pv_U]) dX3_trace_17 18 rfl rfl (by decide) rfl rfl ?_
  refine pv_aload_n (M := mX3_trace) 0 dX3_trace_18 19 rfl rfl rfl ?_
  refine mv_get (M := mX3_trace) (v := .ref 178) dX3_trace_19 FX3 8 wd989 (by decide) (tc169 hC) rfl rfl 22 rfl ?_
  refine pv_iconst (M := mX3_trace) (v := 0) dX3_trace_22 23 rfl (by decide) ?_
  refine iv_iald (M := mX3_trace) (X := 0) (l1 := (-2147483648)) (l2 := 2147483647) dX3_trace_23 (tc178 hC) (by decide) (by omega) (by omega) I10 (fun _ => rfl) 24 rfl (fun v15 ev15 pv15 qv15 => ?_)
  have k24 : v15.toInt = (m 178 0).toInt := congrArg Int32.toInt (ev15.trans (K11 178 _ (wo_t (by omega))))
  refine pv_istore_n (M := mX3_trace) 2 (lo2 := [.ref 169, .int 0, .int v15, pv_U, pv_U, pv_U, pv_U, pv_U]) dX3_trace_24 25 rfl rfl (by decide) rfl rfl ?_
  have lp24 : ∀ (fuel23 : Nat) (y17 : Int32) (y18 : Int32) (m19 : Nat → Nat → Int32) (n20 : Nat → Nat → Int64), (0 ≤ y17.toInt) → (y17.toInt ≤ 28560) → (-2147483648 ≤ y18.toInt) → (y18.toInt ≤ 48) → (CK m19 pp y17.toInt) → ((m19 170 1).toInt = (m 178 0).toInt - y18.toInt) → (0 ≤ y18.toInt) → IV BB m19 → fr (wl [(170, 171, none), (175, 175, none), (177, 177, none)]) m m19 → nE n n20 → ((y18.toInt - (-2147483648)) : Int).toNat < fuel23 → PV none g mX3_trace (sqVn T BB (wl [(170, 171, none), (175, 175, none), (177, 177, none)]) r m (fun m' n' => nE n n' ∧ ((m' 170 1).toInt = (m 178 0).toInt))) 3 0 0 25 [.ref 169, .int y17, .int y18, pv_U, pv_U, pv_U, pv_U, pv_U] [] (mk T m19 n20 r) := by
    intro fuel23
    induction fuel23 with
    | zero => intro y17 y18 m19 n20 b26 b27 b28 b29 b30 b31 b32 I21 K22 NK22 z33; omega
    | succ fuel23 ih25 =>
      intro y17 y18 m19 n20 b26 b27 b28 b29 b30 b31 b32 I21 K22 NK22 z33
      have z34 : 0 ≤ (m19 170 1).toInt ∧ (m19 170 1).toInt ≤ 48 := I21 170 1
      have kC := (show CK m19 pp y17.toInt by assumption)
      refine pv_iload_n (M := mX3_trace) 2 dX3_trace_25 26 rfl rfl rfl ?_
      refine pv_if_le (M := mX3_trace) (tgt := 129) dX3_trace_26 29 rfl (by decide) (fun c36 => ?_) (fun c36 => ?_)
      · have c36 := iv_le (X := y18.toInt) (Y := 0) c36 rfl (by decide)
        exact pv_vret (M := mX3_trace) dX3_trace_129 rfl ⟨_, _, rfl, rfl, I21, K22, ⟨NK22, (by omega)⟩⟩
      · have c36 := iv_nle (X := y18.toInt) (Y := 0) c36 rfl (by decide)
        refine pv_aload_n (M := mX3_trace) 0 dX3_trace_29 30 rfl rfl rfl ?_
        refine pv_callv (M := mX3_trace) (as := []) (st := []) (kc2 := 0) (ks2 := 0) dX3_trace_30 wd1025 YX3_lookAhead ⟨wd1027, wd41⟩ (mk_get (tc169 hC)) rfl rfl (s_X3_lookAhead g hT I21 hC P hp0 kC.2.1) rfl rfl (Nat.le_of_ble_eq_true rfl) (by decide) rfl rfl 33 rfl (fun rv h1 q37 => ?_)
        obtain ⟨m38, n39, rfl, rfl, I40, K41, rm38⟩ := q37
        have NK41c := rm38.1
        replace rm38 := rm38.2
        replace rm38 : ∀ d, d < 4 → (m38 177 d).toInt = lap m19 pp d := rm38
        have K41c := K41
        have w42 : (m38 170 1).toInt = (m19 170 1).toInt := congrArg Int32.toInt (K41 170 1 (wr_out (by decide)))
        have NK41 := nE.trans NK22 NK41c
        have K41 := K22.trans (K41.sub (wl_sub (by decide)))
        show PV _ _ _ _ _ _ _ 33 [.ref 169, .int y17, .int y18, pv_U, pv_U, pv_U, pv_U, pv_U] [] _
        have kC1 : CK m38 pp y17.toInt := CK_eq kC (fun b j h => K41c b j (wr_out (by omega))) hp0
        have kA1 : AHx m38 pp := fun d hd => Or.inl ((rm38 d hd).trans (lap_eq (fun b hb => funext fun j => (K41c b j (wr_out (by omega)))) hp0 d hd).symm)
        refine pv_bipush (M := mX3_trace) (v := 26) dX3_trace_33 35 rfl (by decide) ?_
        refine pv_istore_n (M := mX3_trace) 3 (lo2 := [.ref 169, .int y17, .int y18, .int 26, pv_U, pv_U, pv_U, pv_U]) dX3_trace_35 36 rfl rfl (by decide) rfl rfl ?_
        refine pv_iconst (M := mX3_trace) (v := 0) dX3_trace_36 37 rfl (by decide) ?_
        refine pv_istore (M := mX3_trace) (lo2 := [.ref 169, .int y17, .int y18, .int 26, .int 0, pv_U, pv_U, pv_U]) dX3_trace_37 39 rfl (by decide) rfl rfl ?_
        refine pv_iconst (M := mX3_trace) (v := 0) dX3_trace_39 40 rfl (by decide) ?_
        refine pv_istore (M := mX3_trace) (lo2 := [.ref 169, .int y17, .int y18, .int 26, .int 0, .int 0, pv_U, pv_U]) dX3_trace_40 42 rfl (by decide) rfl rfl ?_
        have lp53 : ∀ (fuel52 : Nat) (y45 : Int32) (y46 : Int32) (y47 : Int32) (m48 : Nat → Nat → Int32) (n49 : Nat → Nat → Int64), (-2147483648 ≤ y45.toInt) → (y45.toInt ≤ 26) → (0 ≤ y46.toInt) → (y46.toInt ≤ 28560) → (0 ≤ y47.toInt) → (y47.toInt ≤ 4) → (CK m48 pp y17.toInt) → (AHx m48 pp) → (y45.toInt ≠ -1) → (y46.toInt ≤ wn (szp m48 pp) (hw m48 pp y45.toInt) 4) → ((m48 170 1).toInt = (m19 170 1).toInt) → IV BB m48 → fr (wl [(170, 171, none), (175, 175, none), (177, 177, none)]) m m48 → nE n n49 → ((4 - y47.toInt) : Int).toNat < fuel52 → PV none g mX3_trace (sqVn T BB (wl [(170, 171, none), (175, 175, none), (177, 177, none)]) r m (fun m' n' => nE n n' ∧ ((m' 170 1).toInt = (m 178 0).toInt))) 3 0 0 42 [.ref 169, .int y17, .int y18, .int y45, .int y46, .int y47, pv_U, pv_U] [] (mk T m48 n49 r) := by
          intro fuel52
          induction fuel52 with
          | zero => intro y45 y46 y47 m48 n49 b55 b56 b57 b58 b59 b60 b61 b62 b63 b64 b65 I50 K51 NK51 z66; omega
          | succ fuel52 ih54 =>
            intro y45 y46 y47 m48 n49 b55 b56 b57 b58 b59 b60 b61 b62 b63 b64 b65 I50 K51 NK51 z66
            have z67 : 0 ≤ (m48 170 1).toInt ∧ (m48 170 1).toInt ≤ 48 := I50 170 1
            have kg1 := (show CK m48 pp y17.toInt by assumption)
            have kg2 := (show AHx m48 pp by assumption)
            have kg3 := (show y45.toInt ≠ -1 by assumption)
            have kg4 := (show y46.toInt ≤ wn (szp m48 pp) (hw m48 pp y45.toInt) 4 by assumption)
            have kgl := CK_le kg1
            refine pv_iload (M := mX3_trace) dX3_trace_42 44 rfl rfl ?_
            refine pv_iconst (M := mX3_trace) (v := 4) dX3_trace_44 45 rfl (by decide) ?_
            refine pv_icmp_ge (M := mX3_trace) (tgt := 105) dX3_trace_45 48 rfl (by decide) (fun c73 => ?_) (fun c73 => ?_)
            · have c73 := iv_le (X := 4) (Y := y47.toInt) c73 (by decide) rfl
              refine pv_aload_n (M := mX3_trace) 0 dX3_trace_105 106 rfl rfl rfl ?_
              refine mv_get (M := mX3_trace) (v := .ref 170) dX3_trace_106 FX3 0 wd979 (by decide) (tc169 hC) rfl rfl 109 rfl ?_
              refine pv_iload_n (M := mX3_trace) 3 dX3_trace_109 110 rfl rfl rfl ?_
              refine pv_callv (M := mX3_trace) (as := [.int y45]) (st := []) (kc2 := 0) (ks2 := 0) dX3_trace_110 wd1038 YX8_add ⟨wd488, wd489⟩ (mk_get (tc170 hC)) rfl rfl (s_X8_add_vy g hT I50 170 48 (row170 hC) y45 (by omega)) rfl rfl (Nat.le_of_ble_eq_true rfl) (by decide) rfl rfl 113 rfl (fun rv h1 q74 => ?_)
              obtain ⟨m75, n76, rfl, rfl, I77, K78, rm75⟩ := q74
              have NK78c := rm75.1
              replace rm75 := rm75.2
              replace rm75 : (m75 170 1).toInt = (m48 170 1).toInt + 1 ∧ m75 (170 + 1) (m48 170 1).toInt.toNat = y45 ∧ ∀ j : Nat, j ≠ (m48 170 1).toInt.toNat → m75 (170 + 1) j = m48 (170 + 1) j := rm75
              have K78c := K78
              have NK78 := nE.trans NK51 NK78c
              have K78 := K51.trans (K78.sub (wl_sub (by decide)))
              show PV _ _ _ _ _ _ _ 113 [.ref 169, .int y17, .int y18, .int y45, .int y46, .int y47, pv_U, pv_U] [] _
              have kf3 : ∀ b j, b ≤ 76 ∨ (173 ≤ b ∧ b ≤ 176) → m75 b j = m48 b j := fun b j h => K78c b j (wr_out (by omega))
              have kC3 : CK m75 pp y17.toInt := CK_eq kg1 kf3 hp0
              have kW3 : y46.toInt ≤ wn (szp m75 pp) (hw m75 pp y45.toInt) 4 := by rw [wnh_eq kf3 hp0]; exact kg4
              have k113 := rm75.1
              refine pv_iload_n (M := mX3_trace) 1 dX3_trace_113 114 rfl rfl rfl ?_
              refine pv_iload (M := mX3_trace) dX3_trace_114 116 rfl rfl ?_
              refine iv_iadd (M := mX3_trace) (X := y17.toInt) (Y := y46.toInt) dX3_trace_116 117 rfl rfl rfl (by omega) (by omega) (fun v83 ev83 => ?_)
              refine pv_istore_n (M := mX3_trace) 1 (lo2 := [.ref 169, .int v83, .int y18, .int y45, .int y46, .int y47, pv_U, pv_U]) dX3_trace_117 118 rfl rfl (by decide) rfl rfl ?_
              refine pv_aload_n (M := mX3_trace) 0 dX3_trace_118 119 rfl rfl rfl ?_
              refine pv_iload_n (M := mX3_trace) 3 dX3_trace_119 120 rfl rfl rfl ?_
              refine pv_callv (M := mX3_trace) (as := [.int y45]) (st := []) (kc2 := 0) (ks2 := 0) dX3_trace_120 wd1039 YX3_settleLetter ⟨wd1041, wd44⟩ (mk_get (tc169 hC)) rfl rfl (s_X3_settleLetter g hT I77 hC P y45 hp0 kC3.1 kC3.2.1 (by omega)) rfl rfl (Nat.le_of_ble_eq_true rfl) (by decide) rfl rfl 123 rfl (fun rv h1 q84 => ?_)
              obtain ⟨m85, n86, rfl, rfl, I87, K88, rm85⟩ := q84
              have NK88c := rm85.1
              replace rm85 := rm85.2
              replace rm85 : ∀ d, d < 4 → (m85 175 d).toInt = atp m75 d + hw m75 pp y45.toInt d := rm85
              have K88c := K88
              have w89 : (m85 170 1).toInt = (m75 170 1).toInt := congrArg Int32.toInt (K88 170 1 (wr_out (by decide)))
              have NK88 := nE.trans NK78 NK88c
              have K88 := K78.trans (K88.sub (wl_sub (by decide)))
              show PV _ _ _ _ _ _ _ 123 [.ref 169, .int v83, .int y18, .int y45, .int y46, .int y47, pv_U, pv_U] [] _
              have kC4 : CK m85 pp v83.toInt := by rw [ev83]; exact CK_step kC3 hp0 kg3 (by omega) kW3 (fun b j h => K88c b j (wr_out (by omega))) rm85
              have kC5 := CK_le kC4
              refine iv_inc (M := mX3_trace) (C := (-1)) dX3_trace_123 126 rfl rfl (by decide) rfl rfl (by decide) (by omega) (by omega) (fun v92 ev92 => ?_)
              show PV _ _ _ _ _ _ _ 126 [.ref 169, .int v83, .int v92, .int y45, .int y46, .int y47, pv_U, pv_U] [] _
              refine pv_goto (M := mX3_trace) (tgt := 25) dX3_trace_126 (by decide) ?_
              refine pv_fg (lo2 := [.ref 169, .int v83, .int v92, pv_U, pv_U, pv_U, pv_U, pv_U]) ⟨Or.inr rfl, ⟨Or.inr rfl, ⟨Or.inr rfl, ⟨Or.inl rfl, ⟨Or.inl rfl, ⟨Or.inl rfl, ⟨Or.inl rfl, ⟨Or.inl rfl, trivial⟩⟩⟩⟩⟩⟩⟩⟩ ?_
              exact ih25 v83 v92 m85 n86 (by first | omega | assumption | exact (iv_rng _).2 | exact (iv_rng _).1 | decide) (by first | omega | assumption | exact (iv_rng _).2 | exact (iv_rng _).1 | decide) (by first | omega | assumption | exact (iv_rng _).2 | exact (iv_rng _).1 | decide) (by first | omega | assumption | exact (iv_rng _).2 | exact (iv_rng _).1 | decide) kC4 (by first | omega | assumption | (show (m85 170 1).toInt = (m 178 0).toInt - v92.toInt; omega) | decide) (by first | omega | assumption | (show 0 ≤ v92.toInt; omega) | decide) I87 K88 NK88 (by omega)
            · have c73 := iv_nle (X := 4) (Y := y47.toInt) c73 (by decide) rfl
              refine pv_aload_n (M := mX3_trace) 0 dX3_trace_48 49 rfl rfl rfl ?_
              refine mv_get (M := mX3_trace) (v := .ref 177) dX3_trace_49 FX3 7 wd988 (by decide) (tc169 hC) rfl rfl 52 rfl ?_
              refine pv_iload (M := mX3_trace) dX3_trace_52 54 rfl rfl ?_
              refine iv_iald (M := mX3_trace) (X := y47.toInt) (l1 := (-2147483648)) (l2 := 2147483647) dX3_trace_54 (tc177 hC) rfl (by omega) (by omega) I50 (fun _ => rfl) 55 rfl (fun v93 ev93 pv93 qv93 => ?_)
              have k55 : v93.toInt = (m48 177 y47.toInt.toNat).toInt := congrArg Int32.toInt ev93
              refine pv_istore (M := mX3_trace) (lo2 := [.ref 169, .int y17, .int y18, .int y45, .int y46, .int y47, .int v93, pv_U]) dX3_trace_55 57 rfl (by decide) rfl rfl ?_
              refine pv_iload (M := mX3_trace) dX3_trace_57 59 rfl rfl ?_
              refine pv_iconst (M := mX3_trace) (v := (-1)) dX3_trace_59 60 rfl (by decide) ?_
              refine pv_icmp_eq (M := mX3_trace) (tgt := 99) dX3_trace_60 63 rfl (by decide) (fun c95 => ?_) (fun c95 => ?_)
              · have c95 := iv_eq (X := v93.toInt) (Y := (-1)) c95 rfl (by decide)
                refine iv_inc (M := mX3_trace) (C := 1) dX3_trace_99 102 rfl rfl (by decide) rfl rfl (by decide) (by omega) (by omega) (fun v96 ev96 => ?_)
                show PV _ _ _ _ _ _ _ 102 [.ref 169, .int y17, .int y18, .int y45, .int y46, .int v96, .int v93, pv_U] [] _
                refine pv_goto (M := mX3_trace) (tgt := 42) dX3_trace_102 (by decide) ?_
                refine pv_fg (lo2 := [.ref 169, .int y17, .int y18, .int y45, .int y46, .int v96, pv_U, pv_U]) ⟨Or.inr rfl, ⟨Or.inr rfl, ⟨Or.inr rfl, ⟨Or.inr rfl, ⟨Or.inr rfl, ⟨Or.inr rfl, ⟨Or.inl rfl, ⟨Or.inl rfl, trivial⟩⟩⟩⟩⟩⟩⟩⟩ ?_
                have kb1 : CK m48 pp y17.toInt := by first | exact kg1 | exact kC2
                have kb2 : AHx m48 pp := by first | exact kg2 | exact kA2
                have kb3 : y45.toInt ≠ -1 := by first | exact kg3 | omega
                have kb4 : y46.toInt ≤ wn (szp m48 pp) (hw m48 pp y45.toInt) 4 := by first | exact kg4 | (rw [kW2]; exact kg4) | (rw [kW2, k55]; exact k69)
                exact ih54 y45 y46 v96 m48 n49 (by first | omega | assumption | exact (iv_rng _).2 | exact (iv_rng _).1 | decide) (by first | omega | assumption | exact (iv_rng _).2 | exact (iv_rng _).1 | decide) (by first | omega | assumption | exact (iv_rng _).2 | exact (iv_rng _).1 | decide) (by first | omega | assumption | exact (iv_rng _).2 | exact (iv_rng _).1 | decide) (by first | omega | assumption | exact (iv_rng _).2 | exact (iv_rng _).1 | decide) (by first | omega | assumption | exact (iv_rng _).2 | exact (iv_rng _).1 | decide) kb1 kb2 kb3 kb4 (by first | omega | assumption | (show (m48 170 1).toInt = (m19 170 1).toInt; omega) | decide) I50 K51 NK51 (by omega)
              · have c95 := iv_ne (X := v93.toInt) (Y := (-1)) c95 rfl (by decide)
                refine pv_aload_n (M := mX3_trace) 0 dX3_trace_63 64 rfl rfl rfl ?_
                refine pv_iload (M := mX3_trace) dX3_trace_64 66 rfl rfl ?_
                refine pv_callv (M := mX3_trace) (as := [.int y47]) (st := []) (kc2 := 0) (ks2 := 0) dX3_trace_66 wd1029 YX3_takeLetter ⟨wd1031, wd42⟩ (mk_get (tc169 hC)) rfl rfl (s_X3_takeLetter g hT I50 hC P y47 (by omega) (by omega) hp0 kg1.1 kg1.2.1 kg1.2.2.1 kg2 (by omega)) rfl rfl (Nat.le_of_ble_eq_true rfl) (by decide) rfl rfl 69 rfl (fun rv h1 q101 => ?_)
                obtain ⟨m102, n103, v106, rfl, rfl, I104, K105, pv106, qv106, rv106⟩ := q101
                have NK105c := rv106.1
                replace rv106 := rv106.2
                replace rv106 : v106.toInt ≤ wn (szp m48 pp) (hw m48 pp (m48 177 y47.toInt.toNat).toInt) 4 ∧ AHx m102 pp := rv106
                have K105c := K105
                have w107 : (m102 170 1).toInt = (m48 170 1).toInt := congrArg Int32.toInt (K105 170 1 (wr_out (by decide)))
                have NK105 := nE.trans NK51 NK105c
                have K105 := K51.trans (K105.sub (wl_sub (by decide)))
                show PV _ _ _ _ _ _ _ 69 [.ref 169, .int y17, .int y18, .int y45, .int y46, .int y47, .int v93, pv_U] [.int v106] _
                have k69 := rv106.1
                have kA2 := rv106.2
                have kf2 : ∀ b j, b ≤ 76 ∨ (173 ≤ b ∧ b ≤ 176) → m102 b j = m48 b j := fun b j h => K105c b j (wr_out (by omega))
                have kC2 : CK m102 pp y17.toInt := CK_eq kg1 kf2 hp0
                have kW2 := wnh_eq kf2 hp0
                have k69b : y17.toInt + v106.toInt ≤ 28560 := by have a := hw_le kg1.1 kg1.2.1 (l := (m48 177 y47.toInt.toNat).toInt) (by omega); have b := kg1.2.2.2.2; omega
                refine pv_istore (M := mX3_trace) (lo2 := [.ref 169, .int y17, .int y18, .int y45, .int y46, .int y47, .int v93, .int v106]) dX3_trace_69 71 rfl (by decide) rfl rfl ?_
                refine pv_iload (M := mX3_trace) dX3_trace_71 73 rfl rfl ?_
                refine pv_iload_n (M := mX3_trace) 3 dX3_trace_73 74 rfl rfl rfl ?_
                refine pv_icmp_ge (M := mX3_trace) (tgt := 99) dX3_trace_74 77 rfl (by decide) (fun c114 => ?_) (fun c114 => ?_)
                · have c114 := iv_le (X := y45.toInt) (Y := v93.toInt) c114 rfl rfl
                  refine iv_inc (M := mX3_trace) (C := 1) dX3_trace_99 102 rfl rfl (by decide) rfl rfl (by decide) (by omega) (by omega) (fun v115 ev115 => ?_)
                  show PV _ _ _ _ _ _ _ 102 [.ref 169, .int y17, .int y18, .int y45, .int y46, .int v115, .int v93, .int v106] [] _
                  refine pv_goto (M := mX3_trace) (tgt := 42) dX3_trace_102 (by decide) ?_
                  refine pv_fg (lo2 := [.ref 169, .int y17, .int y18, .int y45, .int y46, .int v115, pv_U, pv_U]) ⟨Or.inr rfl, ⟨Or.inr rfl, ⟨Or.inr rfl, ⟨Or.inr rfl, ⟨Or.inr rfl, ⟨Or.inr rfl, ⟨Or.inl rfl, ⟨Or.inl rfl, trivial⟩⟩⟩⟩⟩⟩⟩⟩ ?_
                  have kb1 : CK m102 pp y17.toInt := by first | exact kg1 | exact kC2
                  have kb2 : AHx m102 pp := by first | exact kg2 | exact kA2
                  have kb3 : y45.toInt ≠ -1 := by first | exact kg3 | omega
                  have kb4 : y46.toInt ≤ wn (szp m102 pp) (hw m102 pp y45.toInt) 4 := by first | exact kg4 | (rw [kW2]; exact kg4) | (rw [kW2, k55]; exact k69)
                  exact ih54 y45 y46 v115 m102 n103 (by first | omega | assumption | exact (iv_rng _).2 | exact (iv_rng _).1 | decide) (by first | omega | assumption | exact (iv_rng _).2 | exact (iv_rng _).1 | decide) (by first | omega | assumption | exact (iv_rng _).2 | exact (iv_rng _).1 | decide) (by first | omega | assumption | exact (iv_rng _).2 | exact (iv_rng _).1 | decide) (by first | omega | assumption | exact (iv_rng _).2 | exact (iv_rng _).1 | decide) (by first | omega | assumption | exact (iv_rng _).2 | exact (iv_rng _).1 | decide) kb1 kb2 kb3 kb4 (by first | omega | assumption | (show (m102 170 1).toInt = (m19 170 1).toInt; omega) | decide) I104 K105 NK105 (by omega)
                · have c114 := iv_nle (X := y45.toInt) (Y := v93.toInt) c114 rfl rfl
                  refine pv_aload_n (M := mX3_trace) 0 dX3_trace_77 78 rfl rfl rfl ?_
                  refine mv_get (M := mX3_trace) (v := .ref 178) dX3_trace_78 FX3 8 wd989 (by decide) (tc169 hC) rfl rfl 81 rfl ?_
                  refine pv_iload_n (M := mX3_trace) 1 dX3_trace_81 82 rfl rfl rfl ?_
                  refine pv_iload (M := mX3_trace) dX3_trace_82 84 rfl rfl ?_
                  refine iv_iadd (M := mX3_trace) (X := y17.toInt) (Y := v106.toInt) dX3_trace_84 85 rfl rfl rfl (by omega) (by omega) (fun v120 ev120 => ?_)
                  refine iv_iald (M := mX3_trace) (X := v120.toInt) (l1 := (-2147483648)) (l2 := 2147483647) dX3_trace_85 (tc178 hC) rfl (by omega) (by omega) I104 (fun _ => rfl) 86 rfl (fun v121 ev121 pv121 qv121 => ?_)
                  refine pv_iload_n (M := mX3_trace) 2 dX3_trace_86 87 rfl rfl rfl ?_
                  refine pv_iconst (M := mX3_trace) (v := 1) dX3_trace_87 88 rfl (by decide) ?_
                  refine iv_isub (M := mX3_trace) (X := y18.toInt) (Y := 1) dX3_trace_88 89 rfl rfl (by decide) (by omega) (by omega) (fun v122 ev122 => ?_)
                  refine pv_icmp_ne (M := mX3_trace) (tgt := 99) dX3_trace_89 92 rfl (by decide) (fun c123 => ?_) (fun c123 => ?_)
                  · have c123 := iv_ne (X := v121.toInt) (Y := v122.toInt) c123 rfl rfl
                    refine iv_inc (M := mX3_trace) (C := 1) dX3_trace_99 102 rfl rfl (by decide) rfl rfl (by decide) (by omega) (by omega) (fun v124 ev124 => ?_)
                    show PV _ _ _ _ _ _ _ 102 [.ref 169, .int y17, .int y18, .int y45, .int y46, .int v124, .int v93, .int v106] [] _
                    refine pv_goto (M := mX3_trace) (tgt := 42) dX3_trace_102 (by decide) ?_
                    refine pv_fg (lo2 := [.ref 169, .int y17, .int y18, .int y45, .int y46, .int v124, pv_U, pv_U]) ⟨Or.inr rfl, ⟨Or.inr rfl, ⟨Or.inr rfl, ⟨Or.inr rfl, ⟨Or.inr rfl, ⟨Or.inr rfl, ⟨Or.inl rfl, ⟨Or.inl rfl, trivial⟩⟩⟩⟩⟩⟩⟩⟩ ?_
                    have kb1 : CK m102 pp y17.toInt := by first | exact kg1 | exact kC2
                    have kb2 : AHx m102 pp := by first | exact kg2 | exact kA2
                    have kb3 : y45.toInt ≠ -1 := by first | exact kg3 | omega
                    have kb4 : y46.toInt ≤ wn (szp m102 pp) (hw m102 pp y45.toInt) 4 := by first | exact kg4 | (rw [kW2]; exact kg4) | (rw [kW2, k55]; exact k69)
                    exact ih54 y45 y46 v124 m102 n103 (by first | omega | assumption | exact (iv_rng _).2 | exact (iv_rng _).1 | decide) (by first | omega | assumption | exact (iv_rng _).2 | exact (iv_rng _).1 | decide) (by first | omega | assumption | exact (iv_rng _).2 | exact (iv_rng _).1 | decide) (by first | omega | assumption | exact (iv_rng _).2 | exact (iv_rng _).1 | decide) (by first | omega | assumption | exact (iv_rng _).2 | exact (iv_rng _).1 | decide) (by first | omega | assumption | exact (iv_rng _).2 | exact (iv_rng _).1 | decide) kb1 kb2 kb3 kb4 (by first | omega | assumption | (show (m102 170 1).toInt = (m19 170 1).toInt; omega) | decide) I104 K105 NK105 (by omega)
                  · have c123 := iv_eq (X := v121.toInt) (Y := v122.toInt) c123 rfl rfl
                    refine pv_iload (M := mX3_trace) dX3_trace_92 94 rfl rfl ?_
                    refine pv_istore_n (M := mX3_trace) 3 (lo2 := [.ref 169, .int y17, .int y18, .int v93, .int y46, .int y47, .int v93, .int v106]) dX3_trace_94 95 rfl rfl (by decide) rfl rfl ?_
                    refine pv_iload (M := mX3_trace) dX3_trace_95 97 rfl rfl ?_
                    refine pv_istore (M := mX3_trace) (lo2 := [.ref 169, .int y17, .int y18, .int v93, .int v106, .int y47, .int v93, .int v106]) dX3_trace_97 99 rfl (by decide) rfl rfl ?_
                    refine iv_inc (M := mX3_trace) (C := 1) dX3_trace_99 102 rfl rfl (by decide) rfl rfl (by decide) (by omega) (by omega) (fun v129 ev129 => ?_)
                    show PV _ _ _ _ _ _ _ 102 [.ref 169, .int y17, .int y18, .int v93, .int v106, .int v129, .int v93, .int v106] [] _
                    refine pv_goto (M := mX3_trace) (tgt := 42) dX3_trace_102 (by decide) ?_
                    refine pv_fg (lo2 := [.ref 169, .int y17, .int y18, .int v93, .int v106, .int v129, pv_U, pv_U]) ⟨Or.inr rfl, ⟨Or.inr rfl, ⟨Or.inr rfl, ⟨Or.inr rfl, ⟨Or.inr rfl, ⟨Or.inr rfl, ⟨Or.inl rfl, ⟨Or.inl rfl, trivial⟩⟩⟩⟩⟩⟩⟩⟩ ?_
                    have kb1 : CK m102 pp y17.toInt := by first | exact kg1 | exact kC2
                    have kb2 : AHx m102 pp := by first | exact kg2 | exact kA2
                    have kb3 : v93.toInt ≠ -1 := by first | exact kg3 | omega
                    have kb4 : v106.toInt ≤ wn (szp m102 pp) (hw m102 pp v93.toInt) 4 := by first | exact kg4 | (rw [kW2]; exact kg4) | (rw [kW2, k55]; exact k69)
                    exact ih54 v93 v106 v129 m102 n103 (by first | omega | assumption | exact (iv_rng _).2 | exact (iv_rng _).1 | decide) (by first | omega | assumption | exact (iv_rng _).2 | exact (iv_rng _).1 | decide) (by first | omega | assumption | exact (iv_rng _).2 | exact (iv_rng _).1 | decide) (by first | omega | assumption | exact (iv_rng _).2 | exact (iv_rng _).1 | decide) (by first | omega | assumption | exact (iv_rng _).2 | exact (iv_rng _).1 | decide) (by first | omega | assumption | exact (iv_rng _).2 | exact (iv_rng _).1 | decide) kb1 kb2 kb3 kb4 (by first | omega | assumption | (show (m102 170 1).toInt = (m19 170 1).toInt; omega) | decide) I104 K105 NK105 (by omega)
        have z134 : (26 : Int32).toInt = 26 := by decide
        have z135 : (0 : Int32).toInt = 0 := by decide
        have z136 : (0 : Int32).toInt = 0 := by decide
        exact lp53 (((4 - 0) : Int).toNat + 1) 26 0 0 m38 n39 (by first | omega | assumption | exact (iv_rng _).2 | exact (iv_rng _).1 | decide) (by first | omega | assumption | exact (iv_rng _).2 | exact (iv_rng _).1 | decide) (by first | omega | assumption | exact (iv_rng _).2 | exact (iv_rng _).1 | decide) (by first | omega | assumption | exact (iv_rng _).2 | exact (iv_rng _).1 | decide) (by first | omega | assumption | exact (iv_rng _).2 | exact (iv_rng _).1 | decide) (by first | omega | assumption | exact (iv_rng _).2 | exact (iv_rng _).1 | decide) kC1 kA1 (by decide) (by rw [Int32.toInt_zero]; exact wn_b kC1.1 (fun d => (hw_b _ _ _ d).1) _ (by omega)) (by first | omega | assumption | (show (m38 170 1).toInt = (m19 170 1).toInt; omega) | decide) I40 K41 NK41 (by omega)
  have z137 : (0 : Int32).toInt = 0 := by decide
  exact lp24 (((v15.toInt - (-2147483648)) : Int).toNat + 1) 0 v15 m8 n9 (by first | omega | assumption | exact (iv_rng _).2 | exact (iv_rng _).1 | decide) (by first | omega | assumption | exact (iv_rng _).2 | exact (iv_rng _).1 | decide) (by first | omega | assumption | exact (iv_rng _).2 | exact (iv_rng _).1 | decide) (by first | omega | assumption | exact (iv_rng _).2 | exact (iv_rng _).1 | decide) kC0 (by first | omega | assumption | (show (m8 170 1).toInt = (m 178 0).toInt - v15.toInt; omega) | decide) (by first | omega | assumption | (show 0 ≤ v15.toInt; omega) | decide) I10 K11 NK11 (by omega)

set_option maxHeartbeats 2000000 in
set_option maxRecDepth 20000 in
theorem s_X3_solve_ve (g : pv_G) {T : List mv_T} {m : Nat → Nat → Int32} {n : Nat → Nat → Int64} {r : Nat → Value} (hT : TX T) (I : IV BB m) (hC : TC T) {pp qq : Nat → Nat} (P : PX T r pp qq) (hp0 : Dj pp) (hp1 : S12 (szp m pp)) : PM g mX3_solve yX3_solve (sqV T BB (wl [(170, 171, none), (175, 178, none)]) r m (fun m' => TBL m' pp 0 ∧ (m' 170 1).toInt = (m' 178 0).toInt)) 4 0 0 [.ref 169] (mk T m n r) := by
  have Kp : fr (wl [(170, 171, none), (175, 178, none)]) m m := fr.rf
  refine PM.of 2 (lo := [.ref 169, pv_U, pv_U]) rfl (by decide) rfl rfl (Nat.le_of_ble_eq_true rfl) ?_
  refine pv_iconst (M := mX3_solve) (v := 1) dX3_solve_0 1 rfl (by decide) ?_
  refine pv_istore_n (M := mX3_solve) 1 (lo2 := [.ref 169, .int 1, pv_U]) dX3_solve_1 2 rfl rfl (by decide) rfl rfl ?_
  refine pv_iconst (M := mX3_solve) (v := 3) dX3_solve_2 3 rfl (by decide) ?_
  refine pv_istore_n (M := mX3_solve) 2 (lo2 := [.ref 169, .int 1, .int 3]) dX3_solve_3 4 rfl rfl (by decide) rfl rfl ?_
  have lp8 : ∀ (fuel7 : Nat) (y1 : Int32) (y2 : Int32) (m3 : Nat → Nat → Int32) (n4 : Nat → Nat → Int64), (1 ≤ y1.toInt) → (y1.toInt ≤ 28561) → (-1 ≤ y2.toInt) → (y2.toInt ≤ 3) → (y1.toInt = cA (szp m pp) (3 - y2.toInt).toNat) → (∀ d : Nat, d < 4 → y2.toInt < (d : Int) → (m3 176 d).toInt = cA (szp m pp) (3 - d)) → IV BB m3 → fr (wl [(170, 171, none), (175, 178, none)]) m m3 → ((y2.toInt - (-1)) : Int).toNat < fuel7 → PV none g mX3_solve (sqV T BB (wl [(170, 171, none), (175, 178, none)]) r m (fun m' => TBL m' pp 0 ∧ (m' 170 1).toInt = (m' 178 0).toInt)) 4 0 0 4 [.ref 169, .int y1, .int y2] [] (mk T m3 n4 r) := by
    intro fuel7
    induction fuel7 with
    | zero => intro y1 y2 m3 n4 b10 b11 b12 b13 b14 b15 I5 K6 z16; omega
    | succ fuel7 ih9 =>
      intro y1 y2 m3 n4 b10 b11 b12 b13 b14 b15 I5 K6 z16
      have kgA := (show y1.toInt = cA (szp m pp) (3 - y2.toInt).toNat by assumption)
      have kgB := (show ∀ d : Nat, d < 4 → y2.toInt < (d : Int) → (m3 176 d).toInt = cA (szp m pp) (3 - d) by assumption)
      refine pv_iload_n (M := mX3_solve) 2 dX3_solve_4 5 rfl rfl rfl ?_
      refine pv_if_lt (M := mX3_solve) (tgt := 35) dX3_solve_5 8 rfl (by decide) (fun c19 => ?_) (fun c19 => ?_)
      · have c19 := iv_lt (X := y2.toInt) (Y := 0) c19 rfl (by decide)
        have kS : ∀ d, d < 4 → szp m3 pp d = szp m pp d := szp_eq (fun b hb => funext fun j => K6 b j (wo_s (by omega))) hp0
        have kP : APx m3 pp := fun d hd => (kgB d hd (by omega)).trans (cA_of (fun e he => (kS e he).symm) _ (by omega))
        have kT : Szs (szp m3 pp) := fun d hd => by rw [kS d hd]; exact hp1 d hd
        have k4 : y1.toInt = cA (szp m3 pp) 4 := kgA.trans ((congrArg (cA (szp m pp)) (show (3 - y2.toInt).toNat = 4 by omega)).trans (cA_of (fun e he => (kS e he).symm) _ (by omega)))
        refine pv_aload_n (M := mX3_solve) 0 dX3_solve_35 36 rfl rfl rfl ?_
        refine mv_get (M := mX3_solve) (v := .ref 175) dX3_solve_36 FX3 5 wd986 (by decide) (tc169 hC) rfl rfl 39 rfl ?_
        refine pv_iconst (M := mX3_solve) (v := 0) dX3_solve_39 40 rfl (by decide) ?_
        refine pv_aload_n (M := mX3_solve) 0 dX3_solve_40 41 rfl rfl rfl ?_
        refine mv_get (M := mX3_solve) (v := .ref 172) dX3_solve_41 FX3 2 wd983 (by decide) (tc169 hC) rfl rfl 44 rfl ?_
        refine pv_iconst (M := mX3_solve) (v := 0) dX3_solve_44 45 rfl (by decide) ?_
        refine iv_qpart (M := mX3_solve) (X := 0) dX3_solve_45 hC P (by decide) (by omega) (by omega) 46 rfl (fun b24 rb24 eb24 fb24 hb24 => ?_)
        have zb24 := hb24.2.2.2.2
        refine iv_get (M := mX3_solve) (l1 := 0) (l2 := (rb24 : Int)) dX3_solve_46 FX8 1 wd197 (by decide) hb24.1 rfl I5 hb24.2.2.1 49 rfl (fun v25 ev25 pv25 qv25 => ?_)
        have kS0 : v25.toInt = szp m3 pp 0 := (congrArg Int32.toInt ev25).trans (congrArg (fun z => (m3 z 1).toInt) (by assumption))
        have kT0 := kT 0 (by omega)
        refine iv_iast (M := mX3_solve) (X := 0) (l1 := (-1)) (l2 := 12) dX3_solve_49 (tc175 hC) (by decide) (by omega) (by omega) I5 (fun _ => rfl) (by omega) (by omega) 50 rfl (fun m28 e31 I29 => ?_)
        have K30 := K6.set e31 rfl
        have lp38 : ∀ (fuel37 : Nat) (y32 : Int32) (m33 : Nat → Nat → Int32) (n34 : Nat → Nat → Int64), (SV0 m33 pp y32.toInt) → (TBL m33 pp y32.toInt) → IV BB m33 → fr (wl [(170, 171, none), (175, 178, none)]) m m33 → (((m33 175 0).toInt + 1) : Int).toNat < fuel37 → PV none g mX3_solve (sqV T BB (wl [(170, 171, none), (175, 178, none)]) r m (fun m' => TBL m' pp 0 ∧ (m' 170 1).toInt = (m' 178 0).toInt)) 4 0 0 50 [.ref 169, .int y32, .int y2] [] (mk T m33 n34 r) := by
          intro fuel37
          induction fuel37 with
          | zero => intro y32 m33 n34 b40 b41 I35 K36 z42; omega
          | succ fuel37 ih39 =>
            intro y32 m33 n34 b40 b41 I35 K36 z42
            have kv0 := (show SV0 m33 pp y32.toInt by assumption)
            have kw0 := kv0.1.2.2.2
            have ktv0 := (show TBL m33 pp y32.toInt by assumption)
            refine pv_aload_n (M := mX3_solve) 0 dX3_solve_50 51 rfl rfl rfl ?_
            refine mv_get (M := mX3_solve) (v := .ref 175) dX3_solve_51 FX3 5 wd986 (by decide) (tc169 hC) rfl rfl 54 rfl ?_
            refine pv_iconst (M := mX3_solve) (v := 0) dX3_solve_54 55 rfl (by decide) ?_
            refine iv_iald (M := mX3_solve) (X := 0) (l1 := (-1)) (l2 := 12) dX3_solve_55 (tc175 hC) (by decide) (by omega) (by omega) I35 (fun _ => rfl) 56 rfl (fun v46 ev46 pv46 qv46 => ?_)
            have k56 : v46.toInt = (m33 175 0).toInt := congrArg Int32.toInt ev46
            refine pv_if_lt (M := mX3_solve) (tgt := 191) dX3_solve_56 59 rfl (by decide) (fun c48 => ?_) (fun c48 => ?_)
            · have c48 := iv_lt (X := v46.toInt) (Y := 0) c48 rfl (by decide)
              have k191 : y32.toInt = 0 := by have a := kv0.2; rw [show (m33 175 0).toInt + 1 = 0 by omega, Int.zero_mul] at a; exact a
              have k191v : VL4 (szp m33 pp) (fun _ => 0) := fun d hd => ⟨Int.le_refl _, (kv0.1.1 d hd).1⟩
              have k191z : ix4 (szp m33 pp) (fun _ => 0) = 0 := by show (0 : Int) * cA (szp m33 pp) 3 + 0 * cA (szp m33 pp) 2 + 0 * cA (szp m33 pp) 1 + 0 * cA (szp m33 pp) 0 = 0; omega
              have k191b := TBL_b kv0.1.1 ktv0 (rst (szp m33 pp) (fun _ => 0)).toNat (fun _ => 0) k191v (by omega) (by have z := rst_0 k191v; omega)
              have k191r := rst_48 kv0.1.1 k191v
              have k191f : ftb m33 pp (fun _ => 0) = (m33 178 0).toInt := by unfold ftb; rw [k191z]; rfl
              refine pv_aload_n (M := mX3_solve) 0 dX3_solve_191 192 rfl rfl rfl ?_
              refine pv_callv (M := mX3_solve) (as := []) (st := []) (kc2 := 0) (ks2 := 0) dX3_solve_192 wd1033 YX3_trace ⟨wd1035, wd43⟩ (mk_get (tc169 hC)) rfl rfl (s_X3_trace_ve g hT I35 hC P hp0 kv0.1.1 kv0.1.2.1 (by omega) (by omega)) rfl rfl (Nat.le_of_ble_eq_true rfl) (by decide) rfl rfl 195 rfl (fun rv h1 q55 => ?_)
              obtain ⟨m56, n57, rfl, rfl, I58, K59, rm56⟩ := q55
              have NK59c := rm56.1
              replace rm56 := rm56.2
              replace rm56 : (m56 170 1).toInt = (m33 178 0).toInt := rm56
              have K59c := K59
              have K59 := K36.trans (K59.sub (wl_sub (by decide)))
              show PV _ _ _ _ _ _ _ 195 [.ref 169, .int y32, .int y2] [] _
              have k195 := rm56
              have k195f := K59c
              exact pv_vret (M := mX3_solve) dX3_solve_195 rfl ⟨_, _, rfl, rfl, I58, K59, ⟨TBL_eq hp0 (by rw [← k191]; exact ktv0) (fun b j z => k195f b j (wo_t (by omega))), k195.trans (congrArg Int32.toInt (k195f 178 0 (wo_t (by omega)))).symm⟩⟩
            · have c48 := iv_nlt (X := v46.toInt) (Y := 0) c48 rfl (by decide)
              refine pv_aload_n (M := mX3_solve) 0 dX3_solve_59 60 rfl rfl rfl ?_
              refine mv_get (M := mX3_solve) (v := .ref 175) dX3_solve_60 FX3 5 wd986 (by decide) (tc169 hC) rfl rfl 63 rfl ?_
              refine pv_iconst (M := mX3_solve) (v := 1) dX3_solve_63 64 rfl (by decide) ?_
              refine pv_aload_n (M := mX3_solve) 0 dX3_solve_64 65 rfl rfl rfl ?_
              refine mv_get (M := mX3_solve) (v := .ref 172) dX3_solve_65 FX3 2 wd983 (by decide) (tc169 hC) rfl rfl 68 rfl ?_
              refine pv_iconst (M := mX3_solve) (v := 1) dX3_solve_68 69 rfl (by decide) ?_
              refine iv_qpart (M := mX3_solve) (X := 1) dX3_solve_69 hC P (by decide) (by omega) (by omega) 70 rfl (fun b62 rb62 eb62 fb62 hb62 => ?_)
              have zb62 := hb62.2.2.2.2
              refine iv_get (M := mX3_solve) (l1 := 0) (l2 := (rb62 : Int)) dX3_solve_70 FX8 1 wd197 (by decide) hb62.1 rfl I35 hb62.2.2.1 73 rfl (fun v63 ev63 pv63 qv63 => ?_)
              have kS1 : v63.toInt = szp m33 pp 1 := (congrArg Int32.toInt ev63).trans (congrArg (fun z => (m33 z 1).toInt) (by assumption))
              have kT1 := kv0.1.1 1 (by omega)
              refine iv_iast (M := mX3_solve) (X := 1) (l1 := (-1)) (l2 := 12) dX3_solve_73 (tc175 hC) (by decide) (by omega) (by omega) I35 (fun _ => rfl) (by omega) (by omega) 74 rfl (fun m66 e69 I67 => ?_)
              have K68 := K36.set e69 rfl
              have lp76 : ∀ (fuel75 : Nat) (y70 : Int32) (m71 : Nat → Nat → Int32) (n72 : Nat → Nat → Int64), (SV1 m71 pp y70.toInt) → ((m71 175 0).toInt = (m33 175 0).toInt) → (TBL m71 pp y70.toInt) → IV BB m71 → fr (wl [(170, 171, none), (175, 178, none)]) m m71 → (((m71 175 1).toInt + 1) : Int).toNat < fuel75 → PV none g mX3_solve (sqV T BB (wl [(170, 171, none), (175, 178, none)]) r m (fun m' => TBL m' pp 0 ∧ (m' 170 1).toInt = (m' 178 0).toInt)) 4 0 0 74 [.ref 169, .int y70, .int y2] [] (mk T m71 n72 r) := by
                intro fuel75
                induction fuel75 with
                | zero => intro y70 m71 n72 b78 b79 b80 I73 K74 z81; omega
                | succ fuel75 ih77 =>
                  intro y70 m71 n72 b78 b79 b80 I73 K74 z81
                  have kv1 := (show SV1 m71 pp y70.toInt by assumption)
                  have kw1 := kv1.1.2.2.2
                  have kr1 := (show (m71 175 0).toInt = (m33 175 0).toInt by assumption)
                  have kx10 := kv1.1.2.2.1 0 (by omega)
                  have ky10 := kv1.1.1 0 (by omega)
                  have ktv1 := (show TBL m71 pp y70.toInt by assumption)
                  refine pv_aload_n (M := mX3_solve) 0 dX3_solve_74 75 rfl rfl rfl ?_
                  refine mv_get (M := mX3_solve) (v := .ref 175) dX3_solve_75 FX3 5 wd986 (by decide) (tc169 hC) rfl rfl 78 rfl ?_
                  refine pv_iconst (M := mX3_solve) (v := 1) dX3_solve_78 79 rfl (by decide) ?_
                  refine iv_iald (M := mX3_solve) (X := 1) (l1 := (-1)) (l2 := 12) dX3_solve_79 (tc175 hC) (by decide) (by omega) (by omega) I73 (fun _ => rfl) 80 rfl (fun v88 ev88 pv88 qv88 => ?_)
                  have k80 : v88.toInt = (m71 175 1).toInt := congrArg Int32.toInt ev88
                  refine pv_if_lt (M := mX3_solve) (tgt := 178) dX3_solve_80 83 rfl (by decide) (fun c90 => ?_) (fun c90 => ?_)
                  · have c90 := iv_lt (X := v88.toInt) (Y := 0) c90 rfl (by decide)
                    refine pv_aload_n (M := mX3_solve) 0 dX3_solve_178 179 rfl rfl rfl ?_
                    refine mv_get (M := mX3_solve) (v := .ref 175) dX3_solve_179 FX3 5 wd986 (by decide) (tc169 hC) rfl rfl 182 rfl ?_
                    refine pv_iconst (M := mX3_solve) (v := 0) dX3_solve_182 183 rfl (by decide) ?_
                    refine pv_dup2 (M := mX3_solve) dX3_solve_183 184 rfl rfl rfl ?_
                    refine iv_iald (M := mX3_solve) (X := 0) (l1 := (-1)) (l2 := 12) dX3_solve_184 (tc175 hC) (by decide) (by omega) (by omega) I73 (fun _ => rfl) 185 rfl (fun v91 ev91 pv91 qv91 => ?_)
                    have k185 : v91.toInt = (m71 175 0).toInt := congrArg Int32.toInt ev91
                    refine pv_iconst (M := mX3_solve) (v := 1) dX3_solve_185 186 rfl (by decide) ?_
                    refine iv_isub (M := mX3_solve) (X := v91.toInt) (Y := 1) dX3_solve_186 187 rfl rfl (by decide) (by omega) (by omega) (fun v93 ev93 => ?_)
                    refine iv_iast (M := mX3_solve) (X := 0) (l1 := (-1)) (l2 := 12) dX3_solve_187 (tc175 hC) (by decide) (by omega) (by omega) I73 (fun _ => rfl) (by omega) (by omega) 188 rfl (fun m94 e97 I95 => ?_)
                    have K96 := K74.set e97 rfl
                    refine pv_goto (M := mX3_solve) (tgt := 50) dX3_solve_188 (by decide) ?_
                    have k187 := (e97)
                    have kb0 : SV0 m94 pp y70.toInt := SV_out0 kv1 (by omega) hp0 k187 (by omega)
                    have kp0 : (m94 175 0).toInt = (m71 175 0).toInt - 1 := by rw [k187, show ((0 : Int)).toNat = 0 from rfl, up2_eq]; omega
                    have kbt0 : TBL m94 pp y70.toInt := TBL_eq hp0 ktv1 (fun b j z => by rw [k187, up2_ne (by omega)])
                    exact ih39 y70 m94 n72 kb0 kbt0 I95 K96 (by omega)
                  · have c90 := iv_nlt (X := v88.toInt) (Y := 0) c90 rfl (by decide)
                    refine pv_aload_n (M := mX3_solve) 0 dX3_solve_83 84 rfl rfl rfl ?_
                    refine mv_get (M := mX3_solve) (v := .ref 175) dX3_solve_84 FX3 5 wd986 (by decide) (tc169 hC) rfl rfl 87 rfl ?_
                    refine pv_iconst (M := mX3_solve) (v := 2) dX3_solve_87 88 rfl (by decide) ?_
                    refine pv_aload_n (M := mX3_solve) 0 dX3_solve_88 89 rfl rfl rfl ?_
                    refine mv_get (M := mX3_solve) (v := .ref 172) dX3_solve_89 FX3 2 wd983 (by decide) (tc169 hC) rfl rfl 92 rfl ?_
                    refine pv_iconst (M := mX3_solve) (v := 2) dX3_solve_92 93 rfl (by decide) ?_
                    refine iv_qpart (M := mX3_solve) (X := 2) dX3_solve_93 hC P (by decide) (by omega) (by omega) 94 rfl (fun b102 rb102 eb102 fb102 hb102 => ?_)
                    have zb102 := hb102.2.2.2.2
                    refine iv_get (M := mX3_solve) (l1 := 0) (l2 := (rb102 : Int)) dX3_solve_94 FX8 1 wd197 (by decide) hb102.1 rfl I73 hb102.2.2.1 97 rfl (fun v103 ev103 pv103 qv103 => ?_)
                    have kS2 : v103.toInt = szp m71 pp 2 := (congrArg Int32.toInt ev103).trans (congrArg (fun z => (m71 z 1).toInt) (by assumption))
                    have kT2 := kv1.1.1 2 (by omega)
                    refine iv_iast (M := mX3_solve) (X := 2) (l1 := (-1)) (l2 := 12) dX3_solve_97 (tc175 hC) (by decide) (by omega) (by omega) I73 (fun _ => rfl) (by omega) (by omega) 98 rfl (fun m106 e109 I107 => ?_)
                    have K108 := K74.set e109 rfl
                    have lp116 : ∀ (fuel115 : Nat) (y110 : Int32) (m111 : Nat → Nat → Int32) (n112 : Nat → Nat → Int64), (SV2 m111 pp y110.toInt) → ((m111 175 0).toInt = (m33 175 0).toInt) → ((m111 175 1).toInt = (m71 175 1).toInt) → (TBL m111 pp y110.toInt) → IV BB m111 → fr (wl [(170, 171, none), (175, 178, none)]) m m111 → (((m111 175 2).toInt + 1) : Int).toNat < fuel115 → PV none g mX3_solve (sqV T BB (wl [(170, 171, none), (175, 178, none)]) r m (fun m' => TBL m' pp 0 ∧ (m' 170 1).toInt = (m' 178 0).toInt)) 4 0 0 98 [.ref 169, .int y110, .int y2] [] (mk T m111 n112 r) := by
                      intro fuel115
                      induction fuel115 with
                      | zero => intro y110 m111 n112 b118 b119 b120 b121 I113 K114 z122; omega
                      | succ fuel115 ih117 =>
                        intro y110 m111 n112 b118 b119 b120 b121 I113 K114 z122
                        have kv2 := (show SV2 m111 pp y110.toInt by assumption)
                        have kw2 := kv2.1.2.2.2
                        have kr20 := (show (m111 175 0).toInt = (m33 175 0).toInt by assumption)
                        have kr21 := (show (m111 175 1).toInt = (m71 175 1).toInt by assumption)
                        have kx21 := kv2.1.2.2.1 1 (by omega)
                        have ky21 := kv2.1.1 1 (by omega)
                        have ktv2 := (show TBL m111 pp y110.toInt by assumption)
                        refine pv_aload_n (M := mX3_solve) 0 dX3_solve_98 99 rfl rfl rfl ?_
                        refine mv_get (M := mX3_solve) (v := .ref 175) dX3_solve_99 FX3 5 wd986 (by decide) (tc169 hC) rfl rfl 102 rfl ?_
                        refine pv_iconst (M := mX3_solve) (v := 2) dX3_solve_102 103 rfl (by decide) ?_
                        refine iv_iald (M := mX3_solve) (X := 2) (l1 := (-1)) (l2 := 12) dX3_solve_103 (tc175 hC) (by decide) (by omega) (by omega) I113 (fun _ => rfl) 104 rfl (fun v130 ev130 pv130 qv130 => ?_)
                        have k104 : v130.toInt = (m111 175 2).toInt := congrArg Int32.toInt ev130
                        refine pv_if_lt (M := mX3_solve) (tgt := 165) dX3_solve_104 107 rfl (by decide) (fun c132 => ?_) (fun c132 => ?_)
                        · have c132 := iv_lt (X := v130.toInt) (Y := 0) c132 rfl (by decide)
                          refine pv_aload_n (M := mX3_solve) 0 dX3_solve_165 166 rfl rfl rfl ?_
                          refine mv_get (M := mX3_solve) (v := .ref 175) dX3_solve_166 FX3 5 wd986 (by decide) (tc169 hC) rfl rfl 169 rfl ?_
                          refine pv_iconst (M := mX3_solve) (v := 1) dX3_solve_169 170 rfl (by decide) ?_
                          refine pv_dup2 (M := mX3_solve) dX3_solve_170 171 rfl rfl rfl ?_
                          refine iv_iald (M := mX3_solve) (X := 1) (l1 := (-1)) (l2 := 12) dX3_solve_171 (tc175 hC) (by decide) (by omega) (by omega) I113 (fun _ => rfl) 172 rfl (fun v133 ev133 pv133 qv133 => ?_)
                          have k172 : v133.toInt = (m111 175 1).toInt := congrArg Int32.toInt ev133
                          refine pv_iconst (M := mX3_solve) (v := 1) dX3_solve_172 173 rfl (by decide) ?_
                          refine iv_isub (M := mX3_solve) (X := v133.toInt) (Y := 1) dX3_solve_173 174 rfl rfl (by decide) (by omega) (by omega) (fun v135 ev135 => ?_)
                          refine iv_iast (M := mX3_solve) (X := 1) (l1 := (-1)) (l2 := 12) dX3_solve_174 (tc175 hC) (by decide) (by omega) (by omega) I113 (fun _ => rfl) (by omega) (by omega) 175 rfl (fun m136 e139 I137 => ?_)
                          have K138 := K114.set e139 rfl
                          refine pv_goto (M := mX3_solve) (tgt := 74) dX3_solve_175 (by decide) ?_
                          have k174 := (e139)
                          have kb1 : SV1 m136 pp y110.toInt := SV_out1 kv2 (by omega) hp0 k174 (by omega)
                          have kp1 : (m136 175 1).toInt = (m111 175 1).toInt - 1 := by rw [k174, show ((1 : Int)).toNat = 1 from rfl, up2_eq]; omega
                          have kq10 : (m136 175 0).toInt = (m33 175 0).toInt := by rw [k174, up2_ne (by omega)]; exact kr20
                          have kbt1 : TBL m136 pp y110.toInt := TBL_eq hp0 ktv2 (fun b j z => by rw [k174, up2_ne (by omega)])
                          exact ih77 y110 m136 n112 kb1 kq10 kbt1 I137 K138 (by omega)
                        · have c132 := iv_nlt (X := v130.toInt) (Y := 0) c132 rfl (by decide)
                          refine pv_aload_n (M := mX3_solve) 0 dX3_solve_107 108 rfl rfl rfl ?_
                          refine mv_get (M := mX3_solve) (v := .ref 175) dX3_solve_108 FX3 5 wd986 (by decide) (tc169 hC) rfl rfl 111 rfl ?_
                          refine pv_iconst (M := mX3_solve) (v := 3) dX3_solve_111 112 rfl (by decide) ?_
                          refine pv_aload_n (M := mX3_solve) 0 dX3_solve_112 113 rfl rfl rfl ?_
                          refine mv_get (M := mX3_solve) (v := .ref 172) dX3_solve_113 FX3 2 wd983 (by decide) (tc169 hC) rfl rfl 116 rfl ?_
                          refine pv_iconst (M := mX3_solve) (v := 3) dX3_solve_116 117 rfl (by decide) ?_
                          refine iv_qpart (M := mX3_solve) (X := 3) dX3_solve_117 hC P (by decide) (by omega) (by omega) 118 rfl (fun b145 rb145 eb145 fb145 hb145 => ?_)
                          have zb145 := hb145.2.2.2.2
                          refine iv_get (M := mX3_solve) (l1 := 0) (l2 := (rb145 : Int)) dX3_solve_118 FX8 1 wd197 (by decide) hb145.1 rfl I113 hb145.2.2.1 121 rfl (fun v146 ev146 pv146 qv146 => ?_)
                          have kS3 : v146.toInt = szp m111 pp 3 := (congrArg Int32.toInt ev146).trans (congrArg (fun z => (m111 z 1).toInt) (by assumption))
                          have kT3 := kv2.1.1 3 (by omega)
                          refine iv_iast (M := mX3_solve) (X := 3) (l1 := (-1)) (l2 := 12) dX3_solve_121 (tc175 hC) (by decide) (by omega) (by omega) I113 (fun _ => rfl) (by omega) (by omega) 122 rfl (fun m149 e152 I150 => ?_)
                          have K151 := K114.set e152 rfl
                          have lp159 : ∀ (fuel158 : Nat) (y153 : Int32) (m154 : Nat → Nat → Int32) (n155 : Nat → Nat → Int64), (SV3 m154 pp y153.toInt) → ((m154 175 0).toInt = (m33 175 0).toInt) → ((m154 175 1).toInt = (m71 175 1).toInt) → ((m154 175 2).toInt = (m111 175 2).toInt) → (TBL m154 pp y153.toInt) → IV BB m154 → fr (wl [(170, 171, none), (175, 178, none)]) m m154 → (((m154 175 3).toInt + 1) : Int).toNat < fuel158 → PV none g mX3_solve (sqV T BB (wl [(170, 171, none), (175, 178, none)]) r m (fun m' => TBL m' pp 0 ∧ (m' 170 1).toInt = (m' 178 0).toInt)) 4 0 0 122 [.ref 169, .int y153, .int y2] [] (mk T m154 n155 r) := by
                            intro fuel158
                            induction fuel158 with
                            | zero => intro y153 m154 n155 b161 b162 b163 b164 b165 I156 K157 z166; omega
                            | succ fuel158 ih160 =>
                              intro y153 m154 n155 b161 b162 b163 b164 b165 I156 K157 z166
                              have kv3 := (show SV3 m154 pp y153.toInt by assumption)
                              have kw3 := kv3.1.2.2.2
                              have kr30 := (show (m154 175 0).toInt = (m33 175 0).toInt by assumption)
                              have kr31 := (show (m154 175 1).toInt = (m71 175 1).toInt by assumption)
                              have kr32 := (show (m154 175 2).toInt = (m111 175 2).toInt by assumption)
                              have kx32 := kv3.1.2.2.1 2 (by omega)
                              have ky32 := kv3.1.1 2 (by omega)
                              have ky33 := kv3.1.1 3 (by omega)
                              have ktv3 := (show TBL m154 pp y153.toInt by assumption)
                              refine pv_aload_n (M := mX3_solve) 0 dX3_solve_122 123 rfl rfl rfl ?_
                              refine mv_get (M := mX3_solve) (v := .ref 175) dX3_solve_123 FX3 5 wd986 (by decide) (tc169 hC) rfl rfl 126 rfl ?_
                              refine pv_iconst (M := mX3_solve) (v := 3) dX3_solve_126 127 rfl (by decide) ?_
                              refine iv_iald (M := mX3_solve) (X := 3) (l1 := (-1)) (l2 := 12) dX3_solve_127 (tc175 hC) (by decide) (by omega) (by omega) I156 (fun _ => rfl) 128 rfl (fun v176 ev176 pv176 qv176 => ?_)
                              have k128 : v176.toInt = (m154 175 3).toInt := congrArg Int32.toInt ev176
                              refine pv_if_lt (M := mX3_solve) (tgt := 152) dX3_solve_128 131 rfl (by decide) (fun c178 => ?_) (fun c178 => ?_)
                              · have c178 := iv_lt (X := v176.toInt) (Y := 0) c178 rfl (by decide)
                                refine pv_aload_n (M := mX3_solve) 0 dX3_solve_152 153 rfl rfl rfl ?_
                                refine mv_get (M := mX3_solve) (v := .ref 175) dX3_solve_153 FX3 5 wd986 (by decide) (tc169 hC) rfl rfl 156 rfl ?_
                                refine pv_iconst (M := mX3_solve) (v := 2) dX3_solve_156 157 rfl (by decide) ?_
                                refine pv_dup2 (M := mX3_solve) dX3_solve_157 158 rfl rfl rfl ?_
                                refine iv_iald (M := mX3_solve) (X := 2) (l1 := (-1)) (l2 := 12) dX3_solve_158 (tc175 hC) (by decide) (by omega) (by omega) I156 (fun _ => rfl) 159 rfl (fun v179 ev179 pv179 qv179 => ?_)
                                have k159 : v179.toInt = (m154 175 2).toInt := congrArg Int32.toInt ev179
                                refine pv_iconst (M := mX3_solve) (v := 1) dX3_solve_159 160 rfl (by decide) ?_
                                refine iv_isub (M := mX3_solve) (X := v179.toInt) (Y := 1) dX3_solve_160 161 rfl rfl (by decide) (by omega) (by omega) (fun v181 ev181 => ?_)
                                refine iv_iast (M := mX3_solve) (X := 2) (l1 := (-1)) (l2 := 12) dX3_solve_161 (tc175 hC) (by decide) (by omega) (by omega) I156 (fun _ => rfl) (by omega) (by omega) 162 rfl (fun m182 e185 I183 => ?_)
                                have K184 := K157.set e185 rfl
                                refine pv_goto (M := mX3_solve) (tgt := 98) dX3_solve_162 (by decide) ?_
                                have k161 := (e185)
                                have kb2 : SV2 m182 pp y153.toInt := SV_out2 kv3 (by omega) hp0 k161 (by omega)
                                have kp2 : (m182 175 2).toInt = (m154 175 2).toInt - 1 := by rw [k161, show ((2 : Int)).toNat = 2 from rfl, up2_eq]; omega
                                have kq20 : (m182 175 0).toInt = (m33 175 0).toInt := by rw [k161, up2_ne (by omega)]; exact kr30
                                have kq21 : (m182 175 1).toInt = (m71 175 1).toInt := by rw [k161, up2_ne (by omega)]; exact kr31
                                have kbt2 : TBL m182 pp y153.toInt := TBL_eq hp0 ktv3 (fun b j z => by rw [k161, up2_ne (by omega)])
                                exact ih117 y153 m182 n155 kb2 kq20 kq21 kbt2 I183 K184 (by omega)
                              · have c178 := iv_nlt (X := v176.toInt) (Y := 0) c178 rfl (by decide)
                                have kz := SV3_ix kv3 (by omega)
                                have kz1 := kz.2.1
                                have kz2 := kz.2.2.1
                                have kz3 := kz.2.2.2
                                have kTn := TBL_Tn kv3.1.1 kz.1 ktv3 kz.2.1
                                have z198 := iv_rng y153
                                refine iv_inc (M := mX3_solve) (C := (-1)) dX3_solve_131 134 rfl rfl (by decide) rfl rfl (by decide) (by omega) (by omega) (fun v197 ev197 => ?_)
                                show PV _ _ _ _ _ _ _ 134 [.ref 169, .int v197, .int y2] [] _
                                refine pv_aload_n (M := mX3_solve) 0 dX3_solve_134 135 rfl rfl rfl ?_
                                refine pv_iload_n (M := mX3_solve) 1 dX3_solve_135 136 rfl rfl rfl ?_
                                refine pv_callv (M := mX3_solve) (as := [.int v197]) (st := []) (kc2 := 0) (ks2 := 0) dX3_solve_136 wd1021 YX3_settle ⟨wd1023, wd40⟩ (mk_get (tc169 hC)) rfl rfl (s_X3_settle_ve g hT I156 hC P v197 (by omega) (by omega) hp0 kv3.1.1 kz.1 kv3.1.2.1 (by omega) kTn) rfl rfl (Nat.le_of_ble_eq_true rfl) (by decide) rfl rfl 139 rfl (fun rv h1 q199 => ?_)
                                obtain ⟨m200, n201, rfl, rfl, I202, K203, rm200⟩ := q199
                                replace rm200 : (∀ j, j ≠ v197.toInt.toNat → m200 178 j = m154 178 j) ∧ OB1 (szp m154 pp) (srp m154 pp) (fun b => (m154 178 (ix4 (szp m154 pp) b).toNat).toInt) (atp m154) (m200 178 v197.toInt.toNat).toInt := rm200
                                have K203c := K203
                                have K203 := K157.trans (K203.sub (wl_sub (by decide)))
                                show PV _ _ _ _ _ _ _ 139 [.ref 169, .int v197, .int y2] [] _
                                have kf : ∀ b j, b ≤ 176 → m200 b j = m154 b j := fun b j h => K203c b j (wr_out (by omega))
                                have kp := rm200
                                refine pv_aload_n (M := mX3_solve) 0 dX3_solve_139 140 rfl rfl rfl ?_
                                refine mv_get (M := mX3_solve) (v := .ref 175) dX3_solve_140 FX3 5 wd986 (by decide) (tc169 hC) rfl rfl 143 rfl ?_
                                refine pv_iconst (M := mX3_solve) (v := 3) dX3_solve_143 144 rfl (by decide) ?_
                                refine pv_dup2 (M := mX3_solve) dX3_solve_144 145 rfl rfl rfl ?_
                                refine iv_iald (M := mX3_solve) (X := 3) (l1 := (-1)) (l2 := 12) dX3_solve_145 (tc175 hC) (by decide) (by omega) (by omega) I202 (fun _ => rfl) 146 rfl (fun v206 ev206 pv206 qv206 => ?_)
                                have k146 : v206.toInt = (m154 175 3).toInt := congrArg Int32.toInt (ev206.trans (kf 175 3 (by omega)))
                                refine pv_iconst (M := mX3_solve) (v := 1) dX3_solve_146 147 rfl (by decide) ?_
                                refine iv_isub (M := mX3_solve) (X := v206.toInt) (Y := 1) dX3_solve_147 148 rfl rfl (by decide) (by omega) (by omega) (fun v208 ev208 => ?_)
                                refine iv_iast (M := mX3_solve) (X := 3) (l1 := (-1)) (l2 := 12) dX3_solve_148 (tc175 hC) (by decide) (by omega) (by omega) I202 (fun _ => rfl) (by omega) (by omega) 149 rfl (fun m209 e212 I210 => ?_)
                                have K211 := K203.set e212 rfl
                                refine pv_goto (M := mX3_solve) (tgt := 122) dX3_solve_149 (by decide) ?_
                                have k148 := (e212)
                                have kb3 : SV3 m209 pp v197.toInt := SV3_next kv3 (by omega) hp0 kf k148 (by omega) (by omega)
                                have kp3 : (m209 175 3).toInt = (m154 175 3).toInt - 1 := by rw [k148, show ((3 : Int)).toNat = 3 from rfl, up2_eq]; omega
                                have kq30 : (m209 175 0).toInt = (m33 175 0).toInt := by rw [k148, up2_ne (by omega), kf 175 0 (by omega)]; exact kr30
                                have kq31 : (m209 175 1).toInt = (m71 175 1).toInt := by rw [k148, up2_ne (by omega), kf 175 1 (by omega)]; exact kr31
                                have kq32 : (m209 175 2).toInt = (m111 175 2).toInt := by rw [k148, up2_ne (by omega), kf 175 2 (by omega)]; exact kr32
                                have kbt3 : TBL m209 pp v197.toInt := TBL_eq hp0 (TBL_next (st2 := v197.toInt) kv3.1.1 hp0 kz.1 ktv3 kz.2.1 kz.2.2.1 kf (by omega) kp.1 kp.2) (fun b j z => by rw [k148, up2_ne (by omega)])
                                exact ih160 v197 m209 n201 kb3 kq30 kq31 kq32 kbt3 I210 K211 (by omega)
                          have kV3 : SV3 m149 pp y110.toInt := SV_in2 kv2 (by omega) hp0 e152 kS3
                          have kt3 : TBL m149 pp y110.toInt := TBL_eq hp0 ktv2 (fun b j z => by rw [e152, up2_ne (by omega)])
                          exact lp159 ((((m149 175 3).toInt + 1) : Int).toNat + 1) y110 m149 n112 kV3 (by rw [e152, up2_ne (by omega)] <;> assumption) (by rw [e152, up2_ne (by omega)] <;> assumption) (by rw [e152, up2_ne (by omega)] <;> assumption) kt3 I150 K151 (by omega)
                    have kV2 : SV2 m106 pp y70.toInt := SV_in1 kv1 (by omega) hp0 e109 kS2
                    have kt2 : TBL m106 pp y70.toInt := TBL_eq hp0 ktv1 (fun b j z => by rw [e109, up2_ne (by omega)])
                    exact lp116 ((((m106 175 2).toInt + 1) : Int).toNat + 1) y70 m106 n72 kV2 (by rw [e109, up2_ne (by omega)] <;> assumption) (by rw [e109, up2_ne (by omega)] <;> assumption) kt2 I107 K108 (by omega)
              have kV1 : SV1 m66 pp y32.toInt := SV_in0 kv0 (by omega) hp0 e69 kS1
              have kt1 : TBL m66 pp y32.toInt := TBL_eq hp0 ktv0 (fun b j z => by rw [e69, up2_ne (by omega)])
              exact lp76 ((((m66 175 1).toInt + 1) : Int).toNat + 1) y32 m66 n34 kV1 (by rw [e69, up2_ne (by omega)] <;> assumption) kt1 I67 K68 (by omega)
        have kV0 : SV0 m28 pp y1.toInt := SV_start kT kP k4 hp0 e31 kS0
        have kt0 : TBL m28 pp y1.toInt := TBL_eq hp0 (TBL_top kT k4) (fun b j z => by rw [e31, up2_ne (by omega)])
        exact lp38 ((((m28 175 0).toInt + 1) : Int).toNat + 1) y1 m28 n4 kV0 kt0 I29 K30 (by omega)
      · have c19 := iv_nlt (X := y2.toInt) (Y := 0) c19 rfl (by decide)
        refine pv_aload_n (M := mX3_solve) 0 dX3_solve_8 9 rfl rfl rfl ?_
        refine mv_get (M := mX3_solve) (v := .ref 176) dX3_solve_9 FX3 6 wd987 (by decide) (tc169 hC) rfl rfl 12 rfl ?_
        refine pv_iload_n (M := mX3_solve) 2 dX3_solve_12 13 rfl rfl rfl ?_
        refine pv_iload_n (M := mX3_solve) 1 dX3_solve_13 14 rfl rfl rfl ?_
        refine iv_iast (M := mX3_solve) (X := y2.toInt) (l1 := 0) (l2 := 28561) dX3_solve_14 (tc176 hC) rfl (by omega) (by omega) I5 (fun _ => rfl) (by omega) (by omega) 15 rfl (fun m228 e231 I229 => ?_)
        have K230 := K6.set e231 rfl
        have k15 := (e231)
        refine pv_iload_n (M := mX3_solve) 1 dX3_solve_15 16 rfl rfl rfl ?_
        refine pv_aload_n (M := mX3_solve) 0 dX3_solve_16 17 rfl rfl rfl ?_
        refine mv_get (M := mX3_solve) (v := .ref 172) dX3_solve_17 FX3 2 wd983 (by decide) (tc169 hC) rfl rfl 20 rfl ?_
        refine pv_iload_n (M := mX3_solve) 2 dX3_solve_20 21 rfl rfl rfl ?_
        refine iv_qpart (M := mX3_solve) (X := y2.toInt) dX3_solve_21 hC P rfl (by omega) (by omega) 22 rfl (fun b233 rb233 eb233 fb233 hb233 => ?_)
        have zb233 := hb233.2.2.2.2
        refine iv_get (M := mX3_solve) (l1 := 0) (l2 := (rb233 : Int)) dX3_solve_22 FX8 1 wd197 (by decide) hb233.1 rfl I229 hb233.2.2.1 25 rfl (fun v234 ev234 pv234 qv234 => ?_)
        have k25d := hp0 y2.toInt.toNat (by omega)
        have k25 : v234.toInt = szp m pp y2.toInt.toNat := (congrArg Int32.toInt (ev234.trans (K230 _ _ (wo_s (by omega))))).trans (congrArg (fun z => (m z 1).toInt) (by assumption))
        have k25s := hp1 y2.toInt.toNat (by omega)
        refine pv_iconst (M := mX3_solve) (v := 1) dX3_solve_25 26 rfl (by decide) ?_
        refine iv_iadd (M := mX3_solve) (X := v234.toInt) (Y := 1) dX3_solve_26 27 rfl rfl (by decide) (by omega) (by omega) (fun v238 ev238 => ?_)
        have k27 := cA_step (y := v238.toInt) hp1 (by omega) (by omega) kgA (by omega)
        have k27a := k27.2.1
        have k27b := k27.2.2
        refine iv_imul (M := mX3_solve) (X := y1.toInt) (Y := v238.toInt) dX3_solve_27 28 rfl rfl rfl (by omega) (by omega) (fun v242 ev242 => ?_)
        refine pv_istore_n (M := mX3_solve) 1 (lo2 := [.ref 169, .int v242, .int y2]) dX3_solve_28 29 rfl rfl (by decide) rfl rfl ?_
        refine iv_inc (M := mX3_solve) (C := (-1)) dX3_solve_29 32 rfl rfl (by decide) rfl rfl (by decide) (by omega) (by omega) (fun v243 ev243 => ?_)
        show PV _ _ _ _ _ _ _ 32 [.ref 169, .int v242, .int v243] [] _
        refine pv_goto (M := mX3_solve) (tgt := 4) dX3_solve_32 (by decide) ?_
        have kbA : v242.toInt = cA (szp m pp) (3 - v243.toInt).toNat := by rw [show v243.toInt = y2.toInt - 1 by omega]; exact ev242.trans k27.1
        have kbB : ∀ d : Nat, d < 4 → v243.toInt < (d : Int) → (m228 176 d).toInt = cA (szp m pp) (3 - d) := fun d h a => if z : (d : Int) = y2.toInt then by rw [k15, show d = (y2.toInt).toNat by omega, up2_eq, show 3 - (y2.toInt).toNat = (3 - y2.toInt).toNat by omega]; exact kgA else by rw [k15, up2_ne (by omega)]; exact kgB d h (by omega)
        exact ih9 v242 v243 m228 n4 (by first | omega | assumption | exact (iv_rng _).2 | exact (iv_rng _).1 | decide) (by first | omega | assumption | exact (iv_rng _).2 | exact (iv_rng _).1 | decide) (by first | omega | assumption | exact (iv_rng _).2 | exact (iv_rng _).1 | decide) (by first | omega | assumption | exact (iv_rng _).2 | exact (iv_rng _).1 | decide) kbA kbB I229 K230 (by omega)
  have z246 : (1 : Int32).toInt = 1 := by decide
  have z247 : (3 : Int32).toInt = 3 := by decide
  exact lp8 (((3 - (-1)) : Int).toNat + 1) 1 3 m n (by first | omega | assumption | exact (iv_rng _).2 | exact (iv_rng _).1 | decide) (by first | omega | assumption | exact (iv_rng _).2 | exact (iv_rng _).1 | decide) (by first | omega | assumption | exact (iv_rng _).2 | exact (iv_rng _).1 | decide) (by first | omega | assumption | exact (iv_rng _).2 | exact (iv_rng _).1 | decide) (by rw [show ((3 : Int32)).toInt = 3 by decide]; rfl) (fun d h a => by rw [show ((3 : Int32)).toInt = 3 by decide] at a; omega) I Kp (by omega)

set_option maxHeartbeats 2000000 in
set_option maxRecDepth 20000 in
theorem s_X3_clearParts_ve (g : pv_G) {T : List mv_T} {m : Nat → Nat → Int32} {n : Nat → Nat → Int64} {r : Nat → Value} (hT : TX T) (I : IV BB m) (hC : TC T) : PM g mX3_clearParts yX3_clearParts (sqVrn T BB (wl [(169, 169, some 4)]) ro r m (fun m' n' r' => nE n n' ∧ ((m' 169 4).toInt = 0 ∧ ∀ d, d < 4 → r' (172000 + d) = .ref 173))) 1 0 0 [.ref 169] (mk T m n r) := by
  have Kp : fr (wl [(169, 169, some 4)]) m m := fr.rf
  have NKp : nE n n := nE.rf
  have z27 : 0 ≤ (m 169 4).toInt ∧ (m 169 4).toInt ≤ 4 := I 169 4
  refine PM.of 1 (lo := [.ref 169, pv_U]) rfl (by decide) rfl rfl (Nat.le_of_ble_eq_true rfl) ?_
  refine pv_aload_n (M := mX3_clearParts) 0 dX3_clearParts_0 1 rfl rfl rfl ?_
  refine pv_iconst (M := mX3_clearParts) (v := 0) dX3_clearParts_1 2 rfl (by decide) ?_
  refine iv_put (M := mX3_clearParts) (l1 := 0) (l2 := 4) dX3_clearParts_2 FX3 4 wd985 (by decide) rfl (tc169 hC) rfl rfl rfl I rfl (by decide) (by decide) 5 rfl (fun m1 e4 I2 => ?_)
  have K3 := Kp.set e4 rfl
  have NK3 := NKp
  have w5 : (m1 169 4).toInt = 0 := by rw [e4, up2_eq] <;> rfl
  refine pv_iconst (M := mX3_clearParts) (v := 0) dX3_clearParts_5 6 rfl (by decide) ?_
  refine pv_istore_n (M := mX3_clearParts) 1 (lo2 := [.ref 169, .int 0]) dX3_clearParts_6 7 rfl rfl (by decide) rfl rfl ?_
  have lp12 : ∀ (fuel11 : Nat) (y6 : Int32) (m7 : Nat → Nat → Int32) (n8 : Nat → Nat → Int64) (r16 : Nat → Value), (0 ≤ y6.toInt) → (y6.toInt ≤ 4) → (∀ d : Nat, (d : Int) < y6.toInt → r16 (172000 + d) = .ref 173) → ((m7 169 4).toInt = 0) → IV BB m7 → fr (wl [(169, 169, some 4)]) m m7 → nE n n8 → ro r r16 → ((4 - y6.toInt) : Int).toNat < fuel11 → PV none g mX3_clearParts (sqVrn T BB (wl [(169, 169, some 4)]) ro r m (fun m' n' r' => nE n n' ∧ ((m' 169 4).toInt = 0 ∧ ∀ d, d < 4 → r' (172000 + d) = .ref 173))) 1 0 0 7 [.ref 169, .int y6] [] (mk T m7 n8 r16) := by
    intro fuel11
    induction fuel11 with
    | zero => intro y6 m7 n8 r16 b14 b15 b17 b18 I9 K10 NK10 or16 z19; omega
    | succ fuel11 ih13 =>
      intro y6 m7 n8 r16 b14 b15 b17 b18 I9 K10 NK10 or16 z19
      have z20 : 0 ≤ (m7 169 4).toInt ∧ (m7 169 4).toInt ≤ 4 := I9 169 4
      have kg := (show ∀ d : Nat, (d : Int) < y6.toInt → r16 (172000 + d) = .ref 173 by assumption)
      refine pv_iload_n (M := mX3_clearParts) 1 dX3_clearParts_7 8 rfl rfl rfl ?_
      refine pv_iconst (M := mX3_clearParts) (v := 4) dX3_clearParts_8 9 rfl (by decide) ?_
      refine pv_icmp_ge (M := mX3_clearParts) (tgt := 28) dX3_clearParts_9 12 rfl (by decide) (fun c22 => ?_) (fun c22 => ?_)
      · have c22 := iv_le (X := 4) (Y := y6.toInt) c22 (by decide) rfl
        exact pv_vret (M := mX3_clearParts) dX3_clearParts_28 rfl ⟨_, _, _, rfl, rfl, I9, K10, or16, ⟨NK10, ⟨by omega, fun d hd => kg d (by omega)⟩⟩⟩
      · have c22 := iv_nle (X := 4) (Y := y6.toInt) c22 (by decide) rfl
        refine pv_aload_n (M := mX3_clearParts) 0 dX3_clearParts_12 13 rfl rfl rfl ?_
        refine mv_get (M := mX3_clearParts) (v := .ref 172) dX3_clearParts_13 FX3 2 wd983 (by decide) (tc169 hC) rfl rfl 16 rfl ?_
        refine pv_iload_n (M := mX3_clearParts) 1 dX3_clearParts_16 17 rfl rfl rfl ?_
        refine pv_aload_n (M := mX3_clearParts) 0 dX3_clearParts_17 18 rfl rfl rfl ?_
        refine mv_get (M := mX3_clearParts) (v := .ref 173) dX3_clearParts_18 FX3 3 wd984 (by decide) (tc169 hC) rfl rfl 21 rfl ?_
        refine mv_aastr (M := mX3_clearParts) (X := y6.toInt) dX3_clearParts_21 (tc172 hC) (Or.inr rfl) (by decide) (tc173 hC) rfl (fun _ => rfl) rfl (by omega) (by omega) (NMt hC (by omega)) 22 rfl (fun r23 er23 => ?_)
        have or23 := ro.set or16 er23 (by omega) (by omega)
        show PV _ _ _ _ _ _ _ 22 [.ref 169, .int y6] [] _
        refine iv_inc (M := mX3_clearParts) (C := 1) dX3_clearParts_22 25 rfl rfl (by decide) rfl rfl (by decide) (by omega) (by omega) (fun v24 ev24 => ?_)
        show PV _ _ _ _ _ _ _ 25 [.ref 169, .int v24] [] _
        refine pv_goto (M := mX3_clearParts) (tgt := 7) dX3_clearParts_25 (by decide) ?_
        have kb : ∀ d : Nat, (d : Int) < v24.toInt → r23 (172000 + d) = .ref 173 := fun d a => if z : (d : Int) = y6.toInt then by rw [er23, show 172000 + d = 1000 * 172 + (y6.toInt).toNat by omega]; exact up1_eq _ _ _ else by rw [er23, up1_ne (by omega)]; exact kg d (by omega)
        exact ih13 v24 m7 n8 r23 (by first | omega | assumption | exact (iv_rng _).2 | exact (iv_rng _).1 | decide) (by first | omega | assumption | exact (iv_rng _).2 | exact (iv_rng _).1 | decide) kb (by first | omega | assumption | (show (m7 169 4).toInt = 0; omega) | decide) I9 K10 NK10 or23 (by omega)
  have z26 : (0 : Int32).toInt = 0 := by decide
  exact lp12 (((4 - 0) : Int).toNat + 1) 0 m1 n r (by first | omega | assumption | exact (iv_rng _).2 | exact (iv_rng _).1 | decide) (by first | omega | assumption | exact (iv_rng _).2 | exact (iv_rng _).1 | decide) (fun d a => by rw [Int32.toInt_zero] at a; omega) (by first | omega | assumption | (show (m1 169 4).toInt = 0; omega) | decide) I2 K3 NK3 ro.rf (by omega)

set_option maxHeartbeats 2000000 in
set_option maxRecDepth 20000 in
theorem s_X3_addPart_ve (g : pv_G) {T : List mv_T} {m : Nat → Nat → Int32} {n : Nat → Nat → Int64} {r : Nat → Value} (hT : TX T) (I : IV BB m) (hC : TC T) (a0 : Nat) (rm0 : Nat) (ha0 : RowAt T a0 rm0) (hp0 : (m 169 4).toInt < 4) (hp1 : (m a0 1).toInt ≤ 12) : PM g mX3_addPart yX3_addPart (sqVrn T BB (wl [(169, 169, some 4)]) ro r m (fun m' n' r' => nE n n' ∧ ((m' 169 4).toInt = (m 169 4).toInt + 1 ∧ r' = up1 r (172000 + (m 169 4).toInt.toNat) (.ref a0)))) 1 0 0 [.ref 169, .ref a0] (mk T m n r) := by
  have Kp : fr (wl [(169, 169, some 4)]) m m := fr.rf
  have NKp : nE n n := nE.rf
  have zr0 := ha0.2.2.2.2
  have z16 : 0 ≤ (m 169 4).toInt ∧ (m 169 4).toInt ≤ 4 := I 169 4
  refine PM.of 0 (lo := [.ref 169, .ref a0]) rfl (by decide) rfl rfl (Nat.le_of_ble_eq_true rfl) ?_
  refine pv_aload_n (M := mX3_addPart) 0 dX3_addPart_0 1 rfl rfl rfl ?_
  refine iv_get (M := mX3_addPart) (l1 := 0) (l2 := 4) dX3_addPart_1 FX3 4 wd985 (by decide) (tc169 hC) rfl I rfl 4 rfl (fun v1 ev1 pv1 qv1 => ?_)
  have wv1 : v1.toInt = (m 169 4).toInt := congrArg Int32.toInt ev1
  refine pv_iconst (M := mX3_addPart) (v := 4) dX3_addPart_4 5 rfl (by decide) ?_
  refine pv_icmp_ge (M := mX3_addPart) (tgt := 37) dX3_addPart_5 8 rfl (by decide) (fun c2 => ?_) (fun c2 => ?_)
  · have c2 := iv_le (X := 4) (Y := v1.toInt) c2 (by decide) rfl
    exact pv_vret (M := mX3_addPart) dX3_addPart_37 rfl ⟨_, _, _, rfl, rfl, I, Kp, ro.rf, ⟨NKp, (by first | exact ⟨by omega, k27⟩ | (exfalso; omega))⟩⟩
  · have c2 := iv_nle (X := 4) (Y := v1.toInt) c2 (by decide) rfl
    refine pv_aload_n (M := mX3_addPart) 1 dX3_addPart_8 9 rfl rfl rfl ?_
    refine iv_get (M := mX3_addPart) (l1 := 0) (l2 := (rm0 : Int)) dX3_addPart_9 FX8 1 wd197 (by decide) ha0.1 rfl I ha0.2.2.1 12 rfl (fun v3 ev3 pv3 qv3 => ?_)
    have k12 : v3.toInt = (m a0 1).toInt := congrArg Int32.toInt ev3
    refine pv_bipush (M := mX3_addPart) (v := 12) dX3_addPart_12 14 rfl (by decide) ?_
    refine pv_icmp_gt (M := mX3_addPart) (tgt := 37) dX3_addPart_14 17 rfl (by decide) (fun c5 => ?_) (fun c5 => ?_)
    · have c5 := iv_lt (X := 12) (Y := v3.toInt) c5 (by decide) rfl
      exact pv_vret (M := mX3_addPart) dX3_addPart_37 rfl ⟨_, _, _, rfl, rfl, I, Kp, ro.rf, ⟨NKp, (by first | exact ⟨by omega, k27⟩ | (exfalso; omega))⟩⟩
    · have c5 := iv_nlt (X := 12) (Y := v3.toInt) c5 (by decide) rfl
      refine pv_aload_n (M := mX3_addPart) 0 dX3_addPart_17 18 rfl rfl rfl ?_
      refine mv_get (M := mX3_addPart) (v := .ref 172) dX3_addPart_18 FX3 2 wd983 (by decide) (tc169 hC) rfl rfl 21 rfl ?_
      refine pv_aload_n (M := mX3_addPart) 0 dX3_addPart_21 22 rfl rfl rfl ?_
      refine iv_get (M := mX3_addPart) (l1 := 0) (l2 := 4) dX3_addPart_22 FX3 4 wd985 (by decide) (tc169 hC) rfl I rfl 25 rfl (fun v6 ev6 pv6 qv6 => ?_)
      have wv6 : v6.toInt = (m 169 4).toInt := congrArg Int32.toInt ev6
      refine pv_aload_n (M := mX3_addPart) 1 dX3_addPart_25 26 rfl rfl rfl ?_
      refine mv_aastr (M := mX3_addPart) (X := v6.toInt) dX3_addPart_26 (tc172 hC) (Or.inr rfl) (by decide) ha0.1 rfl (fun _ => rfl) rfl (by omega) (by omega) (NMt hC (by omega)) 27 rfl (fun r7 er7 => ?_)
      have or7 := ro.set ro.rf er7 (by omega) (by omega)
      show PV _ _ _ _ _ _ _ 27 [.ref 169, .ref a0] [] _
      have k27 : r7 = up1 r (172000 + (m 169 4).toInt.toNat) (.ref a0) := er7.trans (by congr 1; omega)
      refine pv_aload_n (M := mX3_addPart) 0 dX3_addPart_27 28 rfl rfl rfl ?_
      refine pv_dup (M := mX3_addPart) dX3_addPart_28 29 rfl rfl ?_
      refine iv_get (M := mX3_addPart) (l1 := 0) (l2 := 4) dX3_addPart_29 FX3 4 wd985 (by decide) (tc169 hC) rfl I rfl 32 rfl (fun v9 ev9 pv9 qv9 => ?_)
      have wv9 : v9.toInt = (m 169 4).toInt := congrArg Int32.toInt ev9
      refine pv_iconst (M := mX3_addPart) (v := 1) dX3_addPart_32 33 rfl (by decide) ?_
      refine iv_iadd (M := mX3_addPart) (X := v9.toInt) (Y := 1) dX3_addPart_33 34 rfl rfl (by decide) (by omega) (by omega) (fun v10 ev10 => ?_)
      refine iv_put (M := mX3_addPart) (l1 := 0) (l2 := 4) dX3_addPart_34 FX3 4 wd985 (by decide) rfl (tc169 hC) rfl rfl rfl I rfl (by omega) (by omega) 37 rfl (fun m11 e14 I12 => ?_)
      have K13 := Kp.set e14 rfl
      have NK13 := NKp
      have w15 : (m11 169 4).toInt = v10.toInt := by rw [e14, up2_eq]
      exact pv_vret (M := mX3_addPart) dX3_addPart_37 rfl ⟨_, _, _, rfl, rfl, I12, K13, or7, ⟨NK13, (by first | exact ⟨by omega, k27⟩ | (exfalso; omega))⟩⟩

set_option maxHeartbeats 2000000 in
set_option maxRecDepth 20000 in
theorem s_X11_coverFor_vte (g : pv_G) {T : List mv_T} {m : Nat → Nat → Int32} {n : Nat → Nat → Int64} {r : Nat → Value} {m0 : Nat → Nat → Int32} {r0 : Nat → Value} {la lb : Nat} (hT : TX T) (I : IV BB m) (Kp : fr WX m0 m) (or : rn r0 r) (R : RX T r la lb) (hC : TC T) (hc2 : r 2 = .ref 169) (x0 : Int32) (hp0 : x0.toInt ≠ 0) (hp1 : (mbs x0 8).length ≤ 4) (hp2 : ∀ k, k ∈ mbs x0 8 → (m (61 + 2 * k) 1).toInt ≤ 12) (hp3 : (m 169 1).toInt ≠ 0 → SHC m (m 169 1) (m 170 1).toInt) : PV none g mX11_coverFor (sqAr T BB WX rn r0 m0 169 (fun m' r' => m' 169 1 = x0 ∧ SHC m' x0 (m' 170 1).toInt)) 5 0 0 27 [.ref 0, .int x0, .ref 169, pv_U] [] (mk T m n r) := by
  have R0 := R
  have zR := R.2.2.2.2.1.1
  have zR2 := R.2.2.2.2.2.1
  have hc20 := hc2
  have z87 : 0 ≤ (m 169 4).toInt ∧ (m 169 4).toInt ≤ 4 := I 169 4
  refine pv_aload_n (M := mX11_coverFor) 2 dX11_coverFor_27 28 rfl rfl rfl ?_
  refine iv_get (M := mX11_coverFor) (l1 := (-2147483648)) (l2 := 2147483647) dX11_coverFor_28 FX3 1 wd982 (by decide) (tc169 hC) rfl I rfl 31 rfl (fun v1 ev1 pv1 qv1 => ?_)
  have k31 : v1 = m 169 1 := ev1
  refine pv_iload_n (M := mX11_coverFor) 1 dX11_coverFor_31 32 rfl rfl rfl ?_
  refine pv_icmp_eq (M := mX11_coverFor) (tgt := 80) dX11_coverFor_32 35 rfl (by decide) (fun c3 => ?_) (fun c3 => ?_)
  · have c3 := iv_eq (X := v1.toInt) (Y := x0.toInt) c3 rfl rfl
    try have k80 := noE
    refine pv_aload_n (M := mX11_coverFor) 2 dX11_coverFor_80 81 rfl rfl rfl ?_
    exact pv_aret (M := mX11_coverFor) dX11_coverFor_81 rfl ⟨_, _, _, rfl, rfl, I, Kp, or, (by first | exact ⟨by rw [k80, up2_eq], by rw [show m 170 1 = MP 170 1 from (by rw [k80, up2_ne (by omega)])]; exact SHC_eq (fun a j h1 h2 => by rw [k80, up2_ne (by omega)]) k75C⟩ | (have e : m 169 1 = x0 := k31.symm.trans (Int32.toInt_inj.mp (by omega)); have q := hp3 (by rw [e]; exact hp0); rw [e] at q; exact ⟨e, q⟩))⟩
  · have c3 := iv_ne (X := v1.toInt) (Y := x0.toInt) c3 rfl rfl
    refine pv_aload_n (M := mX11_coverFor) 2 dX11_coverFor_35 36 rfl rfl rfl ?_
    refine pv_callv (M := mX11_coverFor) (as := []) (st := []) (kc2 := 0) (ks2 := 0) dX11_coverFor_36 wd1012 YX3_clearParts ⟨wd976, wd977⟩ (mk_get (tc169 hC)) rfl rfl (s_X3_clearParts_ve g hT I hC) rfl rfl (Nat.le_of_ble_eq_true rfl) (by decide) rfl rfl 39 rfl (fun rv h1 q5 => ?_)
    obtain ⟨m6, n7, r10, rfl, rfl, I8, K9, qr10, rm6⟩ := q5
    have NK9c := rm6.1
    replace rm6 := rm6.2
    replace rm6 : (m6 169 4).toInt = 0 ∧ ∀ d, d < 4 → r10 (172000 + d) = .ref 173 := rm6
    have or10 := rn.ro or qr10
    have R := RX_ro R qr10
    have zR := R.2.2.2.2.1.1
    have zR2 := R.2.2.2.2.2.1
    have hc2 : r10 2 = .ref 169 := or10.1
    have K9c := K9
    have K9 := Kp.trans (K9.sub (by exact WX_wl (by decide)))
    show PV _ _ _ _ _ _ _ 39 [.ref 0, .int x0, .ref 169, pv_U] [] _
    have kP0 := rm6.2
    have kw0 : ∀ a j, 61 ≤ a → a ≤ 76 → m6 a j = m a j := fun a j h1 h2 => K9c a j (WX_wl (by decide) a j (WX_le (by omega)))
    have k4z : (m6 169 4).toInt = 0 := rm6.1
    refine pv_iconst (M := mX11_coverFor) (v := 0) dX11_coverFor_39 40 rfl (by decide) ?_
    refine pv_istore_n (M := mX11_coverFor) 3 (lo2 := [.ref 0, .int x0, .ref 169, .int 0]) dX11_coverFor_40 41 rfl rfl (by decide) rfl rfl ?_
    have lp20 : ∀ (fuel19 : Nat) (y14 : Int32) (m15 : Nat → Nat → Int32) (n16 : Nat → Nat → Int64) (r24 : Nat → Value), (0 ≤ y14.toInt) → (y14.toInt ≤ 8) → (PCH r24 x0 y14.toInt.toNat) → ((m15 169 4).toInt = ((mbs x0 y14.toInt.toNat).length : Int)) → (∀ a j, 61 ≤ a → a ≤ 76 → m15 a j = m a j) → IV BB m15 → fr WX m0 m15 → rn r0 r24 → ((8 - y14.toInt) : Int).toNat < fuel19 → PV none g mX11_coverFor (sqAr T BB WX rn r0 m0 169 (fun m' r' => m' 169 1 = x0 ∧ SHC m' x0 (m' 170 1).toInt)) 5 0 0 41 [.ref 0, .int x0, .ref 169, .int y14] [] (mk T m15 n16 r24) := by
      intro fuel19
      induction fuel19 with
      | zero => intro y14 m15 n16 r24 b22 b23 b25 b26 b27 I17 K18 or24 z28; omega
      | succ fuel19 ih21 =>
        intro y14 m15 n16 r24 b22 b23 b25 b26 b27 I17 K18 or24 z28
        have hc2 := or24.1
        have R := RX_rn2 R0 or or24
        have zR := R.2.2.2.2.1.1
        have zR2 := R.2.2.2.2.2.1
        have z29 : 0 ≤ (m15 169 4).toInt ∧ (m15 169 4).toInt ≤ 4 := I17 169 4
        have kgP := (show PCH r24 x0 y14.toInt.toNat by assumption)
        have kg4 := (show (m15 169 4).toInt = ((mbs x0 y14.toInt.toNat).length : Int) by assumption)
        have kgw := (show ∀ a j, 61 ≤ a → a ≤ 76 → m15 a j = m a j by assumption)
        refine pv_iload_n (M := mX11_coverFor) 3 dX11_coverFor_41 42 rfl rfl rfl ?_
        refine pv_bipush (M := mX11_coverFor) (v := 8) dX11_coverFor_42 44 rfl (by decide) ?_
        refine pv_icmp_ge (M := mX11_coverFor) (tgt := 71) dX11_coverFor_44 47 rfl (by decide) (fun c33 => ?_) (fun c33 => ?_)
        · have c33 := iv_le (X := 8) (Y := y14.toInt) c33 (by decide) rfl
          have kP8 : PCH r24 x0 8 := by rw [← (show y14.toInt.toNat = 8 by omega)]; exact kgP
          obtain ⟨pp, hpp⟩ : ∃ pp, pp = ppx x0 8 := ⟨_, rfl⟩
          have P : PX T r24 pp (fun d => if ppx x0 8 d = 173 then 0 else 16) := by rw [hpp]; exact PX_pch hC kP8 (fun k hk => rowD hT hk)
          have kS8 : Szs (szp m15 pp) := by rw [hpp]; exact ppx_S I17 (by omega) (fun k hk => by have z := mbs_lt hk; rw [kgw _ _ (by omega) (by omega)]; exact hp2 k hk) rfl
          refine pv_aload_n (M := mX11_coverFor) 2 dX11_coverFor_71 72 rfl rfl rfl ?_
          refine pv_callv (M := mX11_coverFor) (as := []) (st := []) (kc2 := 0) (ks2 := 0) dX11_coverFor_72 wd1017 YX3_solve ⟨wd1018, wd1019⟩ (mk_get (tc169 hC)) rfl rfl (s_X3_solve_ve g hT I17 hC P (by rw [hpp]; exact ppx_D x0 (by omega)) kS8) rfl rfl (Nat.le_of_ble_eq_true rfl) (by decide) rfl rfl 75 rfl (fun rv h1 q38 => ?_)
          obtain ⟨m39, n40, rfl, rfl, I41, K42, rm39⟩ := q38
          replace rm39 : TBL m39 pp 0 ∧ (m39 170 1).toInt = (m39 178 0).toInt := rm39
          have K42c := K42
          have w43 : (m39 169 4).toInt = (m15 169 4).toInt := congrArg Int32.toInt (K42 169 4 rfl)
          have K42 := K18.trans (K42.sub (by exact WX_wl (by decide)))
          show PV _ _ _ _ _ _ _ 75 [.ref 0, .int x0, .ref 169, .int y14] [] _
          subst hpp
          have k75 := rm39
          have k75f := K42c
          have k75I := I41
          have k75r := row_eq (m := m15) (m2 := m39) (ppx_D x0 (i := 8) (by omega)) (fun b j z => k75f b j (wo_s (by omega)))
          have k75S : Szs (szp m39 (ppx x0 8)) := fun d hd => by rw [← k75r.1 d hd]; exact kS8 d hd
          have k75C := SHC_tb k75I k75S k75.1 k75.2
          refine pv_aload_n (M := mX11_coverFor) 2 dX11_coverFor_75 76 rfl rfl rfl ?_
          refine pv_iload_n (M := mX11_coverFor) 1 dX11_coverFor_76 77 rfl rfl rfl ?_
          refine iv_put (M := mX11_coverFor) (l1 := (-2147483648)) (l2 := 2147483647) dX11_coverFor_77 FX3 1 wd982 (by decide) rfl (tc169 hC) rfl rfl rfl I41 rfl (iv_rng x0).1 (iv_rng x0).2 80 rfl (fun m51 e54 I52 => ?_)
          have K53 := K42.set e54 (by decide)
          have w55 : (m51 169 4).toInt = (m39 169 4).toInt := by rw [e54, up2_ne (by omega)]
          try have k80 := e54
          refine pv_aload_n (M := mX11_coverFor) 2 dX11_coverFor_80 81 rfl rfl rfl ?_
          exact pv_aret (M := mX11_coverFor) dX11_coverFor_81 rfl ⟨_, _, _, rfl, rfl, I52, K53, or24, (by first | exact ⟨by rw [k80, up2_eq], by rw [show m51 170 1 = m39 170 1 from (by rw [k80, up2_ne (by omega)])]; exact SHC_eq (fun a j h1 h2 => by rw [k80, up2_ne (by omega)]) k75C⟩ | (have e : m 169 1 = x0 := k31.symm.trans (Int32.toInt_inj.mp (by omega)); have q := hp3 (by rw [e]; exact hp0); rw [e] at q; exact ⟨e, q⟩))⟩
        · have c33 := iv_nle (X := 8) (Y := y14.toInt) c33 (by decide) rfl
          refine pv_iload_n (M := mX11_coverFor) 1 dX11_coverFor_47 48 rfl rfl rfl ?_
          refine pv_iload_n (M := mX11_coverFor) 3 dX11_coverFor_48 49 rfl rfl rfl ?_
          refine pv_calls (M := mX11_coverFor) (as := [.int x0, .int y14]) (st := []) (kc2 := 0) (ks2 := 0) dX11_coverFor_49 wd931 YX11_isAmong wd932 (s_X11_isAmong g hT I17 x0 y14) rfl rfl (Nat.le_of_ble_eq_true rfl) (by decide) rfl rfl 52 rfl (fun rv h1 q57 => ?_)
          obtain ⟨v58, rfl, rfl, pv58, qv58, rv58⟩ := q57
          replace rv58 : v58 = amv x0 y14 := rv58
          show PV _ _ _ _ _ _ _ 52 [.ref 0, .int x0, .ref 169, .int y14] [.int v58] _
          have k52 : (amv x0 (Int32.ofInt (y14.toInt.toNat : Nat))).toInt = v58.toInt := by rw [ofn (by omega), rv58]
          refine pv_if_eq (M := mX11_coverFor) (tgt := 65) dX11_coverFor_52 55 rfl (by decide) (fun c60 => ?_) (fun c60 => ?_)
          · have c60 := iv_eq (X := v58.toInt) (Y := 0) c60 rfl (by decide)
            try have k65 := rm15
            try have k65w : ∀ a j, 61 ≤ a → a ≤ 76 → m15 a j = m a j := fun a j h1 h2 => (K9c a j (WX_wl (by decide) a j (WX_le (by omega)))).trans (kgw a j h1 h2)
            refine iv_inc (M := mX11_coverFor) (C := 1) dX11_coverFor_65 68 rfl rfl (by decide) rfl rfl (by decide) (by omega) (by omega) (fun v63 ev63 => ?_)
            show PV _ _ _ _ _ _ _ 68 [.ref 0, .int x0, .ref 169, .int v63] [] _
            refine pv_goto (M := mX11_coverFor) (tgt := 41) dX11_coverFor_68 (by decide) ?_
            have kbw : ∀ a j, 61 ≤ a → a ≤ 76 → m15 a j = m a j := by first | exact kgw | exact k65w
            have kbP : PCH r24 x0 v63.toInt.toNat := by rw [show v63.toInt.toNat = (y14.toInt).toNat + 1 by omega]; first | exact PCH_no kgP (by omega) | exact PCH_yes (p := (m15 169 4).toInt.toNat) kgP kam (by omega) (by rw [← kb62]; exact k65.2)
            have kb4 : (m15 169 4).toInt = ((mbs x0 v63.toInt.toNat).length : Int) := by rw [show v63.toInt.toNat = (y14.toInt).toNat + 1 by omega]; first | (rw [mbs_no (by omega)]; exact kg4) | (have z := k65.1; rw [kmy.1]; omega)
            exact ih21 v63 m15 n16 r24 (by first | omega | assumption | exact (iv_rng _).2 | exact (iv_rng _).1 | decide) (by first | omega | assumption | exact (iv_rng _).2 | exact (iv_rng _).1 | decide) kbP kb4 kbw I17 K18 or24 (by omega)
          · have c60 := iv_ne (X := v58.toInt) (Y := 0) c60 rfl (by decide)
            have kam : (amv x0 (Int32.ofInt (y14.toInt.toNat : Nat))).toInt ≠ 0 := by omega
            have kmy := mbs_yes kam
            have kml := mbs_le x0 8 (y14.toInt.toNat + 1) (by omega)
            have kmk := hp2 y14.toInt.toNat (mbs_up 8 (y14.toInt.toNat + 1) _ (by omega) kmy.2)
            refine pv_aload_n (M := mX11_coverFor) 2 dX11_coverFor_55 56 rfl rfl rfl ?_
            refine pv_aload_n (M := mX11_coverFor) 0 dX11_coverFor_56 57 rfl rfl rfl ?_
            refine mv_get (M := mX11_coverFor) (v := .ref 60) dX11_coverFor_57 FX11 3 wd410 (by decide) (tl0 hT) rfl rfl 60 rfl ?_
            refine pv_iload_n (M := mX11_coverFor) 3 dX11_coverFor_60 61 rfl rfl rfl ?_
            refine iv_qdeed (M := mX11_coverFor) (X := y14.toInt) dX11_coverFor_61 hT R rfl (by omega) (by omega) 62 rfl (fun b71 eb71 hb71 => ?_)
            have zb71 := hb71.2.2.2.2
            have kb62 : b71 = 61 + 2 * y14.toInt.toNat := by omega
            have k62 : (m15 b71 1).toInt ≤ 12 := by rw [kb62, kgw _ _ (by omega) (by omega)]; exact kmk
            refine pv_callv (M := mX11_coverFor) (as := [.ref b71]) (st := []) (kc2 := 0) (ks2 := 0) dX11_coverFor_62 wd1013 YX3_addPart ⟨wd1014, wd1015⟩ (mk_get (tc169 hC)) rfl rfl (s_X3_addPart_ve g hT I17 hC b71 16 hb71 (by omega) (by omega)) rfl rfl (Nat.le_of_ble_eq_true rfl) (by decide) rfl rfl 65 rfl (fun rv h1 q74 => ?_)
            obtain ⟨m75, n76, r79, rfl, rfl, I77, K78, qr79, rm75⟩ := q74
            have NK78c := rm75.1
            replace rm75 := rm75.2
            replace rm75 : (m75 169 4).toInt = (m15 169 4).toInt + 1 ∧ r79 = up1 r24 (172000 + (m15 169 4).toInt.toNat) (.ref b71) := rm75
            have or79 := rn.ro or24 qr79
            have R := RX_ro R qr79
            have zR := R.2.2.2.2.1.1
            have zR2 := R.2.2.2.2.2.1
            have hc2 : r79 2 = .ref 169 := or79.1
            have K78c := K78
            have K78 := K18.trans (K78.sub (by exact WX_wl (by decide)))
            show PV _ _ _ _ _ _ _ 65 [.ref 0, .int x0, .ref 169, .int y14] [] _
            try have k65 := rm75
            try have k65w : ∀ a j, 61 ≤ a → a ≤ 76 → m75 a j = m a j := fun a j h1 h2 => (K78c a j (WX_wl (by decide) a j (WX_le (by omega)))).trans (kgw a j h1 h2)
            refine iv_inc (M := mX11_coverFor) (C := 1) dX11_coverFor_65 68 rfl rfl (by decide) rfl rfl (by decide) (by omega) (by omega) (fun v82 ev82 => ?_)
            show PV _ _ _ _ _ _ _ 68 [.ref 0, .int x0, .ref 169, .int v82] [] _
            refine pv_goto (M := mX11_coverFor) (tgt := 41) dX11_coverFor_68 (by decide) ?_
            have kbw : ∀ a j, 61 ≤ a → a ≤ 76 → m75 a j = m a j := by first | exact kgw | exact k65w
            have kbP : PCH r79 x0 v82.toInt.toNat := by rw [show v82.toInt.toNat = (y14.toInt).toNat + 1 by omega]; first | exact PCH_no kgP (by omega) | exact PCH_yes (p := (m15 169 4).toInt.toNat) kgP kam (by omega) (by rw [← kb62]; exact k65.2)
            have kb4 : (m75 169 4).toInt = ((mbs x0 v82.toInt.toNat).length : Int) := by rw [show v82.toInt.toNat = (y14.toInt).toNat + 1 by omega]; first | (rw [mbs_no (by omega)]; exact kg4) | (have z := k65.1; rw [kmy.1]; omega)
            exact ih21 v82 m75 n76 r79 (by first | omega | assumption | exact (iv_rng _).2 | exact (iv_rng _).1 | decide) (by first | omega | assumption | exact (iv_rng _).2 | exact (iv_rng _).1 | decide) kbP kb4 kbw I77 K78 or79 (by omega)
    have z86 : (0 : Int32).toInt = 0 := by decide
    exact lp20 (((8 - 0) : Int).toNat + 1) 0 m6 n7 r10 (by first | omega | assumption | exact (iv_rng _).2 | exact (iv_rng _).1 | decide) (by first | omega | assumption | exact (iv_rng _).2 | exact (iv_rng _).1 | decide) (PCH_0 kP0) (by rw [Int32.toInt_zero]; exact k4z) kw0 I8 K9 or10 (by omega)
