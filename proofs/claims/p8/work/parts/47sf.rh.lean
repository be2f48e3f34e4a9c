set_option maxHeartbeats 2000000 in
set_option maxRecDepth 20000 in
theorem s_X12_mayStrike_vz (g : pv_G) {T : List mv_T} {m : Nat → Nat → Int32} {n : Nat → Nat → Int64} {r : Nat → Value} (hT : TX T) (I : IV BB m) (x0 : Int32) (hl0 : 0 ≤ x0.toInt) (hh0 : x0.toInt ≤ 7) (x1 : Int32) (hl1 : 0 ≤ x1.toInt) (hh1 : x1.toInt ≤ 39) (x2 : Int32) (t : Int → Int) (hp0 : x1.toInt < nu m x0.toInt 0) (hp1 : LX m) (hp2 : LAWr m t (m 123 20).toInt.toNat) : PM g mX12_mayStrike yX12_mayStrike (sqI T BB (wl [(141, 141, none), (142, 142, none)]) r m 0 1 (fun m' v => (FCT (m' 142) (m 128) (m 125) (40 * x0.toInt.toNat) (40 * x0.toInt.toNat) (m 124 x0.toInt.toNat).toInt.toNat x1.toInt x2.toInt (m 123 1).toInt x0.toInt) ∧ ((v.toInt = 1 ∧ ¬ FRB t (m 123 20).toInt.toNat (frn m')) ∨ (v.toInt = 0 ∧ FRB t (m 123 20).toInt.toNat (frn m'))))) 3 0 0 [.ref 123, .int x0, .int x1, .int x2] (mk T m n r) := by
  have Kp : fr (wl [(141, 141, none), (142, 142, none)]) m m := fr.rf
  have kLX := hp1
  have z61 : 0 ≤ (m 123 20).toInt ∧ (m 123 20).toInt ≤ 12 := I 123 20
  refine PM.of 1 (lo := [.ref 123, .int x0, .int x1, .int x2, pv_U]) rfl (by decide) rfl rfl (Nat.le_of_ble_eq_true rfl) ?_
  refine pv_aload_n (M := mX12_mayStrike) 0 dX12_mayStrike_0 1 rfl rfl rfl ?_
  refine pv_iload_n (M := mX12_mayStrike) 1 dX12_mayStrike_1 2 rfl rfl rfl ?_
  refine pv_iload_n (M := mX12_mayStrike) 2 dX12_mayStrike_2 3 rfl rfl rfl ?_
  refine pv_iload_n (M := mX12_mayStrike) 3 dX12_mayStrike_3 4 rfl rfl rfl ?_
  refine pv_callv (M := mX12_mayStrike) (as := [.int x0, .int x1, .int x2]) (st := []) (kc2 := 0) (ks2 := 0) dX12_mayStrike_4 wd1503 YX12_feels ⟨wd1505, wd78⟩ (mk_get (tl123 hT)) rfl rfl (s_X12_feels_vz g hT I x0 (by omega) (by omega) x1 (by omega) (by omega) x2 (by first | omega | assumption | exact (iv_rng _).2 | exact (iv_rng _).1 | decide)) rfl rfl (Nat.le_of_ble_eq_true rfl) (by decide) rfl rfl 7 rfl (fun rv h1 q1 => ?_)
  obtain ⟨m2, n3, rfl, rfl, I4, K5, rm2⟩ := q1
  replace rm2 : FCT (m2 142) (m 128) (m 125) (40 * x0.toInt.toNat) (40 * x0.toInt.toNat) (m 124 x0.toInt.toNat).toInt.toNat x1.toInt x2.toInt (m 123 1).toInt x0.toInt := rm2
  have K5c := K5
  have kLX : LX m2 := LX_eq kLX (K5c 123 20 rfl) (fun j => K5c 136 j rfl) (fun j => K5c 138 j rfl) (fun j => K5c 139 j rfl) (fun j => K5c 140 j rfl)
  have w6 : (m2 123 20).toInt = (m 123 20).toInt := congrArg Int32.toInt (K5 123 20 rfl)
  have K5 := Kp.trans (K5.sub (wl_sub (by decide)))
  show PV _ _ _ _ _ _ _ 7 [.ref 123, .int x0, .int x1, .int x2, pv_U] [] _
  have k7 := rm2
  refine pv_iconst (M := mX12_mayStrike) (v := 0) dX12_mayStrike_7 8 rfl (by decide) ?_
  refine pv_istore (M := mX12_mayStrike) (lo2 := [.ref 123, .int x0, .int x1, .int x2, .int 0]) dX12_mayStrike_8 10 rfl (by decide) rfl rfl ?_
  have lp14 : ∀ (fuel13 : Nat) (y8 : Int32) (m9 : Nat → Nat → Int32) (n10 : Nat → Nat → Int64), (0 ≤ y8.toInt) → (y8.toInt ≤ 12) → (y8.toInt ≤ (m 123 20).toInt) → (FCT (m9 142) (m 128) (m 125) (40 * x0.toInt.toNat) (40 * x0.toInt.toNat) (m 124 x0.toInt.toNat).toInt.toNat x1.toInt x2.toInt (m 123 1).toInt x0.toInt) → (∀ q, q < y8.toInt.toNat → ¬ (t (cps t q) = 110 ∧ chb (CDC t (cps t q) (frn m9)) = true)) → (LX m9) → IV BB m9 → fr (wl [(141, 141, none), (142, 142, none)]) m m9 → ((12 - y8.toInt) : Int).toNat < fuel13 → PV none g mX12_mayStrike (sqI T BB (wl [(141, 141, none), (142, 142, none)]) r m 0 1 (fun m' v => (FCT (m' 142) (m 128) (m 125) (40 * x0.toInt.toNat) (40 * x0.toInt.toNat) (m 124 x0.toInt.toNat).toInt.toNat x1.toInt x2.toInt (m 123 1).toInt x0.toInt) ∧ ((v.toInt = 1 ∧ ¬ FRB t (m 123 20).toInt.toNat (frn m')) ∨ (v.toInt = 0 ∧ FRB t (m 123 20).toInt.toNat (frn m'))))) 3 0 0 10 [.ref 123, .int x0, .int x1, .int x2, .int y8] [] (mk T m9 n10 r) := by
    intro fuel13
    induction fuel13 with
    | zero => intro y8 m9 n10 b16 b17 b18 b19 b20 b21 I11 K12 z22; omega
    | succ fuel13 ih15 =>
      intro y8 m9 n10 b16 b17 b18 b19 b20 b21 I11 K12 z22
      have z23 : 0 ≤ (m9 123 20).toInt ∧ (m9 123 20).toInt ≤ 12 := I11 123 20
      have kLX := (show LX m9 by assumption)
      have kgf := (show FCT (m9 142) (m 128) (m 125) (40 * x0.toInt.toNat) (40 * x0.toInt.toNat) (m 124 x0.toInt.toNat).toInt.toNat x1.toInt x2.toInt (m 123 1).toInt x0.toInt by assumption)
      have kgn := (show ∀ q, q < y8.toInt.toNat → ¬ (t (cps t q) = 110 ∧ chb (CDC t (cps t q) (frn m9)) = true) by assumption)
      have k20e : (m9 123 20).toInt = (m 123 20).toInt := congrArg Int32.toInt (K12 123 20 rfl)
      have klw : LAWr m9 t (m 123 20).toInt.toNat := LAWr_eq hp2 (fun a j h1 h2 => K12 a j (by have : a = 136 ∨ a = 137 ∨ a = 138 ∨ a = 139 ∨ a = 140 := (by omega); rcases this with rfl | rfl | rfl | rfl | rfl <;> rfl))
      refine pv_iload (M := mX12_mayStrike) dX12_mayStrike_10 12 rfl rfl ?_
      refine pv_aload_n (M := mX12_mayStrike) 0 dX12_mayStrike_12 13 rfl rfl rfl ?_
      refine iv_get (M := mX12_mayStrike) (l1 := 0) (l2 := 12) dX12_mayStrike_13 FX12 20 wd1193 (by decide) (tl123 hT) rfl I11 rfl 16 rfl (fun v28 ev28 pv28 qv28 => ?_)
      have wv28 : v28.toInt = (m9 123 20).toInt := congrArg Int32.toInt ev28
      refine pv_icmp_ge (M := mX12_mayStrike) (tgt := 61) dX12_mayStrike_16 19 rfl (by decide) (fun c29 => ?_) (fun c29 => ?_)
      · have c29 := iv_le (X := v28.toInt) (Y := y8.toInt) c29 rfl rfl
        refine pv_iconst (M := mX12_mayStrike) (v := 1) dX12_mayStrike_61 62 rfl (by decide) ?_
        have z30 : (1 : Int32).toInt = 1 := by decide
        exact pv_iret (M := mX12_mayStrike) dX12_mayStrike_62 rfl rfl ⟨_, _, _, rfl, rfl, I11, K12, by decide, by decide, ⟨kgf, Or.inl ⟨by decide, fun ⟨q, h1, h2⟩ => kgn q (by omega) h2⟩⟩⟩
      · have c29 := iv_nle (X := v28.toInt) (Y := y8.toInt) c29 rfl rfl
        refine pv_aload_n (M := mX12_mayStrike) 0 dX12_mayStrike_19 20 rfl rfl rfl ?_
        refine mv_get (M := mX12_mayStrike) (v := .ref 137) dX12_mayStrike_20 FX12 28 wd1201 (by decide) (tl123 hT) rfl rfl 23 rfl ?_
        refine pv_iload (M := mX12_mayStrike) dX12_mayStrike_23 25 rfl rfl ?_
        refine iv_iald (M := mX12_mayStrike) (X := y8.toInt) (l1 := (-2147483648)) (l2 := 2147483647) dX12_mayStrike_25 (tl137 hT) rfl (by omega) (by omega) I11 (fun _ => rfl) 26 rfl (fun v31 ev31 pv31 qv31 => ?_)
        have kR := klw y8.toInt.toNat (by omega)
        have k26 : v31.toInt = t (cps t y8.toInt.toNat) := by rw [ev31]; exact kR.1
        refine pv_bipush (M := mX12_mayStrike) (v := 110) dX12_mayStrike_26 28 rfl (by decide) ?_
        refine pv_icmp_ne (M := mX12_mayStrike) (tgt := 55) dX12_mayStrike_28 31 rfl (by decide) (fun c34 => ?_) (fun c34 => ?_)
        · have c34 := iv_ne (X := v31.toInt) (Y := 110) c34 rfl (by decide)
          refine iv_inc (M := mX12_mayStrike) (C := 1) dX12_mayStrike_55 58 rfl rfl (by decide) rfl rfl (by decide) (by omega) (by omega) (fun v35 ev35 => ?_)
          show PV _ _ _ _ _ _ _ 58 [.ref 123, .int x0, .int x1, .int x2, .int v35] [] _
          refine pv_goto (M := mX12_mayStrike) (tgt := 10) dX12_mayStrike_58 (by decide) ?_
          have kbf : FCT (m9 142) (m 128) (m 125) (40 * x0.toInt.toNat) (40 * x0.toInt.toNat) (m 124 x0.toInt.toNat).toInt.toNat x1.toInt x2.toInt (m 123 1).toInt x0.toInt := by first | exact kfc49 | exact kgf
          have kbn : ∀ q, q < v35.toInt.toNat → ¬ (t (cps t q) = 110 ∧ chb (CDC t (cps t q) (frn m9)) = true) := fun q h z => if y : q = (y8.toInt).toNat then (by subst y; first | (have z1 := z.1; omega) | (rw [kf49] at z; rw [(k49c.resolve_left (fun x => (by have w1 := congrArg Int32.toInt x.1; have z1 : (1 : Int32).toInt = 1 := (by decide); omega))).2] at z; exact absurd z.2 (by decide))) else kgn q (by omega) (by first | exact z | (rw [kf49] at z; exact z))
          exact ih15 v35 m9 n10 (by first | omega | assumption | exact (iv_rng _).2 | exact (iv_rng _).1 | decide) (by first | omega | assumption | exact (iv_rng _).2 | exact (iv_rng _).1 | decide) (by first | omega | assumption | (show v35.toInt ≤ (m 123 20).toInt; omega) | decide) kbf kbn kLX I11 K12 (by omega)
        · have c34 := iv_eq (X := v31.toInt) (Y := 110) c34 rfl (by decide)
          refine pv_aload_n (M := mX12_mayStrike) 0 dX12_mayStrike_31 32 rfl rfl rfl ?_
          refine pv_aload_n (M := mX12_mayStrike) 0 dX12_mayStrike_32 33 rfl rfl rfl ?_
          refine mv_get (M := mX12_mayStrike) (v := .ref 139) dX12_mayStrike_33 FX12 30 wd1203 (by decide) (tl123 hT) rfl rfl 36 rfl ?_
          refine pv_iload (M := mX12_mayStrike) dX12_mayStrike_36 38 rfl rfl ?_
          refine iv_iald (M := mX12_mayStrike) (X := y8.toInt) (l1 := 0) (l2 := 180) dX12_mayStrike_38 (tl139 hT) rfl (by omega) (by omega) I11 (fun _ => rfl) 39 rfl (fun v38 ev38 pv38 qv38 => ?_)
          refine pv_aload_n (M := mX12_mayStrike) 0 dX12_mayStrike_39 40 rfl rfl rfl ?_
          refine mv_get (M := mX12_mayStrike) (v := .ref 140) dX12_mayStrike_40 FX12 31 wd1204 (by decide) (tl123 hT) rfl rfl 43 rfl ?_
          refine pv_iload (M := mX12_mayStrike) dX12_mayStrike_43 45 rfl rfl ?_
          refine iv_iald (M := mX12_mayStrike) (X := y8.toInt) (l1 := 0) (l2 := 180) dX12_mayStrike_45 (tl140 hT) rfl (by omega) (by omega) I11 (fun _ => rfl) 46 rfl (fun v39 ev39 pv39 qv39 => ?_)
          have k46 : WFc (m9 136) v38.toInt.toNat v39.toInt.toNat := by rw [ev38, ev39]; exact (kLX y8.toInt.toNat (by omega)).2.1
          have k46b : v38.toInt ≤ 179 := by rw [ev38]; exact (kLX y8.toInt.toNat (by omega)).2.2.2
          have k46z : v38 = m9 139 y8.toInt.toNat := ev38
          have k46y : v39 = m9 140 y8.toInt.toNat := ev39
          refine pv_callv (M := mX12_mayStrike) (as := [.int v38, .int v39]) (st := []) (kc2 := 0) (ks2 := 0) dX12_mayStrike_46 wd1515 YX12_comesTo ⟨wd1517, wd81⟩ (mk_get (tl123 hT)) rfl rfl (s_X12_comesTo_vz g hT I11 v38 (by omega) (by omega) v39 (by omega) (by omega) (by first | omega | assumption | exact (iv_rng _).2 | exact (iv_rng _).1 | decide) (by first | omega | assumption | exact (iv_rng _).2 | exact (iv_rng _).1 | decide)) rfl rfl (Nat.le_of_ble_eq_true rfl) (by decide) rfl rfl 49 rfl (fun rv h1 q44 => ?_)
          obtain ⟨m45, n46, v49, rfl, rfl, I47, K48, pv49, qv49, rv49⟩ := q44
          replace rv49 : RKR (er (m9 136) (frn m9) v39.toInt.toNat v38.toInt.toNat []) v49 := rv49
          have K48c := K48
          have kLX : LX m45 := LX_eq kLX (K48c 123 20 rfl) (fun j => K48c 136 j rfl) (fun j => K48c 138 j rfl) (fun j => K48c 139 j rfl) (fun j => K48c 140 j rfl)
          have w50 : (m45 123 20).toInt = (m9 123 20).toInt := congrArg Int32.toInt (K48 123 20 rfl)
          have K48 := K12.trans (K48.sub (wl_sub (by decide)))
          show PV _ _ _ _ _ _ _ 49 [.ref 123, .int x0, .int x1, .int x2, .int y8] [.int v49] _
          have k49 := RKR_of (by have q := rv49; rw [k46z, k46y] at q; exact q) kR.2.2.1
          have k49c := chb_1 kR.2.2.2 k49
          have kf49 : frn m45 = frn m9 := funext fun j => by unfold frn; rw [K48c 142 j rfl]
          have kfc49 : FCT (m45 142) (m 128) (m 125) (40 * x0.toInt.toNat) (40 * x0.toInt.toNat) (m 124 x0.toInt.toNat).toInt.toNat x1.toInt x2.toInt (m 123 1).toInt x0.toInt := by rw [show m45 142 = m9 142 from funext fun j => K48c 142 j rfl]; exact kgf
          refine pv_iconst (M := mX12_mayStrike) (v := 1) dX12_mayStrike_49 50 rfl (by decide) ?_
          refine pv_icmp_ne (M := mX12_mayStrike) (tgt := 55) dX12_mayStrike_50 53 rfl (by decide) (fun c55 => ?_) (fun c55 => ?_)
          · have c55 := iv_ne (X := v49.toInt) (Y := 1) c55 rfl (by decide)
            refine iv_inc (M := mX12_mayStrike) (C := 1) dX12_mayStrike_55 58 rfl rfl (by decide) rfl rfl (by decide) (by omega) (by omega) (fun v56 ev56 => ?_)
            show PV _ _ _ _ _ _ _ 58 [.ref 123, .int x0, .int x1, .int x2, .int v56] [] _
            refine pv_goto (M := mX12_mayStrike) (tgt := 10) dX12_mayStrike_58 (by decide) ?_
            have kbf : FCT (m45 142) (m 128) (m 125) (40 * x0.toInt.toNat) (40 * x0.toInt.toNat) (m 124 x0.toInt.toNat).toInt.toNat x1.toInt x2.toInt (m 123 1).toInt x0.toInt := by first | exact kfc49 | exact kgf
            have kbn : ∀ q, q < v56.toInt.toNat → ¬ (t (cps t q) = 110 ∧ chb (CDC t (cps t q) (frn m45)) = true) := fun q h z => if y : q = (y8.toInt).toNat then (by subst y; first | (have z1 := z.1; omega) | (rw [kf49] at z; rw [(k49c.resolve_left (fun x => (by have w1 := congrArg Int32.toInt x.1; have z1 : (1 : Int32).toInt = 1 := (by decide); omega))).2] at z; exact absurd z.2 (by decide))) else kgn q (by omega) (by first | exact z | (rw [kf49] at z; exact z))
            exact ih15 v56 m45 n46 (by first | omega | assumption | exact (iv_rng _).2 | exact (iv_rng _).1 | decide) (by first | omega | assumption | exact (iv_rng _).2 | exact (iv_rng _).1 | decide) (by first | omega | assumption | (show v56.toInt ≤ (m 123 20).toInt; omega) | decide) kbf kbn kLX I47 K48 (by omega)
          · have c55 := iv_eq (X := v49.toInt) (Y := 1) c55 rfl (by decide)
            refine pv_iconst (M := mX12_mayStrike) (v := 0) dX12_mayStrike_53 54 rfl (by decide) ?_
            have z59 : (0 : Int32).toInt = 0 := by decide
            exact pv_iret (M := mX12_mayStrike) dX12_mayStrike_54 rfl rfl ⟨_, _, _, rfl, rfl, I47, K48, by decide, by decide, ⟨kfc49, Or.inr ⟨by decide, y8.toInt.toNat, by omega, by omega, (by rw [kf49]; exact (k49c.resolve_right (fun x => (x.1 (i_eq (by rw [show (1 : Int32).toInt = 1 from (by decide)]; omega))))).2)⟩⟩⟩
  have z60 : (0 : Int32).toInt = 0 := by decide
  exact lp14 (((12 - 0) : Int).toNat + 1) 0 m2 n3 (by first | omega | assumption | exact (iv_rng _).2 | exact (iv_rng _).1 | decide) (by first | omega | assumption | exact (iv_rng _).2 | exact (iv_rng _).1 | decide) (by first | omega | assumption | (show 0 ≤ (m 123 20).toInt; omega) | decide) k7 (fun q h => by rw [Int32.toInt_zero] at h; omega) kLX I4 K5 (by omega)

set_option maxHeartbeats 2000000 in
set_option maxRecDepth 20000 in
theorem s_X12_priceOf_vz (g : pv_G) {T : List mv_T} {m : Nat → Nat → Int32} {n : Nat → Nat → Int64} {r : Nat → Value} (hT : TX T) (I : IV BB m) (x0 : Int32) (hl0 : 0 ≤ x0.toInt) (hh0 : x0.toInt ≤ 7) (x1 : Int32) (hl1 : 0 ≤ x1.toInt) (hh1 : x1.toInt ≤ 39) (x2 : Int32) (t : Int → Int) (hp0 : x1.toInt < nu m x0.toInt 0) (hp1 : LX m) (hp2 : LAWr m t (m 123 20).toInt.toNat) : PM g mX12_priceOf yX12_priceOf (sqI T BB (wl [(141, 141, none), (142, 142, none)]) r m 0 99 (fun m' v => (FCT (m' 142) (m 128) (m 125) (40 * x0.toInt.toNat) (40 * x0.toInt.toNat) (m 124 x0.toInt.toNat).toInt.toNat x1.toInt x2.toInt (m 123 1).toInt x0.toInt) ∧ v.toInt = prc t (frn m') (m 123 20).toInt.toNat 0)) 3 0 0 [.ref 123, .int x0, .int x1, .int x2] (mk T m n r) := by
  have Kp : fr (wl [(141, 141, none), (142, 142, none)]) m m := fr.rf
  have kLX := hp1
  have z86 : 0 ≤ (m 123 20).toInt ∧ (m 123 20).toInt ≤ 12 := I 123 20
  refine PM.of 2 (lo := [.ref 123, .int x0, .int x1, .int x2, pv_U, pv_U]) rfl (by decide) rfl rfl (Nat.le_of_ble_eq_true rfl) ?_
  refine pv_aload_n (M := mX12_priceOf) 0 dX12_priceOf_0 1 rfl rfl rfl ?_
  refine pv_iload_n (M := mX12_priceOf) 1 dX12_priceOf_1 2 rfl rfl rfl ?_
  refine pv_iload_n (M := mX12_priceOf) 2 dX12_priceOf_2 3 rfl rfl rfl ?_
  refine pv_iload_n (M := mX12_priceOf) 3 dX12_priceOf_3 4 rfl rfl rfl ?_
  refine pv_callv (M := mX12_priceOf) (as := [.int x0, .int x1, .int x2]) (st := []) (kc2 := 0) (ks2 := 0) dX12_priceOf_4 wd1503 YX12_feels ⟨wd1505, wd78⟩ (mk_get (tl123 hT)) rfl rfl (s_X12_feels_vz g hT I x0 (by omega) (by omega) x1 (by omega) (by omega) x2 (by first | omega | assumption | exact (iv_rng _).2 | exact (iv_rng _).1 | decide)) rfl rfl (Nat.le_of_ble_eq_true rfl) (by decide) rfl rfl 7 rfl (fun rv h1 q1 => ?_)
  obtain ⟨m2, n3, rfl, rfl, I4, K5, rm2⟩ := q1
  replace rm2 : FCT (m2 142) (m 128) (m 125) (40 * x0.toInt.toNat) (40 * x0.toInt.toNat) (m 124 x0.toInt.toNat).toInt.toNat x1.toInt x2.toInt (m 123 1).toInt x0.toInt := rm2
  have K5c := K5
  have kLX : LX m2 := LX_eq kLX (K5c 123 20 rfl) (fun j => K5c 136 j rfl) (fun j => K5c 138 j rfl) (fun j => K5c 139 j rfl) (fun j => K5c 140 j rfl)
  have w6 : (m2 123 20).toInt = (m 123 20).toInt := congrArg Int32.toInt (K5 123 20 rfl)
  have K5 := Kp.trans (K5.sub (wl_sub (by decide)))
  show PV _ _ _ _ _ _ _ 7 [.ref 123, .int x0, .int x1, .int x2, pv_U, pv_U] [] _
  have k7 := rm2
  refine pv_iconst (M := mX12_priceOf) (v := 0) dX12_priceOf_7 8 rfl (by decide) ?_
  refine pv_istore (M := mX12_priceOf) (lo2 := [.ref 123, .int x0, .int x1, .int x2, .int 0, pv_U]) dX12_priceOf_8 10 rfl (by decide) rfl rfl ?_
  have lp14 : ∀ (fuel13 : Nat) (y8 : Int32) (m9 : Nat → Nat → Int32) (n10 : Nat → Nat → Int64), (0 ≤ y8.toInt) → (y8.toInt ≤ 12) → (y8.toInt ≤ (m 123 20).toInt) → (FCT (m9 142) (m 128) (m 125) (40 * x0.toInt.toNat) (40 * x0.toInt.toNat) (m 124 x0.toInt.toNat).toInt.toNat x1.toInt x2.toInt (m 123 1).toInt x0.toInt) → (prc t (frn m9) (m 123 20).toInt.toNat 0 = prc t (frn m9) ((m 123 20).toInt.toNat - y8.toInt.toNat) y8.toInt.toNat) → (LX m9) → IV BB m9 → fr (wl [(141, 141, none), (142, 142, none)]) m m9 → ((12 - y8.toInt) : Int).toNat < fuel13 → PV none g mX12_priceOf (sqI T BB (wl [(141, 141, none), (142, 142, none)]) r m 0 99 (fun m' v => (FCT (m' 142) (m 128) (m 125) (40 * x0.toInt.toNat) (40 * x0.toInt.toNat) (m 124 x0.toInt.toNat).toInt.toNat x1.toInt x2.toInt (m 123 1).toInt x0.toInt) ∧ v.toInt = prc t (frn m') (m 123 20).toInt.toNat 0)) 3 0 0 10 [.ref 123, .int x0, .int x1, .int x2, .int y8, pv_U] [] (mk T m9 n10 r) := by
    intro fuel13
    induction fuel13 with
    | zero => intro y8 m9 n10 b16 b17 b18 b19 b20 b21 I11 K12 z22; omega
    | succ fuel13 ih15 =>
      intro y8 m9 n10 b16 b17 b18 b19 b20 b21 I11 K12 z22
      have z23 : 0 ≤ (m9 123 20).toInt ∧ (m9 123 20).toInt ≤ 12 := I11 123 20
      have kLX := (show LX m9 by assumption)
      have kgf := (show FCT (m9 142) (m 128) (m 125) (40 * x0.toInt.toNat) (40 * x0.toInt.toNat) (m 124 x0.toInt.toNat).toInt.toNat x1.toInt x2.toInt (m 123 1).toInt x0.toInt by assumption)
      have kgn := (show prc t (frn m9) (m 123 20).toInt.toNat 0 = prc t (frn m9) ((m 123 20).toInt.toNat - y8.toInt.toNat) y8.toInt.toNat by assumption)
      have k20e : (m9 123 20).toInt = (m 123 20).toInt := congrArg Int32.toInt (K12 123 20 rfl)
      have klw : LAWr m9 t (m 123 20).toInt.toNat := LAWr_eq hp2 (fun a j h1 h2 => K12 a j (by have : a = 136 ∨ a = 137 ∨ a = 138 ∨ a = 139 ∨ a = 140 := (by omega); rcases this with rfl | rfl | rfl | rfl | rfl <;> rfl))
      refine pv_iload (M := mX12_priceOf) dX12_priceOf_10 12 rfl rfl ?_
      refine pv_aload_n (M := mX12_priceOf) 0 dX12_priceOf_12 13 rfl rfl rfl ?_
      refine iv_get (M := mX12_priceOf) (l1 := 0) (l2 := 12) dX12_priceOf_13 FX12 20 wd1193 (by decide) (tl123 hT) rfl I11 rfl 16 rfl (fun v28 ev28 pv28 qv28 => ?_)
      have wv28 : v28.toInt = (m9 123 20).toInt := congrArg Int32.toInt ev28
      refine pv_icmp_ge (M := mX12_priceOf) (tgt := 106) dX12_priceOf_16 19 rfl (by decide) (fun c29 => ?_) (fun c29 => ?_)
      · have c29 := iv_le (X := v28.toInt) (Y := y8.toInt) c29 rfl rfl
        refine pv_iconst (M := mX12_priceOf) (v := 1) dX12_priceOf_106 107 rfl (by decide) ?_
        have z30 : (1 : Int32).toInt = 1 := by decide
        exact pv_iret (M := mX12_priceOf) dX12_priceOf_107 rfl rfl ⟨_, _, _, rfl, rfl, I11, K12, by decide, by decide, ⟨kgf, (by rw [kgn, show (m 123 20).toInt.toNat - y8.toInt.toNat = 0 by omega]; rfl)⟩⟩
      · have c29 := iv_nle (X := v28.toInt) (Y := y8.toInt) c29 rfl rfl
        refine pv_aload_n (M := mX12_priceOf) 0 dX12_priceOf_19 20 rfl rfl rfl ?_
        refine mv_get (M := mX12_priceOf) (v := .ref 137) dX12_priceOf_20 FX12 28 wd1201 (by decide) (tl123 hT) rfl rfl 23 rfl ?_
        refine pv_iload (M := mX12_priceOf) dX12_priceOf_23 25 rfl rfl ?_
        refine iv_iald (M := mX12_priceOf) (X := y8.toInt) (l1 := (-2147483648)) (l2 := 2147483647) dX12_priceOf_25 (tl137 hT) rfl (by omega) (by omega) I11 (fun _ => rfl) 26 rfl (fun v31 ev31 pv31 qv31 => ?_)
        have kR := klw y8.toInt.toNat (by omega)
        have k26 : v31.toInt = t (cps t y8.toInt.toNat) := by rw [ev31]; exact kR.1
        have k10 : (m 123 20).toInt.toNat - y8.toInt.toNat = (m 123 20).toInt.toNat - (y8.toInt.toNat + 1) + 1 := by omega
        rw [k10] at kgn
        refine pv_bipush (M := mX12_priceOf) (v := 112) dX12_priceOf_26 28 rfl (by decide) ?_
        refine pv_icmp_ne (M := mX12_priceOf) (tgt := 100) dX12_priceOf_28 31 rfl (by decide) (fun c36 => ?_) (fun c36 => ?_)
        · have c36 := iv_ne (X := v31.toInt) (Y := 112) c36 rfl (by decide)
          refine iv_inc (M := mX12_priceOf) (C := 1) dX12_priceOf_100 103 rfl rfl (by decide) rfl rfl (by decide) (by omega) (by omega) (fun v37 ev37 => ?_)
          show PV _ _ _ _ _ _ _ 103 [.ref 123, .int x0, .int x1, .int x2, .int v37, pv_U] [] _
          refine pv_goto (M := mX12_priceOf) (tgt := 10) dX12_priceOf_103 (by decide) ?_
          have kbf : FCT (m9 142) (m 128) (m 125) (40 * x0.toInt.toNat) (40 * x0.toInt.toNat) (m 124 x0.toInt.toNat).toInt.toNat x1.toInt x2.toInt (m 123 1).toInt x0.toInt := by first | exact kfc49 | exact kgf
          have kbn : prc t (frn m9) (m 123 20).toInt.toNat 0 = prc t (frn m9) ((m 123 20).toInt.toNat - v37.toInt.toNat) v37.toInt.toNat := by first | (rw [kf49, kgn, prc_n (by first | exact Or.inl (by omega) | exact Or.inr (k49c.resolve_left (fun x => (by have w1 := congrArg Int32.toInt x.1; have z1 : (1 : Int32).toInt = 1 := (by decide); omega))).2)]; congr 1 <;> omega) | (rw [kgn, prc_n (by first | exact Or.inl (by omega) | exact Or.inr (k49c.resolve_left (fun x => (by have w1 := congrArg Int32.toInt x.1; have z1 : (1 : Int32).toInt = 1 := (by decide); omega))).2)]; congr 1 <;> omega)
          exact ih15 v37 m9 n10 (by first | omega | assumption | exact (iv_rng _).2 | exact (iv_rng _).1 | decide) (by first | omega | assumption | exact (iv_rng _).2 | exact (iv_rng _).1 | decide) (by first | omega | assumption | (show v37.toInt ≤ (m 123 20).toInt; omega) | decide) kbf kbn kLX I11 K12 (by omega)
        · have c36 := iv_eq (X := v31.toInt) (Y := 112) c36 rfl (by decide)
          refine pv_aload_n (M := mX12_priceOf) 0 dX12_priceOf_31 32 rfl rfl rfl ?_
          refine pv_aload_n (M := mX12_priceOf) 0 dX12_priceOf_32 33 rfl rfl rfl ?_
          refine mv_get (M := mX12_priceOf) (v := .ref 139) dX12_priceOf_33 FX12 30 wd1203 (by decide) (tl123 hT) rfl rfl 36 rfl ?_
          refine pv_iload (M := mX12_priceOf) dX12_priceOf_36 38 rfl rfl ?_
          refine iv_iald (M := mX12_priceOf) (X := y8.toInt) (l1 := 0) (l2 := 180) dX12_priceOf_38 (tl139 hT) rfl (by omega) (by omega) I11 (fun _ => rfl) 39 rfl (fun v40 ev40 pv40 qv40 => ?_)
          refine pv_aload_n (M := mX12_priceOf) 0 dX12_priceOf_39 40 rfl rfl rfl ?_
          refine mv_get (M := mX12_priceOf) (v := .ref 140) dX12_priceOf_40 FX12 31 wd1204 (by decide) (tl123 hT) rfl rfl 43 rfl ?_
          refine pv_iload (M := mX12_priceOf) dX12_priceOf_43 45 rfl rfl ?_
          refine iv_iald (M := mX12_priceOf) (X := y8.toInt) (l1 := 0) (l2 := 180) dX12_priceOf_45 (tl140 hT) rfl (by omega) (by omega) I11 (fun _ => rfl) 46 rfl (fun v41 ev41 pv41 qv41 => ?_)
          have k46 : WFc (m9 136) v40.toInt.toNat v41.toInt.toNat := by rw [ev40, ev41]; exact (kLX y8.toInt.toNat (by omega)).2.1
          have k46b : v40.toInt ≤ 179 := by rw [ev40]; exact (kLX y8.toInt.toNat (by omega)).2.2.2
          have k46z : v40 = m9 139 y8.toInt.toNat := ev40
          have k46y : v41 = m9 140 y8.toInt.toNat := ev41
          refine pv_callv (M := mX12_priceOf) (as := [.int v40, .int v41]) (st := []) (kc2 := 0) (ks2 := 0) dX12_priceOf_46 wd1515 YX12_comesTo ⟨wd1517, wd81⟩ (mk_get (tl123 hT)) rfl rfl (s_X12_comesTo_vz g hT I11 v40 (by omega) (by omega) v41 (by omega) (by omega) (by first | omega | assumption | exact (iv_rng _).2 | exact (iv_rng _).1 | decide) (by first | omega | assumption | exact (iv_rng _).2 | exact (iv_rng _).1 | decide)) rfl rfl (Nat.le_of_ble_eq_true rfl) (by decide) rfl rfl 49 rfl (fun rv h1 q46 => ?_)
          obtain ⟨m47, n48, v51, rfl, rfl, I49, K50, pv51, qv51, rv51⟩ := q46
          replace rv51 : RKR (er (m9 136) (frn m9) v41.toInt.toNat v40.toInt.toNat []) v51 := rv51
          have K50c := K50
          have kLX : LX m47 := LX_eq kLX (K50c 123 20 rfl) (fun j => K50c 136 j rfl) (fun j => K50c 138 j rfl) (fun j => K50c 139 j rfl) (fun j => K50c 140 j rfl)
          have w52 : (m47 123 20).toInt = (m9 123 20).toInt := congrArg Int32.toInt (K50 123 20 rfl)
          have K50 := K12.trans (K50.sub (wl_sub (by decide)))
          show PV _ _ _ _ _ _ _ 49 [.ref 123, .int x0, .int x1, .int x2, .int y8, pv_U] [.int v51] _
          have k49 := RKR_of (by have q := rv51; rw [k46z, k46y] at q; exact q) kR.2.2.1
          have k49c := chb_1 kR.2.2.2 k49
          have kf49 : frn m47 = frn m9 := funext fun j => by unfold frn; rw [K50c 142 j rfl]
          have kfc49 : FCT (m47 142) (m 128) (m 125) (40 * x0.toInt.toNat) (40 * x0.toInt.toNat) (m 124 x0.toInt.toNat).toInt.toNat x1.toInt x2.toInt (m 123 1).toInt x0.toInt := by rw [show m47 142 = m9 142 from funext fun j => K50c 142 j rfl]; exact kgf
          have klw2 : LAWr m47 t (m 123 20).toInt.toNat := LAWr_eq hp2 (fun a j h1 h2 => K50 a j (by have : a = 136 ∨ a = 137 ∨ a = 138 ∨ a = 139 ∨ a = 140 := (by omega); rcases this with rfl | rfl | rfl | rfl | rfl <;> rfl))
          have kR2 := klw2 y8.toInt.toNat (by omega)
          refine pv_iconst (M := mX12_priceOf) (v := 1) dX12_priceOf_49 50 rfl (by decide) ?_
          refine pv_icmp_eq (M := mX12_priceOf) (tgt := 56) dX12_priceOf_50 53 rfl (by decide) (fun c59 => ?_) (fun c59 => ?_)
          · have c59 := iv_eq (X := v51.toInt) (Y := 1) c59 rfl (by decide)
            refine pv_aload_n (M := mX12_priceOf) 0 dX12_priceOf_56 57 rfl rfl rfl ?_
            refine pv_aload_n (M := mX12_priceOf) 0 dX12_priceOf_57 58 rfl rfl rfl ?_
            refine mv_get (M := mX12_priceOf) (v := .ref 138) dX12_priceOf_58 FX12 29 wd1202 (by decide) (tl123 hT) rfl rfl 61 rfl ?_
            refine pv_iload (M := mX12_priceOf) dX12_priceOf_61 63 rfl rfl ?_
            refine iv_iald (M := mX12_priceOf) (X := y8.toInt) (l1 := 0) (l2 := 180) dX12_priceOf_63 (tl138 hT) rfl (by omega) (by omega) I49 (fun _ => rfl) 64 rfl (fun v60 ev60 pv60 qv60 => ?_)
            refine pv_aload_n (M := mX12_priceOf) 0 dX12_priceOf_64 65 rfl rfl rfl ?_
            refine mv_get (M := mX12_priceOf) (v := .ref 139) dX12_priceOf_65 FX12 30 wd1203 (by decide) (tl123 hT) rfl rfl 68 rfl ?_
            refine pv_iload (M := mX12_priceOf) dX12_priceOf_68 70 rfl rfl ?_
            refine iv_iald (M := mX12_priceOf) (X := y8.toInt) (l1 := 0) (l2 := 180) dX12_priceOf_70 (tl139 hT) rfl (by omega) (by omega) I49 (fun _ => rfl) 71 rfl (fun v61 ev61 pv61 qv61 => ?_)
            have k71 : WFc (m47 136) v60.toInt.toNat v61.toInt.toNat := by rw [ev60, ev61]; exact (kLX y8.toInt.toNat (by omega)).1
            have k71b : v60.toInt ≤ 179 := by rw [ev60]; exact (kLX y8.toInt.toNat (by omega)).2.2.1
            have k71z : v60 = m47 138 y8.toInt.toNat := ev60
            have k71y : v61 = m47 139 y8.toInt.toNat := ev61
            refine pv_callv (M := mX12_priceOf) (as := [.int v60, .int v61]) (st := []) (kc2 := 0) (ks2 := 0) dX12_priceOf_71 wd1515 YX12_comesTo ⟨wd1517, wd81⟩ (mk_get (tl123 hT)) rfl rfl (s_X12_comesTo_vz g hT I49 v60 (by omega) (by omega) v61 (by omega) (by omega) (by first | omega | assumption | exact (iv_rng _).2 | exact (iv_rng _).1 | decide) (by first | omega | assumption | exact (iv_rng _).2 | exact (iv_rng _).1 | decide)) rfl rfl (Nat.le_of_ble_eq_true rfl) (by decide) rfl rfl 74 rfl (fun rv h1 q66 => ?_)
            obtain ⟨m67, n68, v71, rfl, rfl, I69, K70, pv71, qv71, rv71⟩ := q66
            replace rv71 : RKR (er (m47 136) (frn m47) v61.toInt.toNat v60.toInt.toNat []) v71 := rv71
            have K70c := K70
            have kLX : LX m67 := LX_eq kLX (K70c 123 20 rfl) (fun j => K70c 136 j rfl) (fun j => K70c 138 j rfl) (fun j => K70c 139 j rfl) (fun j => K70c 140 j rfl)
            have w72 : (m67 123 20).toInt = (m47 123 20).toInt := congrArg Int32.toInt (K70 123 20 rfl)
            have K70 := K50.trans (K70.sub (wl_sub (by decide)))
            show PV _ _ _ _ _ _ _ 74 [.ref 123, .int x0, .int x1, .int x2, .int y8, pv_U] [.int v71] _
            have k74 := RKR_of (by have q := rv71; rw [k71z, k71y] at q; exact q) (kR2.2.1 (by omega))
            rw [kf49] at k74
            have kf74 : frn m67 = frn m9 := (funext fun j => by unfold frn; rw [K70c 142 j rfl] : frn m67 = frn m47).trans kf49
            have kfc74 : FCT (m67 142) (m 128) (m 125) (40 * x0.toInt.toNat) (40 * x0.toInt.toNat) (m 124 x0.toInt.toNat).toInt.toNat x1.toInt x2.toInt (m 123 1).toInt x0.toInt := by rw [show m67 142 = m47 142 from funext fun j => K70c 142 j rfl]; exact kfc49
            have k74c := (k49c.resolve_right (fun x => (x.1 (i_eq (by rw [show (1 : Int32).toInt = 1 from (by decide)]; omega))))).2
            refine pv_istore (M := mX12_priceOf) (lo2 := [.ref 123, .int x0, .int x1, .int x2, .int y8, .int v71]) dX12_priceOf_74 76 rfl (by decide) rfl rfl ?_
            refine pv_iload (M := mX12_priceOf) dX12_priceOf_76 78 rfl rfl ?_
            refine pv_if_ge (M := mX12_priceOf) (tgt := 85) dX12_priceOf_78 81 rfl (by decide) (fun c78 => ?_) (fun c78 => ?_)
            · have c78 := iv_le (X := 0) (Y := v71.toInt) c78 (by decide) rfl
              refine pv_iload (M := mX12_priceOf) dX12_priceOf_85 87 rfl rfl ?_
              refine pv_bipush (M := mX12_priceOf) (v := 99) dX12_priceOf_87 89 rfl (by decide) ?_
              refine pv_icmp_le (M := mX12_priceOf) (tgt := 97) dX12_priceOf_89 92 rfl (by decide) (fun c79 => ?_) (fun c79 => ?_)
              · have c79 := iv_le (X := v71.toInt) (Y := 99) c79 rfl (by decide)
                refine pv_iload (M := mX12_priceOf) dX12_priceOf_97 99 rfl rfl ?_
                exact pv_iret (M := mX12_priceOf) dX12_priceOf_99 rfl rfl ⟨_, _, _, rfl, rfl, I69, K70, by omega, by omega, ⟨kfc74, (by rw [kf74, kgn, prc_y (by omega) k74c]; exact prv_1 k74 (by unfold clp; first | omega | (have z1 : (99 : Int32).toInt = 99 := (by decide); omega) | (rw [Int32.toInt_zero]; omega)))⟩⟩
              · have c79 := iv_nle (X := v71.toInt) (Y := 99) c79 rfl (by decide)
                refine pv_bipush (M := mX12_priceOf) (v := 99) dX12_priceOf_92 94 rfl (by decide) ?_
                refine pv_goto (M := mX12_priceOf) (tgt := 99) dX12_priceOf_94 (by decide) ?_
                have z80 : (99 : Int32).toInt = 99 := by decide
                exact pv_iret (M := mX12_priceOf) dX12_priceOf_99 rfl rfl ⟨_, _, _, rfl, rfl, I69, K70, by decide, by decide, ⟨kfc74, (by rw [kf74, kgn, prc_y (by omega) k74c]; exact prv_1 k74 (by unfold clp; first | omega | (have z1 : (99 : Int32).toInt = 99 := (by decide); omega) | (rw [Int32.toInt_zero]; omega)))⟩⟩
            · have c78 := iv_nle (X := 0) (Y := v71.toInt) c78 (by decide) rfl
              refine pv_iconst (M := mX12_priceOf) (v := 0) dX12_priceOf_81 82 rfl (by decide) ?_
              refine pv_goto (M := mX12_priceOf) (tgt := 99) dX12_priceOf_82 (by decide) ?_
              have z81 : (0 : Int32).toInt = 0 := by decide
              exact pv_iret (M := mX12_priceOf) dX12_priceOf_99 rfl rfl ⟨_, _, _, rfl, rfl, I69, K70, by decide, by decide, ⟨kfc74, (by rw [kf74, kgn, prc_y (by omega) k74c]; exact prv_1 k74 (by unfold clp; first | omega | (have z1 : (99 : Int32).toInt = 99 := (by decide); omega) | (rw [Int32.toInt_zero]; omega)))⟩⟩
          · have c59 := iv_ne (X := v51.toInt) (Y := 1) c59 rfl (by decide)
            refine pv_goto (M := mX12_priceOf) (tgt := 100) dX12_priceOf_53 (by decide) ?_
            refine iv_inc (M := mX12_priceOf) (C := 1) dX12_priceOf_100 103 rfl rfl (by decide) rfl rfl (by decide) (by omega) (by omega) (fun v82 ev82 => ?_)
            show PV _ _ _ _ _ _ _ 103 [.ref 123, .int x0, .int x1, .int x2, .int v82, pv_U] [] _
            refine pv_goto (M := mX12_priceOf) (tgt := 10) dX12_priceOf_103 (by decide) ?_
            have kbf : FCT (m47 142) (m 128) (m 125) (40 * x0.toInt.toNat) (40 * x0.toInt.toNat) (m 124 x0.toInt.toNat).toInt.toNat x1.toInt x2.toInt (m 123 1).toInt x0.toInt := by first | exact kfc49 | exact kgf
            have kbn : prc t (frn m47) (m 123 20).toInt.toNat 0 = prc t (frn m47) ((m 123 20).toInt.toNat - v82.toInt.toNat) v82.toInt.toNat := by first | (rw [kf49, kgn, prc_n (by first | exact Or.inl (by omega) | exact Or.inr (k49c.resolve_left (fun x => (by have w1 := congrArg Int32.toInt x.1; have z1 : (1 : Int32).toInt = 1 := (by decide); omega))).2)]; congr 1 <;> omega) | (rw [kgn, prc_n (by first | exact Or.inl (by omega) | exact Or.inr (k49c.resolve_left (fun x => (by have w1 := congrArg Int32.toInt x.1; have z1 : (1 : Int32).toInt = 1 := (by decide); omega))).2)]; congr 1 <;> omega)
            exact ih15 v82 m47 n48 (by first | omega | assumption | exact (iv_rng _).2 | exact (iv_rng _).1 | decide) (by first | omega | assumption | exact (iv_rng _).2 | exact (iv_rng _).1 | decide) (by first | omega | assumption | (show v82.toInt ≤ (m 123 20).toInt; omega) | decide) kbf kbn kLX I49 K50 (by omega)
  have z85 : (0 : Int32).toInt = 0 := by decide
  exact lp14 (((12 - 0) : Int).toNat + 1) 0 m2 n3 (by first | omega | assumption | exact (iv_rng _).2 | exact (iv_rng _).1 | decide) (by first | omega | assumption | exact (iv_rng _).2 | exact (iv_rng _).1 | decide) (by first | omega | assumption | (show 0 ≤ (m 123 20).toInt; omega) | decide) k7 (by rw [Int32.toInt_zero]; rfl) kLX I4 K5 (by omega)
