set_option maxHeartbeats 2000000 in
set_option maxRecDepth 20000 in
theorem s_X3_settle_vq (g : pv_G) {T : List mv_T} {m : Nat → Nat → Int32} {n : Nat → Nat → Int64} {r : Nat → Value} (hT : TX T) (I : IV BB m) (hC : TC T) {pp qq : Nat → Nat} (P : PX T r pp qq) (x0 : Int32) (hl0 : 0 ≤ x0.toInt) (hh0 : x0.toInt ≤ 28560) (hp0 : Dj pp) (hp1 : S12 (szp m pp)) (hp2 : ATx m pp) (hp3 : APx m pp) (hp4 : x0.toInt = ix4 (szp m pp) (atp m)) (hp5 : ∀ e, e < 4 → lap m pp e ≠ -1 → 0 ≤ Tn m pp e ∧ Tn m pp e ≤ 1000) : PM g mX3_settle yX3_settle (sqVn T BB (wl [(177, 178, none)]) r m (fun m' n' => (∀ j, j ≠ x0.toInt.toNat → m' 178 j = m 178 j) ∧ OB1 (szp m pp) (srp m pp) (fun b => (m 178 (ix4 (szp m pp) b).toNat).toInt) (atp m) (m' 178 x0.toInt.toNat).toInt ∧ (∀ j, j ≠ x0.toInt.toNat → n' 179 j = n 179 j) ∧ (L25 (szp m pp) (srp m pp) → OC1 (szp m pp) (srp m pp) (ftb m pp) (gtb m n pp) (atp m) (m' 178 x0.toInt.toNat).toInt (n' 179 x0.toInt.toNat)))) 2 0 0 [.ref 169, .int x0] (mk T m n r) := by
  have Kp : fr (wl [(177, 178, none)]) m m := fr.rf
  refine PM.of 5 (lo := [.ref 169, .int x0, pv_U, pv_U, pv_U, pv_U, pv_U]) rfl (by decide) rfl rfl (Nat.le_of_ble_eq_true rfl) ?_
  refine pv_aload_n (M := mX3_settle) 0 dX3_settle_0 1 rfl rfl rfl ?_
  refine pv_callv (M := mX3_settle) (as := []) (st := []) (kc2 := 0) (ks2 := 0) dX3_settle_1 wd1025 YX3_lookAhead ⟨wd1027, wd41⟩ (mk_get (tc169 hC)) rfl rfl (s_X3_lookAhead g hT I hC P hp0 hp2) rfl rfl (Nat.le_of_ble_eq_true rfl) (by decide) rfl rfl 4 rfl (fun rv h1 q1 => ?_)
  obtain ⟨m2, n3, rfl, rfl, I4, K5, rm2⟩ := q1
  have NK5c := rm2.1
  replace rm2 := rm2.2
  replace rm2 : ∀ d, d < 4 → (m2 177 d).toInt = lap m pp d := rm2
  have K5c := K5
  have K5 := Kp.trans (K5.sub (wr_wr (by omega) (by omega)))
  show PV _ _ _ _ _ _ _ 4 [.ref 169, .int x0, pv_U, pv_U, pv_U, pv_U, pv_U] [] _
  have kA0 : AHe m2 pp 0 := AHe_0 (m := m) (fun d hd => (rm2 d hd).trans (lap_eq (fun b hb => funext fun j => (K5 b j (wr_out (by omega)))) hp0 d hd).symm)
  have k80 : ∀ j, m2 178 j = m 178 j := fun j => K5c 178 j (wr_out (by omega))
  have kN0 := NK5c
  refine pv_iconst (M := mX3_settle) (v := (-1)) dX3_settle_4 5 rfl (by decide) ?_
  refine pv_istore_n (M := mX3_settle) 2 (lo2 := [.ref 169, .int x0, .int (-1), pv_U, pv_U, pv_U, pv_U]) dX3_settle_5 6 rfl rfl (by decide) rfl rfl ?_
  refine pv_lconst (M := mX3_settle) (v := 1) dX3_settle_6 7 rfl (by decide) ?_
  refine pv_lstore_n (M := mX3_settle) 3 (lo2 := [.ref 169, .int x0, .int (-1), .long 1, pv_U, pv_U, pv_U]) dX3_settle_7 8 rfl rfl (by decide) rfl rfl ?_
  refine pv_iconst (M := mX3_settle) (v := 0) dX3_settle_8 9 rfl (by decide) ?_
  refine pv_istore (M := mX3_settle) (lo2 := [.ref 169, .int x0, .int (-1), .long 1, pv_U, .int 0, pv_U]) dX3_settle_9 11 rfl (by decide) rfl rfl ?_
  have lp17 : ∀ (fuel16 : Nat) (y9 : Int32) (y10 : Int64) (y11 : Int32) (m12 : Nat → Nat → Int32) (n13 : Nat → Nat → Int64), (-1 ≤ y9.toInt) → (y9.toInt ≤ 1000) → (0 ≤ y11.toInt) → (y11.toInt ≤ 4) → (AHe m12 pp y11.toInt.toNat) → (MNE m pp y11.toInt.toNat y9.toInt) → (∀ j, m12 178 j = m 178 j) → (nE n n13) → (RWL m n pp y11.toInt.toNat y9.toInt y10) → IV BB m12 → fr (wl [(177, 178, none)]) m m12 → ((4 - y11.toInt) : Int).toNat < fuel16 → PV none g mX3_settle (sqVn T BB (wl [(177, 178, none)]) r m (fun m' n' => (∀ j, j ≠ x0.toInt.toNat → m' 178 j = m 178 j) ∧ OB1 (szp m pp) (srp m pp) (fun b => (m 178 (ix4 (szp m pp) b).toNat).toInt) (atp m) (m' 178 x0.toInt.toNat).toInt ∧ (∀ j, j ≠ x0.toInt.toNat → n' 179 j = n 179 j) ∧ (L25 (szp m pp) (srp m pp) → OC1 (szp m pp) (srp m pp) (ftb m pp) (gtb m n pp) (atp m) (m' 178 x0.toInt.toNat).toInt (n' 179 x0.toInt.toNat)))) 2 0 0 11 [.ref 169, .int x0, .int y9, .long y10, pv_U, .int y11, pv_U] [] (mk T m12 n13 r) := by
    intro fuel16
    induction fuel16 with
    | zero => intro y9 y10 y11 m12 n13 b19 b20 b21 b22 b23 b24 b25 b26 b27 I14 K15 z28; omega
    | succ fuel16 ih18 =>
      intro y9 y10 y11 m12 n13 b19 b20 b21 b22 b23 b24 b25 b26 b27 I14 K15 z28
      have kg1 := (show AHe m12 pp y11.toInt.toNat by assumption)
      have kg2 := (show MNE m pp y11.toInt.toNat y9.toInt by assumption)
      have kg8 := (show ∀ j, m12 178 j = m 178 j by assumption)
      have kF : ∀ b j, b ≤ 176 → m12 b j = m b j := fun b j h => K15 b j (wr_out (by omega))
      have kX := CX_eq kF hp0 hp1 hp2 hp3
      have kL := lap_eq (m := m) (m2 := m12) (fun b hb => funext fun j => kF b j (by omega)) hp0
      have kgn := (show nE n n13 by assumption)
      have kgR := (show RWL m n pp y11.toInt.toNat y9.toInt y10 by assumption)
      refine pv_iload (M := mX3_settle) dX3_settle_11 13 rfl rfl ?_
      refine pv_iconst (M := mX3_settle) (v := 4) dX3_settle_13 14 rfl (by decide) ?_
      refine pv_icmp_ge (M := mX3_settle) (tgt := 100) dX3_settle_14 17 rfl (by decide) (fun c37 => ?_) (fun c37 => ?_)
      · have c37 := iv_le (X := 4) (Y := y11.toInt) c37 (by decide) rfl
        refine pv_aload_n (M := mX3_settle) 0 dX3_settle_100 101 rfl rfl rfl ?_
        refine mv_get (M := mX3_settle) (v := .ref 178) dX3_settle_101 FX3 8 wd989 (by decide) (tc169 hC) rfl rfl 104 rfl ?_
        refine pv_iload_n (M := mX3_settle) 1 dX3_settle_104 105 rfl rfl rfl ?_
        refine pv_iload_n (M := mX3_settle) 2 dX3_settle_105 106 rfl rfl rfl ?_
        refine pv_iconst (M := mX3_settle) (v := 1) dX3_settle_106 107 rfl (by decide) ?_
        refine iv_iadd (M := mX3_settle) (X := y9.toInt) (Y := 1) dX3_settle_107 108 rfl rfl (by decide) (by omega) (by omega) (fun v38 ev38 => ?_)
        have k108 : v38.toInt = y9.toInt + 1 := by omega
        refine iv_iast (M := mX3_settle) (X := x0.toInt) (l1 := (-2147483648)) (l2 := 2147483647) dX3_settle_108 (tc178 hC) rfl (by omega) (by omega) I14 (fun _ => rfl) (iv_rng v38).1 (iv_rng v38).2 109 rfl (fun m40 e43 I41 => ?_)
        have K42 := K15.set e43 (wl_r (by omega) (by omega))
        have k109 := (e43).trans (up2_ix (j := x0.toInt.toNat) (by omega))
        refine pv_aload_n (M := mX3_settle) 0 dX3_settle_109 110 rfl rfl rfl ?_
        refine mv_get (M := mX3_settle) (v := .ref 179) dX3_settle_110 FX3 9 wd990 (by decide) (tc169 hC) rfl rfl 113 rfl ?_
        refine pv_iload_n (M := mX3_settle) 1 dX3_settle_113 114 rfl rfl rfl ?_
        refine pv_lload_n (M := mX3_settle) 3 dX3_settle_114 115 rfl rfl rfl ?_
        refine iv_last (M := mX3_settle) (X := x0.toInt) dX3_settle_115 (tc179 hC) rfl (by omega) (by omega) 116 rfl (fun n45 en45 => ?_)
        have k116 := en45
        exact pv_vret (M := mX3_settle) dX3_settle_116 rfl ⟨_, _, rfl, rfl, I41, K42, ⟨fun j h => by rw [k109, up2_ne (by omega)]; exact kg8 j, by rw [k109, up2_eq, k108]; exact (MNE_end (by have q := kg2; rw [show y11.toInt.toNat = 4 by omega] at q; exact q)).1, fun j h => by rw [k116, up2_ne (by omega)]; exact kgn 179 j, by rw [k116, up2_eq, k109, up2_eq, k108]; exact RWL_end (by have q := kgR; rw [show y11.toInt.toNat = 4 by omega] at q; exact q) (by have q := kg2; rw [show y11.toInt.toNat = 4 by omega] at q; exact q)⟩⟩
      · have c37 := iv_nle (X := 4) (Y := y11.toInt) c37 (by decide) rfl
        refine pv_aload_n (M := mX3_settle) 0 dX3_settle_17 18 rfl rfl rfl ?_
        refine mv_get (M := mX3_settle) (v := .ref 177) dX3_settle_18 FX3 7 wd988 (by decide) (tc169 hC) rfl rfl 21 rfl ?_
        refine pv_iload (M := mX3_settle) dX3_settle_21 23 rfl rfl ?_
        refine iv_iald (M := mX3_settle) (X := y11.toInt) (l1 := (-2147483648)) (l2 := 2147483647) dX3_settle_23 (tc177 hC) rfl (by omega) (by omega) I14 (fun _ => rfl) 24 rfl (fun v47 ev47 pv47 qv47 => ?_)
        have k24 : v47.toInt = (m12 177 y11.toInt.toNat).toInt := congrArg Int32.toInt ev47
        refine pv_iconst (M := mX3_settle) (v := (-1)) dX3_settle_24 25 rfl (by decide) ?_
        refine pv_icmp_eq (M := mX3_settle) (tgt := 94) dX3_settle_25 28 rfl (by decide) (fun c49 => ?_) (fun c49 => ?_)
        · have c49 := iv_eq (X := v47.toInt) (Y := (-1)) c49 rfl (by decide)
          refine iv_inc (M := mX3_settle) (C := 1) dX3_settle_94 97 rfl rfl (by decide) rfl rfl (by decide) (by omega) (by omega) (fun v50 ev50 => ?_)
          show PV _ _ _ _ _ _ _ 97 [.ref 169, .int x0, .int y9, .long y10, pv_U, .int v50, pv_U] [] _
          refine pv_goto (M := mX3_settle) (tgt := 11) dX3_settle_97 (by decide) ?_
          have kbA : AHe m12 pp v50.toInt.toNat := by rw [show v50.toInt.toNat = (y11.toInt).toNat + 1 by omega]; first | exact kA2 | exact AHe_skip kg1 (by omega) (by omega)
          have kbM : MNE m pp v50.toInt.toNat y9.toInt := by rw [show v50.toInt.toNat = (y11.toInt).toNat + 1 by omega]; first | exact MNE_hit kg2 kne rfl kTn.1 (by omega) | exact MNE_skip kg2 (skip_of (by omega) kL (AHe_m1 kg1 (by omega) (by omega)))
          have kb8 : ∀ j, m12 178 j = m 178 j := by first | exact k8t | exact kg8
          have kbn : nE n n13 := by first | exact kN2 | exact kgn
          have kbR : RWL m n pp v50.toInt.toNat y9.toInt y10 := by rw [show v50.toInt.toNat = (y11.toInt).toNat + 1 by omega]; first | exact RWL_hit kgR kg2 hp2 (by omega) kne knew rfl kTn.1 k69 (Or.inl ⟨by omega, by omega, rfl⟩) | exact RWL_hit kgR kg2 hp2 (by omega) kne knew rfl kTn.1 k92 (Or.inr (Or.inl ⟨by omega, by omega, by omega, k93⟩)) | exact RWL_hit kgR kg2 hp2 (by omega) kne knew rfl kTn.1 rfl (Or.inr (Or.inr ⟨by omega, by omega, by omega, rfl⟩)) | exact RWL_skip kgR (skip_of (by omega) kL (AHe_m1 kg1 (by omega) (by omega)))
          exact ih18 y9 y10 v50 m12 n13 (by first | omega | assumption | exact (iv_rng _).2 | exact (iv_rng _).1 | decide) (by first | omega | assumption | exact (iv_rng _).2 | exact (iv_rng _).1 | decide) (by first | omega | assumption | exact (iv_rng _).2 | exact (iv_rng _).1 | decide) (by first | omega | assumption | exact (iv_rng _).2 | exact (iv_rng _).1 | decide) kbA kbM kb8 kbn kbR I14 K15 (by omega)
        · have c49 := iv_ne (X := v47.toInt) (Y := (-1)) c49 rfl (by decide)
          have kne0 := (AHe_let kg1 (by omega) (by omega)).1
          have kne : lap m pp y11.toInt.toNat ≠ -1 := by rw [← kL y11.toInt.toNat (by omega)]; omega
          have kTn := hp5 y11.toInt.toNat (by omega) kne
          have knw := (AHe_let kg1 (by omega) (by omega)).2.1
          have kl0 := kL y11.toInt.toNat (by omega)
          have knew : ∀ x, x < y11.toInt.toNat → lap m pp x ≠ lap m pp y11.toInt.toNat := fun x hx => by rw [← kL x (by omega), ← kl0]; exact knw x hx
          refine pv_iload_n (M := mX3_settle) 1 dX3_settle_28 29 rfl rfl rfl ?_
          refine pv_aload_n (M := mX3_settle) 0 dX3_settle_29 30 rfl rfl rfl ?_
          refine pv_iload (M := mX3_settle) dX3_settle_30 32 rfl rfl ?_
          refine pv_callv (M := mX3_settle) (as := [.int y11]) (st := [.int x0]) (kc2 := 0) (ks2 := 0) dX3_settle_32 wd1029 YX3_takeLetter ⟨wd1031, wd42⟩ (mk_get (tc169 hC)) rfl rfl (s_X3_takeLetter_ve g hT I14 hC P y11 (by omega) (by omega) hp0 kX.1 kX.2.1 kX.2.2.1 kg1 (by omega)) rfl rfl (Nat.le_of_ble_eq_true rfl) (by decide) rfl rfl 35 rfl (fun rv h1 q62 => ?_)
          obtain ⟨m63, n64, v67, rfl, rfl, I65, K66, pv67, qv67, rv67⟩ := q62
          have NK66c := rv67.1
          replace rv67 := rv67.2
          replace rv67 : v67.toInt = wn (szp m12 pp) (hw m12 pp (lap m12 pp y11.toInt.toNat)) 4 ∧ AHe m63 pp (y11.toInt.toNat + 1) := rv67
          have K66c := K66
          have K66 := K15.trans (K66.sub (wr_wr (by omega) (by omega)))
          show PV _ _ _ _ _ _ _ 35 [.ref 169, .int x0, .int y9, .long y10, pv_U, .int y11, pv_U] [.int v67, .int x0] _
          have k35 : v67.toInt = wn (szp m pp) (hw m pp (lap m pp y11.toInt.toNat)) 4 := rv67.1.trans ((wnh_eq (m := m) (m2 := m12) (fun b j h => kF b j (by omega)) hp0 _).trans (by rw [kL y11.toInt.toNat (by omega)]))
          have kA2 := rv67.2
          have k35b := hw_le hp1 hp2 (l := lap m pp y11.toInt.toNat) kne
          have k35c := nx_ix (m := m) (pp := pp) (lap m pp y11.toInt.toNat)
          have k8t : ∀ j, m63 178 j = m 178 j := fun j => (K66c 178 j (wr_out (by omega))).trans (kg8 j)
          have kN2 := nE.trans kgn NK66c
          refine iv_iadd (M := mX3_settle) (X := x0.toInt) (Y := v67.toInt) dX3_settle_35 36 rfl rfl rfl (by omega) (by omega) (fun v74 ev74 => ?_)
          have k36 : v74.toInt = ix4 (szp m pp) (adv4 (szp m pp) (srp m pp) (atp m) (lap m pp y11.toInt.toNat)) := by omega
          refine pv_istore (M := mX3_settle) (lo2 := [.ref 169, .int x0, .int y9, .long y10, pv_U, .int y11, .int v74]) dX3_settle_36 38 rfl (by decide) rfl rfl ?_
          refine pv_iload_n (M := mX3_settle) 2 dX3_settle_38 39 rfl rfl rfl ?_
          refine pv_iconst (M := mX3_settle) (v := (-1)) dX3_settle_39 40 rfl (by decide) ?_
          refine pv_icmp_eq (M := mX3_settle) (tgt := 54) dX3_settle_40 43 rfl (by decide) (fun c76 => ?_) (fun c76 => ?_)
          · have c76 := iv_eq (X := y9.toInt) (Y := (-1)) c76 rfl (by decide)
            refine pv_aload_n (M := mX3_settle) 0 dX3_settle_54 55 rfl rfl rfl ?_
            refine mv_get (M := mX3_settle) (v := .ref 178) dX3_settle_55 FX3 8 wd989 (by decide) (tc169 hC) rfl rfl 58 rfl ?_
            refine pv_iload (M := mX3_settle) dX3_settle_58 60 rfl rfl ?_
            refine iv_iald (M := mX3_settle) (X := v74.toInt) (l1 := (-2147483648)) (l2 := 2147483647) dX3_settle_60 (tc178 hC) rfl (by omega) (by omega) I65 (fun _ => rfl) 61 rfl (fun v77 ev77 pv77 qv77 => ?_)
            have k61 : v77.toInt = Tn m pp y11.toInt.toNat := (congrArg Int32.toInt (ev77.trans (k8t _))).trans (by unfold Tn; rw [k36])
            refine pv_istore_n (M := mX3_settle) 2 (lo2 := [.ref 169, .int x0, .int v77, .long y10, pv_U, .int y11, .int v74]) dX3_settle_61 62 rfl rfl (by decide) rfl rfl ?_
            refine pv_aload_n (M := mX3_settle) 0 dX3_settle_62 63 rfl rfl rfl ?_
            refine mv_get (M := mX3_settle) (v := .ref 179) dX3_settle_63 FX3 9 wd990 (by decide) (tc169 hC) rfl rfl 66 rfl ?_
            refine pv_iload (M := mX3_settle) dX3_settle_66 68 rfl rfl ?_
            refine iv_lald (M := mX3_settle) (X := v74.toInt) dX3_settle_68 (tc179 hC) rfl (by omega) (by omega) 69 rfl (fun v79 ev79 => ?_)
            have k69 : v79 = gtb m n pp (adv4 (szp m pp) (srp m pp) (atp m) (lap m pp y11.toInt.toNat)) := ev79.trans (by unfold gtb; rw [kN2 179 _, k36])
            refine pv_lstore_n (M := mX3_settle) 3 (lo2 := [.ref 169, .int x0, .int v77, .long v79, pv_U, .int y11, .int v74]) dX3_settle_69 70 rfl rfl (by decide) rfl rfl ?_
            refine pv_goto (M := mX3_settle) (tgt := 94) dX3_settle_70 (by decide) ?_
            refine iv_inc (M := mX3_settle) (C := 1) dX3_settle_94 97 rfl rfl (by decide) rfl rfl (by decide) (by omega) (by omega) (fun v81 ev81 => ?_)
            show PV _ _ _ _ _ _ _ 97 [.ref 169, .int x0, .int v77, .long v79, pv_U, .int v81, .int v74] [] _
            refine pv_goto (M := mX3_settle) (tgt := 11) dX3_settle_97 (by decide) ?_
            refine pv_fg (lo2 := [.ref 169, .int x0, .int v77, .long v79, pv_U, .int v81, pv_U]) ⟨Or.inr rfl, ⟨Or.inr rfl, ⟨Or.inr rfl, ⟨Or.inr rfl, ⟨Or.inl rfl, ⟨Or.inr rfl, ⟨Or.inl rfl, trivial⟩⟩⟩⟩⟩⟩⟩ ?_
            have kbA : AHe m63 pp v81.toInt.toNat := by rw [show v81.toInt.toNat = (y11.toInt).toNat + 1 by omega]; first | exact kA2 | exact AHe_skip kg1 (by omega) (by omega)
            have kbM : MNE m pp v81.toInt.toNat v77.toInt := by rw [show v81.toInt.toNat = (y11.toInt).toNat + 1 by omega]; first | exact MNE_hit kg2 kne rfl kTn.1 (by omega) | exact MNE_skip kg2 (skip_of (by omega) kL (AHe_m1 kg1 (by omega) (by omega)))
            have kb8 : ∀ j, m63 178 j = m 178 j := by first | exact k8t | exact kg8
            have kbn : nE n n64 := by first | exact kN2 | exact kgn
            have kbR : RWL m n pp v81.toInt.toNat v77.toInt v79 := by rw [show v81.toInt.toNat = (y11.toInt).toNat + 1 by omega]; first | exact RWL_hit kgR kg2 hp2 (by omega) kne knew rfl kTn.1 k69 (Or.inl ⟨by omega, by omega, rfl⟩) | exact RWL_hit kgR kg2 hp2 (by omega) kne knew rfl kTn.1 k92 (Or.inr (Or.inl ⟨by omega, by omega, by omega, k93⟩)) | exact RWL_hit kgR kg2 hp2 (by omega) kne knew rfl kTn.1 rfl (Or.inr (Or.inr ⟨by omega, by omega, by omega, rfl⟩)) | exact RWL_skip kgR (skip_of (by omega) kL (AHe_m1 kg1 (by omega) (by omega)))
            exact ih18 v77 v79 v81 m63 n64 (by first | omega | assumption | exact (iv_rng _).2 | exact (iv_rng _).1 | decide) (by first | omega | assumption | exact (iv_rng _).2 | exact (iv_rng _).1 | decide) (by first | omega | assumption | exact (iv_rng _).2 | exact (iv_rng _).1 | decide) (by first | omega | assumption | exact (iv_rng _).2 | exact (iv_rng _).1 | decide) kbA kbM kb8 kbn kbR I65 K66 (by omega)
          · have c76 := iv_ne (X := y9.toInt) (Y := (-1)) c76 rfl (by decide)
            refine pv_aload_n (M := mX3_settle) 0 dX3_settle_43 44 rfl rfl rfl ?_
            refine mv_get (M := mX3_settle) (v := .ref 178) dX3_settle_44 FX3 8 wd989 (by decide) (tc169 hC) rfl rfl 47 rfl ?_
            refine pv_iload (M := mX3_settle) dX3_settle_47 49 rfl rfl ?_
            refine iv_iald (M := mX3_settle) (X := v74.toInt) (l1 := (-2147483648)) (l2 := 2147483647) dX3_settle_49 (tc178 hC) rfl (by omega) (by omega) I65 (fun _ => rfl) 50 rfl (fun v87 ev87 pv87 qv87 => ?_)
            have k50 : v87.toInt = Tn m pp y11.toInt.toNat := (congrArg Int32.toInt (ev87.trans (k8t _))).trans (by unfold Tn; rw [k36])
            refine pv_iload_n (M := mX3_settle) 2 dX3_settle_50 51 rfl rfl rfl ?_
            refine pv_icmp_ge (M := mX3_settle) (tgt := 73) dX3_settle_51 54 rfl (by decide) (fun c89 => ?_) (fun c89 => ?_)
            · have c89 := iv_le (X := y9.toInt) (Y := v87.toInt) c89 rfl rfl
              refine pv_aload_n (M := mX3_settle) 0 dX3_settle_73 74 rfl rfl rfl ?_
              refine mv_get (M := mX3_settle) (v := .ref 178) dX3_settle_74 FX3 8 wd989 (by decide) (tc169 hC) rfl rfl 77 rfl ?_
              refine pv_iload (M := mX3_settle) dX3_settle_77 79 rfl rfl ?_
              refine iv_iald (M := mX3_settle) (X := v74.toInt) (l1 := (-2147483648)) (l2 := 2147483647) dX3_settle_79 (tc178 hC) rfl (by omega) (by omega) I65 (fun _ => rfl) 80 rfl (fun v90 ev90 pv90 qv90 => ?_)
              have k80b : v90.toInt = Tn m pp y11.toInt.toNat := (congrArg Int32.toInt (ev90.trans (k8t _))).trans (by unfold Tn; rw [k36])
              refine pv_iload_n (M := mX3_settle) 2 dX3_settle_80 81 rfl rfl rfl ?_
              refine pv_icmp_ne (M := mX3_settle) (tgt := 94) dX3_settle_81 84 rfl (by decide) (fun c92 => ?_) (fun c92 => ?_)
              · have c92 := iv_ne (X := v90.toInt) (Y := y9.toInt) c92 rfl rfl
                refine iv_inc (M := mX3_settle) (C := 1) dX3_settle_94 97 rfl rfl (by decide) rfl rfl (by decide) (by omega) (by omega) (fun v93 ev93 => ?_)
                show PV _ _ _ _ _ _ _ 97 [.ref 169, .int x0, .int y9, .long y10, pv_U, .int v93, .int v74] [] _
                refine pv_goto (M := mX3_settle) (tgt := 11) dX3_settle_97 (by decide) ?_
                refine pv_fg (lo2 := [.ref 169, .int x0, .int y9, .long y10, pv_U, .int v93, pv_U]) ⟨Or.inr rfl, ⟨Or.inr rfl, ⟨Or.inr rfl, ⟨Or.inr rfl, ⟨Or.inl rfl, ⟨Or.inr rfl, ⟨Or.inl rfl, trivial⟩⟩⟩⟩⟩⟩⟩ ?_
                have kbA : AHe m63 pp v93.toInt.toNat := by rw [show v93.toInt.toNat = (y11.toInt).toNat + 1 by omega]; first | exact kA2 | exact AHe_skip kg1 (by omega) (by omega)
                have kbM : MNE m pp v93.toInt.toNat y9.toInt := by rw [show v93.toInt.toNat = (y11.toInt).toNat + 1 by omega]; first | exact MNE_hit kg2 kne rfl kTn.1 (by omega) | exact MNE_skip kg2 (skip_of (by omega) kL (AHe_m1 kg1 (by omega) (by omega)))
                have kb8 : ∀ j, m63 178 j = m 178 j := by first | exact k8t | exact kg8
                have kbn : nE n n64 := by first | exact kN2 | exact kgn
                have kbR : RWL m n pp v93.toInt.toNat y9.toInt y10 := by rw [show v93.toInt.toNat = (y11.toInt).toNat + 1 by omega]; first | exact RWL_hit kgR kg2 hp2 (by omega) kne knew rfl kTn.1 k69 (Or.inl ⟨by omega, by omega, rfl⟩) | exact RWL_hit kgR kg2 hp2 (by omega) kne knew rfl kTn.1 k92 (Or.inr (Or.inl ⟨by omega, by omega, by omega, k93⟩)) | exact RWL_hit kgR kg2 hp2 (by omega) kne knew rfl kTn.1 rfl (Or.inr (Or.inr ⟨by omega, by omega, by omega, rfl⟩)) | exact RWL_skip kgR (skip_of (by omega) kL (AHe_m1 kg1 (by omega) (by omega)))
                exact ih18 y9 y10 v93 m63 n64 (by first | omega | assumption | exact (iv_rng _).2 | exact (iv_rng _).1 | decide) (by first | omega | assumption | exact (iv_rng _).2 | exact (iv_rng _).1 | decide) (by first | omega | assumption | exact (iv_rng _).2 | exact (iv_rng _).1 | decide) (by first | omega | assumption | exact (iv_rng _).2 | exact (iv_rng _).1 | decide) kbA kbM kb8 kbn kbR I65 K66 (by omega)
              · have c92 := iv_eq (X := v90.toInt) (Y := y9.toInt) c92 rfl rfl
                refine pv_lload_n (M := mX3_settle) 3 dX3_settle_84 85 rfl rfl rfl ?_
                refine pv_aload_n (M := mX3_settle) 0 dX3_settle_85 86 rfl rfl rfl ?_
                refine mv_get (M := mX3_settle) (v := .ref 179) dX3_settle_86 FX3 9 wd990 (by decide) (tc169 hC) rfl rfl 89 rfl ?_
                refine pv_iload (M := mX3_settle) dX3_settle_89 91 rfl rfl ?_
                refine iv_lald (M := mX3_settle) (X := v74.toInt) dX3_settle_91 (tc179 hC) rfl (by omega) (by omega) 92 rfl (fun v99 ev99 => ?_)
                have k92 : v99 = gtb m n pp (adv4 (szp m pp) (srp m pp) (atp m) (lap m pp y11.toInt.toNat)) := ev99.trans (by unfold gtb; rw [kN2 179 _, k36])
                refine iv_addJ (M := mX3_settle) dX3_settle_92 93 rfl (fun v101 ev101 => ?_)
                have k93 := ev101
                refine pv_lstore_n (M := mX3_settle) 3 (lo2 := [.ref 169, .int x0, .int y9, .long v101, pv_U, .int y11, .int v74]) dX3_settle_93 94 rfl rfl (by decide) rfl rfl ?_
                refine iv_inc (M := mX3_settle) (C := 1) dX3_settle_94 97 rfl rfl (by decide) rfl rfl (by decide) (by omega) (by omega) (fun v103 ev103 => ?_)
                show PV _ _ _ _ _ _ _ 97 [.ref 169, .int x0, .int y9, .long v101, pv_U, .int v103, .int v74] [] _
                refine pv_goto (M := mX3_settle) (tgt := 11) dX3_settle_97 (by decide) ?_
                refine pv_fg (lo2 := [.ref 169, .int x0, .int y9, .long v101, pv_U, .int v103, pv_U]) ⟨Or.inr rfl, ⟨Or.inr rfl, ⟨Or.inr rfl, ⟨Or.inr rfl, ⟨Or.inl rfl, ⟨Or.inr rfl, ⟨Or.inl rfl, trivial⟩⟩⟩⟩⟩⟩⟩ ?_
                have kbA : AHe m63 pp v103.toInt.toNat := by rw [show v103.toInt.toNat = (y11.toInt).toNat + 1 by omega]; first | exact kA2 | exact AHe_skip kg1 (by omega) (by omega)
                have kbM : MNE m pp v103.toInt.toNat y9.toInt := by rw [show v103.toInt.toNat = (y11.toInt).toNat + 1 by omega]; first | exact MNE_hit kg2 kne rfl kTn.1 (by omega) | exact MNE_skip kg2 (skip_of (by omega) kL (AHe_m1 kg1 (by omega) (by omega)))
                have kb8 : ∀ j, m63 178 j = m 178 j := by first | exact k8t | exact kg8
                have kbn : nE n n64 := by first | exact kN2 | exact kgn
                have kbR : RWL m n pp v103.toInt.toNat y9.toInt v101 := by rw [show v103.toInt.toNat = (y11.toInt).toNat + 1 by omega]; first | exact RWL_hit kgR kg2 hp2 (by omega) kne knew rfl kTn.1 k69 (Or.inl ⟨by omega, by omega, rfl⟩) | exact RWL_hit kgR kg2 hp2 (by omega) kne knew rfl kTn.1 k92 (Or.inr (Or.inl ⟨by omega, by omega, by omega, k93⟩)) | exact RWL_hit kgR kg2 hp2 (by omega) kne knew rfl kTn.1 rfl (Or.inr (Or.inr ⟨by omega, by omega, by omega, rfl⟩)) | exact RWL_skip kgR (skip_of (by omega) kL (AHe_m1 kg1 (by omega) (by omega)))
                exact ih18 y9 v101 v103 m63 n64 (by first | omega | assumption | exact (iv_rng _).2 | exact (iv_rng _).1 | decide) (by first | omega | assumption | exact (iv_rng _).2 | exact (iv_rng _).1 | decide) (by first | omega | assumption | exact (iv_rng _).2 | exact (iv_rng _).1 | decide) (by first | omega | assumption | exact (iv_rng _).2 | exact (iv_rng _).1 | decide) kbA kbM kb8 kbn kbR I65 K66 (by omega)
            · have c89 := iv_nle (X := y9.toInt) (Y := v87.toInt) c89 rfl rfl
              refine pv_aload_n (M := mX3_settle) 0 dX3_settle_54 55 rfl rfl rfl ?_
              refine mv_get (M := mX3_settle) (v := .ref 178) dX3_settle_55 FX3 8 wd989 (by decide) (tc169 hC) rfl rfl 58 rfl ?_
              refine pv_iload (M := mX3_settle) dX3_settle_58 60 rfl rfl ?_
              refine iv_iald (M := mX3_settle) (X := v74.toInt) (l1 := (-2147483648)) (l2 := 2147483647) dX3_settle_60 (tc178 hC) rfl (by omega) (by omega) I65 (fun _ => rfl) 61 rfl (fun v109 ev109 pv109 qv109 => ?_)
              have k61 : v109.toInt = Tn m pp y11.toInt.toNat := (congrArg Int32.toInt (ev109.trans (k8t _))).trans (by unfold Tn; rw [k36])
              refine pv_istore_n (M := mX3_settle) 2 (lo2 := [.ref 169, .int x0, .int v109, .long y10, pv_U, .int y11, .int v74]) dX3_settle_61 62 rfl rfl (by decide) rfl rfl ?_
              refine pv_aload_n (M := mX3_settle) 0 dX3_settle_62 63 rfl rfl rfl ?_
              refine mv_get (M := mX3_settle) (v := .ref 179) dX3_settle_63 FX3 9 wd990 (by decide) (tc169 hC) rfl rfl 66 rfl ?_
              refine pv_iload (M := mX3_settle) dX3_settle_66 68 rfl rfl ?_
              refine iv_lald (M := mX3_settle) (X := v74.toInt) dX3_settle_68 (tc179 hC) rfl (by omega) (by omega) 69 rfl (fun v111 ev111 => ?_)
              have k69 : v111 = gtb m n pp (adv4 (szp m pp) (srp m pp) (atp m) (lap m pp y11.toInt.toNat)) := ev111.trans (by unfold gtb; rw [kN2 179 _, k36])
              refine pv_lstore_n (M := mX3_settle) 3 (lo2 := [.ref 169, .int x0, .int v109, .long v111, pv_U, .int y11, .int v74]) dX3_settle_69 70 rfl rfl (by decide) rfl rfl ?_
              refine pv_goto (M := mX3_settle) (tgt := 94) dX3_settle_70 (by decide) ?_
              refine iv_inc (M := mX3_settle) (C := 1) dX3_settle_94 97 rfl rfl (by decide) rfl rfl (by decide) (by omega) (by omega) (fun v113 ev113 => ?_)
              show PV _ _ _ _ _ _ _ 97 [.ref 169, .int x0, .int v109, .long v111, pv_U, .int v113, .int v74] [] _
              refine pv_goto (M := mX3_settle) (tgt := 11) dX3_settle_97 (by decide) ?_
              refine pv_fg (lo2 := [.ref 169, .int x0, .int v109, .long v111, pv_U, .int v113, pv_U]) ⟨Or.inr rfl, ⟨Or.inr rfl, ⟨Or.inr rfl, ⟨Or.inr rfl, ⟨Or.inl rfl, ⟨Or.inr rfl, ⟨Or.inl rfl, trivial⟩⟩⟩⟩⟩⟩⟩ ?_
              have kbA : AHe m63 pp v113.toInt.toNat := by rw [show v113.toInt.toNat = (y11.toInt).toNat + 1 by omega]; first | exact kA2 | exact AHe_skip kg1 (by omega) (by omega)
              have kbM : MNE m pp v113.toInt.toNat v109.toInt := by rw [show v113.toInt.toNat = (y11.toInt).toNat + 1 by omega]; first | exact MNE_hit kg2 kne rfl kTn.1 (by omega) | exact MNE_skip kg2 (skip_of (by omega) kL (AHe_m1 kg1 (by omega) (by omega)))
              have kb8 : ∀ j, m63 178 j = m 178 j := by first | exact k8t | exact kg8
              have kbn : nE n n64 := by first | exact kN2 | exact kgn
              have kbR : RWL m n pp v113.toInt.toNat v109.toInt v111 := by rw [show v113.toInt.toNat = (y11.toInt).toNat + 1 by omega]; first | exact RWL_hit kgR kg2 hp2 (by omega) kne knew rfl kTn.1 k69 (Or.inl ⟨by omega, by omega, rfl⟩) | exact RWL_hit kgR kg2 hp2 (by omega) kne knew rfl kTn.1 k92 (Or.inr (Or.inl ⟨by omega, by omega, by omega, k93⟩)) | exact RWL_hit kgR kg2 hp2 (by omega) kne knew rfl kTn.1 rfl (Or.inr (Or.inr ⟨by omega, by omega, by omega, rfl⟩)) | exact RWL_skip kgR (skip_of (by omega) kL (AHe_m1 kg1 (by omega) (by omega)))
              exact ih18 v109 v111 v113 m63 n64 (by first | omega | assumption | exact (iv_rng _).2 | exact (iv_rng _).1 | decide) (by first | omega | assumption | exact (iv_rng _).2 | exact (iv_rng _).1 | decide) (by first | omega | assumption | exact (iv_rng _).2 | exact (iv_rng _).1 | decide) (by first | omega | assumption | exact (iv_rng _).2 | exact (iv_rng _).1 | decide) kbA kbM kb8 kbn kbR I65 K66 (by omega)
  have z119 : ((-1) : Int32).toInt = (-1) := by decide
  have z120 : (0 : Int32).toInt = 0 := by decide
  exact lp17 (((4 - 0) : Int).toNat + 1) (-1) 1 0 m2 n3 (by first | omega | assumption | exact (iv_rng _).2 | exact (iv_rng _).1 | decide) (by first | omega | assumption | exact (iv_rng _).2 | exact (iv_rng _).1 | decide) (by first | omega | assumption | exact (iv_rng _).2 | exact (iv_rng _).1 | decide) (by first | omega | assumption | exact (iv_rng _).2 | exact (iv_rng _).1 | decide) kA0 MNE_0 k80 kN0 RWL_0 I4 K5 (by omega)

set_option maxHeartbeats 2000000 in
set_option maxRecDepth 20000 in
theorem s_X3_solve_vq (g : pv_G) {T : List mv_T} {m : Nat → Nat → Int32} {n : Nat → Nat → Int64} {r : Nat → Value} (hT : TX T) (I : IV BB m) (hC : TC T) {pp qq : Nat → Nat} (P : PX T r pp qq) (hp0 : Dj pp) (hp1 : S12 (szp m pp)) : PM g mX3_solve yX3_solve (sqVn T BB (wl [(170, 171, none), (175, 178, none)]) r m (fun m' n' => TBL m' pp 0 ∧ (m' 170 1).toInt = (m' 178 0).toInt ∧ TBN m' n' pp 0)) 4 0 0 [.ref 169] (mk T m n r) := by
  have Kp : fr (wl [(170, 171, none), (175, 178, none)]) m m := fr.rf
  refine PM.of 2 (lo := [.ref 169, pv_U, pv_U]) rfl (by decide) rfl rfl (Nat.le_of_ble_eq_true rfl) ?_
  refine pv_iconst (M := mX3_solve) (v := 1) dX3_solve_0 1 rfl (by decide) ?_
  refine pv_istore_n (M := mX3_solve) 1 (lo2 := [.ref 169, .int 1, pv_U]) dX3_solve_1 2 rfl rfl (by decide) rfl rfl ?_
  refine pv_iconst (M := mX3_solve) (v := 3) dX3_solve_2 3 rfl (by decide) ?_
  refine pv_istore_n (M := mX3_solve) 2 (lo2 := [.ref 169, .int 1, .int 3]) dX3_solve_3 4 rfl rfl (by decide) rfl rfl ?_
  have lp8 : ∀ (fuel7 : Nat) (y1 : Int32) (y2 : Int32) (m3 : Nat → Nat → Int32) (n4 : Nat → Nat → Int64), (1 ≤ y1.toInt) → (y1.toInt ≤ 28561) → (-1 ≤ y2.toInt) → (y2.toInt ≤ 3) → (y1.toInt = cA (szp m pp) (3 - y2.toInt).toNat) → (∀ d : Nat, d < 4 → y2.toInt < (d : Int) → (m3 176 d).toInt = cA (szp m pp) (3 - d)) → IV BB m3 → fr (wl [(170, 171, none), (175, 178, none)]) m m3 → ((y2.toInt - (-1)) : Int).toNat < fuel7 → PV none g mX3_solve (sqVn T BB (wl [(170, 171, none), (175, 178, none)]) r m (fun m' n' => TBL m' pp 0 ∧ (m' 170 1).toInt = (m' 178 0).toInt ∧ TBN m' n' pp 0)) 4 0 0 4 [.ref 169, .int y1, .int y2] [] (mk T m3 n4 r) := by
    intro fuel7
    induction fuel7 with
    | zero => intro y1 y2 m3 n4 b10 b11 b12 b13 b14 b15 I5 K6 z16; omega
    | succ fuel7 ih9 =>
      intro y1 y2 m3 n4 b10 b11 b12 b13 b14 b15 I5 K6 z16
      have kgA := (show y1.toInt = cA (szp m pp) (3 - y2.toInt).toNat by assumption)
      have kgB := (show ∀ d : Nat, d < 4 → y2.toInt < (d : Int) → (m3 176 d).toInt = cA (szp m pp) (3 - d) by assumption)
      refine pv_iload_n (M := mX3_solve) 2 dX3_solve_4 5 rfl rfl rfl ?_
      refine pv_if_lt (M := mX3_solve) (tgt := 35) dX3_solve_5 8 rfl (by decide) (fun c19 => ?_) (fun c19 => ?_)
      · have c19 := iv_lt (X := y2.toInt) (Y := 0) c19 rfl (by decide)
        have kS : ∀ d, d < 4 → szp m3 pp d = szp m pp d := szp_eq (fun b hb => funext fun j => K6 b j (wo_s (by omega))) hp0
        have kP : APx m3 pp := fun d hd => (kgB d hd (by omega)).trans (cA_of (fun e he => (kS e he).symm) _ (by omega))
        have kT : Szs (szp m3 pp) := fun d hd => by rw [kS d hd]; exact hp1 d hd
        have k4 : y1.toInt = cA (szp m3 pp) 4 := kgA.trans ((congrArg (cA (szp m pp)) (show (3 - y2.toInt).toNat = 4 by omega)).trans (cA_of (fun e he => (kS e he).symm) _ (by omega)))
        refine pv_aload_n (M := mX3_solve) 0 dX3_solve_35 36 rfl rfl rfl ?_
        refine mv_get (M := mX3_solve) (v := .ref 175) dX3_solve_36 FX3 5 wd986 (by decide) (tc169 hC) rfl rfl 39 rfl ?_
        refine pv_iconst (M := mX3_solve) (v := 0) dX3_solve_39 40 rfl (by decide) ?_
        refine pv_aload_n (M := mX3_solve) 0 dX3_solve_40 41 rfl rfl rfl ?_
        refine mv_get (M := mX3_solve) (v := .ref 172) dX3_solve_41 FX3 2 wd983 (by decide) (tc169 hC) rfl rfl 44 rfl ?_
        refine pv_iconst (M := mX3_solve) (v := 0) dX3_solve_44 45 rfl (by decide) ?_
        refine iv_qpart (M := mX3_solve) (X := 0) dX3_solve_45 hC P (by decide) (by omega) (by omega) 46 rfl (fun b24 rb24 eb24 fb24 hb24 => ?_)
        have zb24 := hb24.2.2.2.2
        refine iv_get (M := mX3_solve) (l1 := 0) (l2 := (rb24 : Int)) dX3_solve_46 FX8 1 wd197 (by decide) hb24.1 rfl I5 hb24.2.2.1 49 rfl (fun v25 ev25 pv25 qv25 => ?_)
        have kS0 : v25.toInt = szp m3 pp 0 := (congrArg Int32.toInt ev25).trans (congrArg (fun z => (m3 z 1).toInt) (by assumption))
        have kT0 := kT 0 (by omega)
        refine iv_iast (M := mX3_solve) (X := 0) (l1 := (-1)) (l2 := 12) dX3_solve_49 (tc175 hC) (by decide) (by omega) (by omega) I5 (fun _ => rfl) (by omega) (by omega) 50 rfl (fun m28 e31 I29 => ?_)
        have K30 := K6.set e31 rfl
        have lp38 : ∀ (fuel37 : Nat) (y32 : Int32) (m33 : Nat → Nat → Int32) (n34 : Nat → Nat → Int64), (SV0 m33 pp y32.toInt) → (TBL m33 pp y32.toInt) → (TBN m33 n34 pp y32.toInt) → IV BB m33 → fr (wl [(170, 171, none), (175, 178, none)]) m m33 → (((m33 175 0).toInt + 1) : Int).toNat < fuel37 → PV none g mX3_solve (sqVn T BB (wl [(170, 171, none), (175, 178, none)]) r m (fun m' n' => TBL m' pp 0 ∧ (m' 170 1).toInt = (m' 178 0).toInt ∧ TBN m' n' pp 0)) 4 0 0 50 [.ref 169, .int y32, .int y2] [] (mk T m33 n34 r) := by
          intro fuel37
          induction fuel37 with
          | zero => intro y32 m33 n34 b40 b41 b42 I35 K36 z43; omega
          | succ fuel37 ih39 =>
            intro y32 m33 n34 b40 b41 b42 I35 K36 z43
            have kv0 := (show SV0 m33 pp y32.toInt by assumption)
            have kw0 := kv0.1.2.2.2
            have ktv0 := (show TBL m33 pp y32.toInt by assumption)
            have kuv0 := (show TBN m33 n34 pp y32.toInt by assumption)
            refine pv_aload_n (M := mX3_solve) 0 dX3_solve_50 51 rfl rfl rfl ?_
            refine mv_get (M := mX3_solve) (v := .ref 175) dX3_solve_51 FX3 5 wd986 (by decide) (tc169 hC) rfl rfl 54 rfl ?_
            refine pv_iconst (M := mX3_solve) (v := 0) dX3_solve_54 55 rfl (by decide) ?_
            refine iv_iald (M := mX3_solve) (X := 0) (l1 := (-1)) (l2 := 12) dX3_solve_55 (tc175 hC) (by decide) (by omega) (by omega) I35 (fun _ => rfl) 56 rfl (fun v48 ev48 pv48 qv48 => ?_)
            have k56 : v48.toInt = (m33 175 0).toInt := congrArg Int32.toInt ev48
            refine pv_if_lt (M := mX3_solve) (tgt := 191) dX3_solve_56 59 rfl (by decide) (fun c50 => ?_) (fun c50 => ?_)
            · have c50 := iv_lt (X := v48.toInt) (Y := 0) c50 rfl (by decide)
              have k191 : y32.toInt = 0 := by have a := kv0.2; rw [show (m33 175 0).toInt + 1 = 0 by omega, Int.zero_mul] at a; exact a
              have k191v : VL4 (szp m33 pp) (fun _ => 0) := fun d hd => ⟨Int.le_refl _, (kv0.1.1 d hd).1⟩
              have k191z : ix4 (szp m33 pp) (fun _ => 0) = 0 := by show (0 : Int) * cA (szp m33 pp) 3 + 0 * cA (szp m33 pp) 2 + 0 * cA (szp m33 pp) 1 + 0 * cA (szp m33 pp) 0 = 0; omega
              have k191b := TBL_b kv0.1.1 ktv0 (rst (szp m33 pp) (fun _ => 0)).toNat (fun _ => 0) k191v (by omega) (by have z := rst_0 k191v; omega)
              have k191r := rst_48 kv0.1.1 k191v
              have k191f : ftb m33 pp (fun _ => 0) = (m33 178 0).toInt := by unfold ftb; rw [k191z]; rfl
              refine pv_aload_n (M := mX3_solve) 0 dX3_solve_191 192 rfl rfl rfl ?_
              refine pv_callv (M := mX3_solve) (as := []) (st := []) (kc2 := 0) (ks2 := 0) dX3_solve_192 wd1033 YX3_trace ⟨wd1035, wd43⟩ (mk_get (tc169 hC)) rfl rfl (s_X3_trace_ve g hT I35 hC P hp0 kv0.1.1 kv0.1.2.1 (by omega) (by omega)) rfl rfl (Nat.le_of_ble_eq_true rfl) (by decide) rfl rfl 195 rfl (fun rv h1 q57 => ?_)
              obtain ⟨m58, n59, rfl, rfl, I60, K61, rm58⟩ := q57
              have NK61c := rm58.1
              replace rm58 := rm58.2
              replace rm58 : (m58 170 1).toInt = (m33 178 0).toInt := rm58
              have K61c := K61
              have K61 := K36.trans (K61.sub (wl_sub (by decide)))
              show PV _ _ _ _ _ _ _ 195 [.ref 169, .int y32, .int y2] [] _
              have k195 := rm58
              have k195f := K61c
              have k195n := NK61c
              exact pv_vret (M := mX3_solve) dX3_solve_195 rfl ⟨_, _, rfl, rfl, I60, K61, ⟨TBL_eq hp0 (by rw [← k191]; exact ktv0) (fun b j z => k195f b j (wo_t (by omega))), k195.trans (congrArg Int32.toInt (k195f 178 0 (wo_t (by omega)))).symm, TBN_eq hp0 (by rw [← k191]; exact kuv0) (fun b j z => k195f b j (wo_t (by omega))) (fun j => k195n 179 j)⟩⟩
            · have c50 := iv_nlt (X := v48.toInt) (Y := 0) c50 rfl (by decide)
              refine pv_aload_n (M := mX3_solve) 0 dX3_solve_59 60 rfl rfl rfl ?_
              refine mv_get (M := mX3_solve) (v := .ref 175) dX3_solve_60 FX3 5 wd986 (by decide) (tc169 hC) rfl rfl 63 rfl ?_
              refine pv_iconst (M := mX3_solve) (v := 1) dX3_solve_63 64 rfl (by decide) ?_
              refine pv_aload_n (M := mX3_solve) 0 dX3_solve_64 65 rfl rfl rfl ?_
              refine mv_get (M := mX3_solve) (v := .ref 172) dX3_solve_65 FX3 2 wd983 (by decide) (tc169 hC) rfl rfl 68 rfl ?_
              refine pv_iconst (M := mX3_solve) (v := 1) dX3_solve_68 69 rfl (by decide) ?_
              refine iv_qpart (M := mX3_solve) (X := 1) dX3_solve_69 hC P (by decide) (by omega) (by omega) 70 rfl (fun b65 rb65 eb65 fb65 hb65 => ?_)
              have zb65 := hb65.2.2.2.2
              refine iv_get (M := mX3_solve) (l1 := 0) (l2 := (rb65 : Int)) dX3_solve_70 FX8 1 wd197 (by decide) hb65.1 rfl I35 hb65.2.2.1 73 rfl (fun v66 ev66 pv66 qv66 => ?_)
              have kS1 : v66.toInt = szp m33 pp 1 := (congrArg Int32.toInt ev66).trans (congrArg (fun z => (m33 z 1).toInt) (by assumption))
              have kT1 := kv0.1.1 1 (by omega)
              refine iv_iast (M := mX3_solve) (X := 1) (l1 := (-1)) (l2 := 12) dX3_solve_73 (tc175 hC) (by decide) (by omega) (by omega) I35 (fun _ => rfl) (by omega) (by omega) 74 rfl (fun m69 e72 I70 => ?_)
              have K71 := K36.set e72 rfl
              have lp79 : ∀ (fuel78 : Nat) (y73 : Int32) (m74 : Nat → Nat → Int32) (n75 : Nat → Nat → Int64), (SV1 m74 pp y73.toInt) → ((m74 175 0).toInt = (m33 175 0).toInt) → (TBL m74 pp y73.toInt) → (TBN m74 n75 pp y73.toInt) → IV BB m74 → fr (wl [(170, 171, none), (175, 178, none)]) m m74 → (((m74 175 1).toInt + 1) : Int).toNat < fuel78 → PV none g mX3_solve (sqVn T BB (wl [(170, 171, none), (175, 178, none)]) r m (fun m' n' => TBL m' pp 0 ∧ (m' 170 1).toInt = (m' 178 0).toInt ∧ TBN m' n' pp 0)) 4 0 0 74 [.ref 169, .int y73, .int y2] [] (mk T m74 n75 r) := by
                intro fuel78
                induction fuel78 with
                | zero => intro y73 m74 n75 b81 b82 b83 b84 I76 K77 z85; omega
                | succ fuel78 ih80 =>
                  intro y73 m74 n75 b81 b82 b83 b84 I76 K77 z85
                  have kv1 := (show SV1 m74 pp y73.toInt by assumption)
                  have kw1 := kv1.1.2.2.2
                  have kr1 := (show (m74 175 0).toInt = (m33 175 0).toInt by assumption)
                  have kx10 := kv1.1.2.2.1 0 (by omega)
                  have ky10 := kv1.1.1 0 (by omega)
                  have ktv1 := (show TBL m74 pp y73.toInt by assumption)
                  have kuv1 := (show TBN m74 n75 pp y73.toInt by assumption)
                  refine pv_aload_n (M := mX3_solve) 0 dX3_solve_74 75 rfl rfl rfl ?_
                  refine mv_get (M := mX3_solve) (v := .ref 175) dX3_solve_75 FX3 5 wd986 (by decide) (tc169 hC) rfl rfl 78 rfl ?_
                  refine pv_iconst (M := mX3_solve) (v := 1) dX3_solve_78 79 rfl (by decide) ?_
                  refine iv_iald (M := mX3_solve) (X := 1) (l1 := (-1)) (l2 := 12) dX3_solve_79 (tc175 hC) (by decide) (by omega) (by omega) I76 (fun _ => rfl) 80 rfl (fun v93 ev93 pv93 qv93 => ?_)
                  have k80 : v93.toInt = (m74 175 1).toInt := congrArg Int32.toInt ev93
                  refine pv_if_lt (M := mX3_solve) (tgt := 178) dX3_solve_80 83 rfl (by decide) (fun c95 => ?_) (fun c95 => ?_)
                  · have c95 := iv_lt (X := v93.toInt) (Y := 0) c95 rfl (by decide)
                    refine pv_aload_n (M := mX3_solve) 0 dX3_solve_178 179 rfl rfl rfl ?_
                    refine mv_get (M := mX3_solve) (v := .ref 175) dX3_solve_179 FX3 5 wd986 (by decide) (tc169 hC) rfl rfl 182 rfl ?_
                    refine pv_iconst (M := mX3_solve) (v := 0) dX3_solve_182 183 rfl (by decide) ?_
                    refine pv_dup2 (M := mX3_solve) dX3_solve_183 184 rfl rfl rfl ?_
                    refine iv_iald (M := mX3_solve) (X := 0) (l1 := (-1)) (l2 := 12) dX3_solve_184 (tc175 hC) (by decide) (by omega) (by omega) I76 (fun _ => rfl) 185 rfl (fun v96 ev96 pv96 qv96 => ?_)
                    have k185 : v96.toInt = (m74 175 0).toInt := congrArg Int32.toInt ev96
                    refine pv_iconst (M := mX3_solve) (v := 1) dX3_solve_185 186 rfl (by decide) ?_
                    refine iv_isub (M := mX3_solve) (X := v96.toInt) (Y := 1) dX3_solve_186 187 rfl rfl (by decide) (by omega) (by omega) (fun v98 ev98 => ?_)
                    refine iv_iast (M := mX3_solve) (X := 0) (l1 := (-1)) (l2 := 12) dX3_solve_187 (tc175 hC) (by decide) (by omega) (by omega) I76 (fun _ => rfl) (by omega) (by omega) 188 rfl (fun m99 e102 I100 => ?_)
                    have K101 := K77.set e102 rfl
                    refine pv_goto (M := mX3_solve) (tgt := 50) dX3_solve_188 (by decide) ?_
                    have k187 := (e102)
                    have kb0 : SV0 m99 pp y73.toInt := SV_out0 kv1 (by omega) hp0 k187 (by omega)
                    have kp0 : (m99 175 0).toInt = (m74 175 0).toInt - 1 := by rw [k187, show ((0 : Int)).toNat = 0 from rfl, up2_eq]; omega
                    have kbt0 : TBL m99 pp y73.toInt := TBL_eq hp0 ktv1 (fun b j z => by rw [k187, up2_ne (by omega)])
                    have kbu0 : TBN m99 n75 pp y73.toInt := TBN_eq hp0 kuv1 (fun b j z => by rw [k187, up2_ne (by omega)]) (fun _ => rfl)
                    exact ih39 y73 m99 n75 kb0 kbt0 kbu0 I100 K101 (by omega)
                  · have c95 := iv_nlt (X := v93.toInt) (Y := 0) c95 rfl (by decide)
                    refine pv_aload_n (M := mX3_solve) 0 dX3_solve_83 84 rfl rfl rfl ?_
                    refine mv_get (M := mX3_solve) (v := .ref 175) dX3_solve_84 FX3 5 wd986 (by decide) (tc169 hC) rfl rfl 87 rfl ?_
                    refine pv_iconst (M := mX3_solve) (v := 2) dX3_solve_87 88 rfl (by decide) ?_
                    refine pv_aload_n (M := mX3_solve) 0 dX3_solve_88 89 rfl rfl rfl ?_
                    refine mv_get (M := mX3_solve) (v := .ref 172) dX3_solve_89 FX3 2 wd983 (by decide) (tc169 hC) rfl rfl 92 rfl ?_
                    refine pv_iconst (M := mX3_solve) (v := 2) dX3_solve_92 93 rfl (by decide) ?_
                    refine iv_qpart (M := mX3_solve) (X := 2) dX3_solve_93 hC P (by decide) (by omega) (by omega) 94 rfl (fun b108 rb108 eb108 fb108 hb108 => ?_)
                    have zb108 := hb108.2.2.2.2
                    refine iv_get (M := mX3_solve) (l1 := 0) (l2 := (rb108 : Int)) dX3_solve_94 FX8 1 wd197 (by decide) hb108.1 rfl I76 hb108.2.2.1 97 rfl (fun v109 ev109 pv109 qv109 => ?_)
                    have kS2 : v109.toInt = szp m74 pp 2 := (congrArg Int32.toInt ev109).trans (congrArg (fun z => (m74 z 1).toInt) (by assumption))
                    have kT2 := kv1.1.1 2 (by omega)
                    refine iv_iast (M := mX3_solve) (X := 2) (l1 := (-1)) (l2 := 12) dX3_solve_97 (tc175 hC) (by decide) (by omega) (by omega) I76 (fun _ => rfl) (by omega) (by omega) 98 rfl (fun m112 e115 I113 => ?_)
                    have K114 := K77.set e115 rfl
                    have lp122 : ∀ (fuel121 : Nat) (y116 : Int32) (m117 : Nat → Nat → Int32) (n118 : Nat → Nat → Int64), (SV2 m117 pp y116.toInt) → ((m117 175 0).toInt = (m33 175 0).toInt) → ((m117 175 1).toInt = (m74 175 1).toInt) → (TBL m117 pp y116.toInt) → (TBN m117 n118 pp y116.toInt) → IV BB m117 → fr (wl [(170, 171, none), (175, 178, none)]) m m117 → (((m117 175 2).toInt + 1) : Int).toNat < fuel121 → PV none g mX3_solve (sqVn T BB (wl [(170, 171, none), (175, 178, none)]) r m (fun m' n' => TBL m' pp 0 ∧ (m' 170 1).toInt = (m' 178 0).toInt ∧ TBN m' n' pp 0)) 4 0 0 98 [.ref 169, .int y116, .int y2] [] (mk T m117 n118 r) := by
                      intro fuel121
                      induction fuel121 with
                      | zero => intro y116 m117 n118 b124 b125 b126 b127 b128 I119 K120 z129; omega
                      | succ fuel121 ih123 =>
                        intro y116 m117 n118 b124 b125 b126 b127 b128 I119 K120 z129
                        have kv2 := (show SV2 m117 pp y116.toInt by assumption)
                        have kw2 := kv2.1.2.2.2
                        have kr20 := (show (m117 175 0).toInt = (m33 175 0).toInt by assumption)
                        have kr21 := (show (m117 175 1).toInt = (m74 175 1).toInt by assumption)
                        have kx21 := kv2.1.2.2.1 1 (by omega)
                        have ky21 := kv2.1.1 1 (by omega)
                        have ktv2 := (show TBL m117 pp y116.toInt by assumption)
                        have kuv2 := (show TBN m117 n118 pp y116.toInt by assumption)
                        refine pv_aload_n (M := mX3_solve) 0 dX3_solve_98 99 rfl rfl rfl ?_
                        refine mv_get (M := mX3_solve) (v := .ref 175) dX3_solve_99 FX3 5 wd986 (by decide) (tc169 hC) rfl rfl 102 rfl ?_
                        refine pv_iconst (M := mX3_solve) (v := 2) dX3_solve_102 103 rfl (by decide) ?_
                        refine iv_iald (M := mX3_solve) (X := 2) (l1 := (-1)) (l2 := 12) dX3_solve_103 (tc175 hC) (by decide) (by omega) (by omega) I119 (fun _ => rfl) 104 rfl (fun v138 ev138 pv138 qv138 => ?_)
                        have k104 : v138.toInt = (m117 175 2).toInt := congrArg Int32.toInt ev138
                        refine pv_if_lt (M := mX3_solve) (tgt := 165) dX3_solve_104 107 rfl (by decide) (fun c140 => ?_) (fun c140 => ?_)
                        · have c140 := iv_lt (X := v138.toInt) (Y := 0) c140 rfl (by decide)
                          refine pv_aload_n (M := mX3_solve) 0 dX3_solve_165 166 rfl rfl rfl ?_
                          refine mv_get (M := mX3_solve) (v := .ref 175) dX3_solve_166 FX3 5 wd986 (by decide) (tc169 hC) rfl rfl 169 rfl ?_
                          refine pv_iconst (M := mX3_solve) (v := 1) dX3_solve_169 170 rfl (by decide) ?_
                          refine pv_dup2 (M := mX3_solve) dX3_solve_170 171 rfl rfl rfl ?_
                          refine iv_iald (M := mX3_solve) (X := 1) (l1 := (-1)) (l2 := 12) dX3_solve_171 (tc175 hC) (by decide) (by omega) (by omega) I119 (fun _ => rfl) 172 rfl (fun v141 ev141 pv141 qv141 => ?_)
                          have k172 : v141.toInt = (m117 175 1).toInt := congrArg Int32.toInt ev141
                          refine pv_iconst (M := mX3_solve) (v := 1) dX3_solve_172 173 rfl (by decide) ?_
                          refine iv_isub (M := mX3_solve) (X := v141.toInt) (Y := 1) dX3_solve_173 174 rfl rfl (by decide) (by omega) (by omega) (fun v143 ev143 => ?_)
                          refine iv_iast (M := mX3_solve) (X := 1) (l1 := (-1)) (l2 := 12) dX3_solve_174 (tc175 hC) (by decide) (by omega) (by omega) I119 (fun _ => rfl) (by omega) (by omega) 175 rfl (fun m144 e147 I145 => ?_)
                          have K146 := K120.set e147 rfl
                          refine pv_goto (M := mX3_solve) (tgt := 74) dX3_solve_175 (by decide) ?_
                          have k174 := (e147)
                          have kb1 : SV1 m144 pp y116.toInt := SV_out1 kv2 (by omega) hp0 k174 (by omega)
                          have kp1 : (m144 175 1).toInt = (m117 175 1).toInt - 1 := by rw [k174, show ((1 : Int)).toNat = 1 from rfl, up2_eq]; omega
                          have kq10 : (m144 175 0).toInt = (m33 175 0).toInt := by rw [k174, up2_ne (by omega)]; exact kr20
                          have kbt1 : TBL m144 pp y116.toInt := TBL_eq hp0 ktv2 (fun b j z => by rw [k174, up2_ne (by omega)])
                          have kbu1 : TBN m144 n118 pp y116.toInt := TBN_eq hp0 kuv2 (fun b j z => by rw [k174, up2_ne (by omega)]) (fun _ => rfl)
                          exact ih80 y116 m144 n118 kb1 kq10 kbt1 kbu1 I145 K146 (by omega)
                        · have c140 := iv_nlt (X := v138.toInt) (Y := 0) c140 rfl (by decide)
                          refine pv_aload_n (M := mX3_solve) 0 dX3_solve_107 108 rfl rfl rfl ?_
                          refine mv_get (M := mX3_solve) (v := .ref 175) dX3_solve_108 FX3 5 wd986 (by decide) (tc169 hC) rfl rfl 111 rfl ?_
                          refine pv_iconst (M := mX3_solve) (v := 3) dX3_solve_111 112 rfl (by decide) ?_
                          refine pv_aload_n (M := mX3_solve) 0 dX3_solve_112 113 rfl rfl rfl ?_
                          refine mv_get (M := mX3_solve) (v := .ref 172) dX3_solve_113 FX3 2 wd983 (by decide) (tc169 hC) rfl rfl 116 rfl ?_
                          refine pv_iconst (M := mX3_solve) (v := 3) dX3_solve_116 117 rfl (by decide) ?_
                          refine iv_qpart (M := mX3_solve) (X := 3) dX3_solve_117 hC P (by decide) (by omega) (by omega) 118 rfl (fun b154 rb154 eb154 fb154 hb154 => ?_)
                          have zb154 := hb154.2.2.2.2
                          refine iv_get (M := mX3_solve) (l1 := 0) (l2 := (rb154 : Int)) dX3_solve_118 FX8 1 wd197 (by decide) hb154.1 rfl I119 hb154.2.2.1 121 rfl (fun v155 ev155 pv155 qv155 => ?_)
                          have kS3 : v155.toInt = szp m117 pp 3 := (congrArg Int32.toInt ev155).trans (congrArg (fun z => (m117 z 1).toInt) (by assumption))
                          have kT3 := kv2.1.1 3 (by omega)
                          refine iv_iast (M := mX3_solve) (X := 3) (l1 := (-1)) (l2 := 12) dX3_solve_121 (tc175 hC) (by decide) (by omega) (by omega) I119 (fun _ => rfl) (by omega) (by omega) 122 rfl (fun m158 e161 I159 => ?_)
                          have K160 := K120.set e161 rfl
                          have lp168 : ∀ (fuel167 : Nat) (y162 : Int32) (m163 : Nat → Nat → Int32) (n164 : Nat → Nat → Int64), (SV3 m163 pp y162.toInt) → ((m163 175 0).toInt = (m33 175 0).toInt) → ((m163 175 1).toInt = (m74 175 1).toInt) → ((m163 175 2).toInt = (m117 175 2).toInt) → (TBL m163 pp y162.toInt) → (TBN m163 n164 pp y162.toInt) → IV BB m163 → fr (wl [(170, 171, none), (175, 178, none)]) m m163 → (((m163 175 3).toInt + 1) : Int).toNat < fuel167 → PV none g mX3_solve (sqVn T BB (wl [(170, 171, none), (175, 178, none)]) r m (fun m' n' => TBL m' pp 0 ∧ (m' 170 1).toInt = (m' 178 0).toInt ∧ TBN m' n' pp 0)) 4 0 0 122 [.ref 169, .int y162, .int y2] [] (mk T m163 n164 r) := by
                            intro fuel167
                            induction fuel167 with
                            | zero => intro y162 m163 n164 b170 b171 b172 b173 b174 b175 I165 K166 z176; omega
                            | succ fuel167 ih169 =>
                              intro y162 m163 n164 b170 b171 b172 b173 b174 b175 I165 K166 z176
                              have kv3 := (show SV3 m163 pp y162.toInt by assumption)
                              have kw3 := kv3.1.2.2.2
                              have kr30 := (show (m163 175 0).toInt = (m33 175 0).toInt by assumption)
                              have kr31 := (show (m163 175 1).toInt = (m74 175 1).toInt by assumption)
                              have kr32 := (show (m163 175 2).toInt = (m117 175 2).toInt by assumption)
                              have kx32 := kv3.1.2.2.1 2 (by omega)
                              have ky32 := kv3.1.1 2 (by omega)
                              have ky33 := kv3.1.1 3 (by omega)
                              have ktv3 := (show TBL m163 pp y162.toInt by assumption)
                              have kuv3 := (show TBN m163 n164 pp y162.toInt by assumption)
                              refine pv_aload_n (M := mX3_solve) 0 dX3_solve_122 123 rfl rfl rfl ?_
                              refine mv_get (M := mX3_solve) (v := .ref 175) dX3_solve_123 FX3 5 wd986 (by decide) (tc169 hC) rfl rfl 126 rfl ?_
                              refine pv_iconst (M := mX3_solve) (v := 3) dX3_solve_126 127 rfl (by decide) ?_
                              refine iv_iald (M := mX3_solve) (X := 3) (l1 := (-1)) (l2 := 12) dX3_solve_127 (tc175 hC) (by decide) (by omega) (by omega) I165 (fun _ => rfl) 128 rfl (fun v187 ev187 pv187 qv187 => ?_)
                              have k128 : v187.toInt = (m163 175 3).toInt := congrArg Int32.toInt ev187
                              refine pv_if_lt (M := mX3_solve) (tgt := 152) dX3_solve_128 131 rfl (by decide) (fun c189 => ?_) (fun c189 => ?_)
                              · have c189 := iv_lt (X := v187.toInt) (Y := 0) c189 rfl (by decide)
                                refine pv_aload_n (M := mX3_solve) 0 dX3_solve_152 153 rfl rfl rfl ?_
                                refine mv_get (M := mX3_solve) (v := .ref 175) dX3_solve_153 FX3 5 wd986 (by decide) (tc169 hC) rfl rfl 156 rfl ?_
                                refine pv_iconst (M := mX3_solve) (v := 2) dX3_solve_156 157 rfl (by decide) ?_
                                refine pv_dup2 (M := mX3_solve) dX3_solve_157 158 rfl rfl rfl ?_
                                refine iv_iald (M := mX3_solve) (X := 2) (l1 := (-1)) (l2 := 12) dX3_solve_158 (tc175 hC) (by decide) (by omega) (by omega) I165 (fun _ => rfl) 159 rfl (fun v190 ev190 pv190 qv190 => ?_)
                                have k159 : v190.toInt = (m163 175 2).toInt := congrArg Int32.toInt ev190
                                refine pv_iconst (M := mX3_solve) (v := 1) dX3_solve_159 160 rfl (by decide) ?_
                                refine iv_isub (M := mX3_solve) (X := v190.toInt) (Y := 1) dX3_solve_160 161 rfl rfl (by decide) (by omega) (by omega) (fun v192 ev192 => ?_)
                                refine iv_iast (M := mX3_solve) (X := 2) (l1 := (-1)) (l2 := 12) dX3_solve_161 (tc175 hC) (by decide) (by omega) (by omega) I165 (fun _ => rfl) (by omega) (by omega) 162 rfl (fun m193 e196 I194 => ?_)
                                have K195 := K166.set e196 rfl
                                refine pv_goto (M := mX3_solve) (tgt := 98) dX3_solve_162 (by decide) ?_
                                have k161 := (e196)
                                have kb2 : SV2 m193 pp y162.toInt := SV_out2 kv3 (by omega) hp0 k161 (by omega)
                                have kp2 : (m193 175 2).toInt = (m163 175 2).toInt - 1 := by rw [k161, show ((2 : Int)).toNat = 2 from rfl, up2_eq]; omega
                                have kq20 : (m193 175 0).toInt = (m33 175 0).toInt := by rw [k161, up2_ne (by omega)]; exact kr30
                                have kq21 : (m193 175 1).toInt = (m74 175 1).toInt := by rw [k161, up2_ne (by omega)]; exact kr31
                                have kbt2 : TBL m193 pp y162.toInt := TBL_eq hp0 ktv3 (fun b j z => by rw [k161, up2_ne (by omega)])
                                have kbu2 : TBN m193 n164 pp y162.toInt := TBN_eq hp0 kuv3 (fun b j z => by rw [k161, up2_ne (by omega)]) (fun _ => rfl)
                                exact ih123 y162 m193 n164 kb2 kq20 kq21 kbt2 kbu2 I194 K195 (by omega)
                              · have c189 := iv_nlt (X := v187.toInt) (Y := 0) c189 rfl (by decide)
                                have kz := SV3_ix kv3 (by omega)
                                have kz1 := kz.2.1
                                have kz2 := kz.2.2.1
                                have kz3 := kz.2.2.2
                                have kTn := TBL_Tn kv3.1.1 kz.1 ktv3 kz.2.1
                                have z210 := iv_rng y162
                                refine iv_inc (M := mX3_solve) (C := (-1)) dX3_solve_131 134 rfl rfl (by decide) rfl rfl (by decide) (by omega) (by omega) (fun v209 ev209 => ?_)
                                show PV _ _ _ _ _ _ _ 134 [.ref 169, .int v209, .int y2] [] _
                                refine pv_aload_n (M := mX3_solve) 0 dX3_solve_134 135 rfl rfl rfl ?_
                                refine pv_iload_n (M := mX3_solve) 1 dX3_solve_135 136 rfl rfl rfl ?_
                                refine pv_callv (M := mX3_solve) (as := [.int v209]) (st := []) (kc2 := 0) (ks2 := 0) dX3_solve_136 wd1021 YX3_settle ⟨wd1023, wd40⟩ (mk_get (tc169 hC)) rfl rfl (s_X3_settle_vq g hT I165 hC P v209 (by omega) (by omega) hp0 kv3.1.1 kz.1 kv3.1.2.1 (by omega) kTn) rfl rfl (Nat.le_of_ble_eq_true rfl) (by decide) rfl rfl 139 rfl (fun rv h1 q211 => ?_)
                                obtain ⟨m212, n213, rfl, rfl, I214, K215, rm212⟩ := q211
                                replace rm212 : (∀ j, j ≠ v209.toInt.toNat → m212 178 j = m163 178 j) ∧ OB1 (szp m163 pp) (srp m163 pp) (fun b => (m163 178 (ix4 (szp m163 pp) b).toNat).toInt) (atp m163) (m212 178 v209.toInt.toNat).toInt ∧ (∀ j, j ≠ v209.toInt.toNat → n213 179 j = n164 179 j) ∧ (L25 (szp m163 pp) (srp m163 pp) → OC1 (szp m163 pp) (srp m163 pp) (ftb m163 pp) (gtb m163 n164 pp) (atp m163) (m212 178 v209.toInt.toNat).toInt (n213 179 v209.toInt.toNat)) := rm212
                                have K215c := K215
                                have K215 := K166.trans (K215.sub (wl_sub (by decide)))
                                show PV _ _ _ _ _ _ _ 139 [.ref 169, .int v209, .int y2] [] _
                                have kf : ∀ b j, b ≤ 176 → m212 b j = m163 b j := fun b j h => K215c b j (wr_out (by omega))
                                have kp := And.intro rm212.1 rm212.2.1
                                have kpn := rm212.2.2
                                refine pv_aload_n (M := mX3_solve) 0 dX3_solve_139 140 rfl rfl rfl ?_
                                refine mv_get (M := mX3_solve) (v := .ref 175) dX3_solve_140 FX3 5 wd986 (by decide) (tc169 hC) rfl rfl 143 rfl ?_
                                refine pv_iconst (M := mX3_solve) (v := 3) dX3_solve_143 144 rfl (by decide) ?_
                                refine pv_dup2 (M := mX3_solve) dX3_solve_144 145 rfl rfl rfl ?_
                                refine iv_iald (M := mX3_solve) (X := 3) (l1 := (-1)) (l2 := 12) dX3_solve_145 (tc175 hC) (by decide) (by omega) (by omega) I214 (fun _ => rfl) 146 rfl (fun v219 ev219 pv219 qv219 => ?_)
                                have k146 : v219.toInt = (m163 175 3).toInt := congrArg Int32.toInt (ev219.trans (kf 175 3 (by omega)))
                                refine pv_iconst (M := mX3_solve) (v := 1) dX3_solve_146 147 rfl (by decide) ?_
                                refine iv_isub (M := mX3_solve) (X := v219.toInt) (Y := 1) dX3_solve_147 148 rfl rfl (by decide) (by omega) (by omega) (fun v221 ev221 => ?_)
                                refine iv_iast (M := mX3_solve) (X := 3) (l1 := (-1)) (l2 := 12) dX3_solve_148 (tc175 hC) (by decide) (by omega) (by omega) I214 (fun _ => rfl) (by omega) (by omega) 149 rfl (fun m222 e225 I223 => ?_)
                                have K224 := K215.set e225 rfl
                                refine pv_goto (M := mX3_solve) (tgt := 122) dX3_solve_149 (by decide) ?_
                                have k148 := (e225)
                                have kb3 : SV3 m222 pp v209.toInt := SV3_next kv3 (by omega) hp0 kf k148 (by omega) (by omega)
                                have kp3 : (m222 175 3).toInt = (m163 175 3).toInt - 1 := by rw [k148, show ((3 : Int)).toNat = 3 from rfl, up2_eq]; omega
                                have kq30 : (m222 175 0).toInt = (m33 175 0).toInt := by rw [k148, up2_ne (by omega), kf 175 0 (by omega)]; exact kr30
                                have kq31 : (m222 175 1).toInt = (m74 175 1).toInt := by rw [k148, up2_ne (by omega), kf 175 1 (by omega)]; exact kr31
                                have kq32 : (m222 175 2).toInt = (m117 175 2).toInt := by rw [k148, up2_ne (by omega), kf 175 2 (by omega)]; exact kr32
                                have kbt3 : TBL m222 pp v209.toInt := TBL_eq hp0 (TBL_next (st2 := v209.toInt) kv3.1.1 hp0 kz.1 ktv3 kz.2.1 kz.2.2.1 kf (by omega) kp.1 kp.2) (fun b j z => by rw [k148, up2_ne (by omega)])
                                have kbu3 : TBN m222 n213 pp v209.toInt := TBN_eq hp0 (TBN_next (st2 := v209.toInt) kv3.1.1 hp0 kz.1 kuv3 kz.2.1 kz.2.2.1 kf (by omega) kp.1 kpn.1 kpn.2) (fun b j z => by rw [k148, up2_ne (by omega)]) (fun _ => rfl)
                                exact ih169 v209 m222 n213 kb3 kq30 kq31 kq32 kbt3 kbu3 I223 K224 (by omega)
                          have kV3 : SV3 m158 pp y116.toInt := SV_in2 kv2 (by omega) hp0 e161 kS3
                          have kt3 : TBL m158 pp y116.toInt := TBL_eq hp0 ktv2 (fun b j z => by rw [e161, up2_ne (by omega)])
                          have ku3 : TBN m158 n118 pp y116.toInt := TBN_eq hp0 kuv2 (fun b j z => by rw [e161, up2_ne (by omega)]) (fun _ => rfl)
                          exact lp168 ((((m158 175 3).toInt + 1) : Int).toNat + 1) y116 m158 n118 kV3 (by rw [e161, up2_ne (by omega)] <;> assumption) (by rw [e161, up2_ne (by omega)] <;> assumption) (by rw [e161, up2_ne (by omega)] <;> assumption) kt3 ku3 I159 K160 (by omega)
                    have kV2 : SV2 m112 pp y73.toInt := SV_in1 kv1 (by omega) hp0 e115 kS2
                    have kt2 : TBL m112 pp y73.toInt := TBL_eq hp0 ktv1 (fun b j z => by rw [e115, up2_ne (by omega)])
                    have ku2 : TBN m112 n75 pp y73.toInt := TBN_eq hp0 kuv1 (fun b j z => by rw [e115, up2_ne (by omega)]) (fun _ => rfl)
                    exact lp122 ((((m112 175 2).toInt + 1) : Int).toNat + 1) y73 m112 n75 kV2 (by rw [e115, up2_ne (by omega)] <;> assumption) (by rw [e115, up2_ne (by omega)] <;> assumption) kt2 ku2 I113 K114 (by omega)
              have kV1 : SV1 m69 pp y32.toInt := SV_in0 kv0 (by omega) hp0 e72 kS1
              have kt1 : TBL m69 pp y32.toInt := TBL_eq hp0 ktv0 (fun b j z => by rw [e72, up2_ne (by omega)])
              have ku1 : TBN m69 n34 pp y32.toInt := TBN_eq hp0 kuv0 (fun b j z => by rw [e72, up2_ne (by omega)]) (fun _ => rfl)
              exact lp79 ((((m69 175 1).toInt + 1) : Int).toNat + 1) y32 m69 n34 kV1 (by rw [e72, up2_ne (by omega)] <;> assumption) kt1 ku1 I70 K71 (by omega)
        have kV0 : SV0 m28 pp y1.toInt := SV_start kT kP k4 hp0 e31 kS0
        have kt0 : TBL m28 pp y1.toInt := TBL_eq hp0 (TBL_top kT k4) (fun b j z => by rw [e31, up2_ne (by omega)])
        have ku0 : TBN m28 n4 pp y1.toInt := TBN_eq hp0 (TBN_top kT k4) (fun b j z => by rw [e31, up2_ne (by omega)]) (fun _ => rfl)
        exact lp38 ((((m28 175 0).toInt + 1) : Int).toNat + 1) y1 m28 n4 kV0 kt0 ku0 I29 K30 (by omega)
      · have c19 := iv_nlt (X := y2.toInt) (Y := 0) c19 rfl (by decide)
        refine pv_aload_n (M := mX3_solve) 0 dX3_solve_8 9 rfl rfl rfl ?_
        refine mv_get (M := mX3_solve) (v := .ref 176) dX3_solve_9 FX3 6 wd987 (by decide) (tc169 hC) rfl rfl 12 rfl ?_
        refine pv_iload_n (M := mX3_solve) 2 dX3_solve_12 13 rfl rfl rfl ?_
        refine pv_iload_n (M := mX3_solve) 1 dX3_solve_13 14 rfl rfl rfl ?_
        refine iv_iast (M := mX3_solve) (X := y2.toInt) (l1 := 0) (l2 := 28561) dX3_solve_14 (tc176 hC) rfl (by omega) (by omega) I5 (fun _ => rfl) (by omega) (by omega) 15 rfl (fun m246 e249 I247 => ?_)
        have K248 := K6.set e249 rfl
        have k15 := (e249)
        refine pv_iload_n (M := mX3_solve) 1 dX3_solve_15 16 rfl rfl rfl ?_
        refine pv_aload_n (M := mX3_solve) 0 dX3_solve_16 17 rfl rfl rfl ?_
        refine mv_get (M := mX3_solve) (v := .ref 172) dX3_solve_17 FX3 2 wd983 (by decide) (tc169 hC) rfl rfl 20 rfl ?_
        refine pv_iload_n (M := mX3_solve) 2 dX3_solve_20 21 rfl rfl rfl ?_
        refine iv_qpart (M := mX3_solve) (X := y2.toInt) dX3_solve_21 hC P rfl (by omega) (by omega) 22 rfl (fun b251 rb251 eb251 fb251 hb251 => ?_)
        have zb251 := hb251.2.2.2.2
        refine iv_get (M := mX3_solve) (l1 := 0) (l2 := (rb251 : Int)) dX3_solve_22 FX8 1 wd197 (by decide) hb251.1 rfl I247 hb251.2.2.1 25 rfl (fun v252 ev252 pv252 qv252 => ?_)
        have k25d := hp0 y2.toInt.toNat (by omega)
        have k25 : v252.toInt = szp m pp y2.toInt.toNat := (congrArg Int32.toInt (ev252.trans (K248 _ _ (wo_s (by omega))))).trans (congrArg (fun z => (m z 1).toInt) (by assumption))
        have k25s := hp1 y2.toInt.toNat (by omega)
        refine pv_iconst (M := mX3_solve) (v := 1) dX3_solve_25 26 rfl (by decide) ?_
        refine iv_iadd (M := mX3_solve) (X := v252.toInt) (Y := 1) dX3_solve_26 27 rfl rfl (by decide) (by omega) (by omega) (fun v256 ev256 => ?_)
        have k27 := cA_step (y := v256.toInt) hp1 (by omega) (by omega) kgA (by omega)
        have k27a := k27.2.1
        have k27b := k27.2.2
        refine iv_imul (M := mX3_solve) (X := y1.toInt) (Y := v256.toInt) dX3_solve_27 28 rfl rfl rfl (by omega) (by omega) (fun v260 ev260 => ?_)
        refine pv_istore_n (M := mX3_solve) 1 (lo2 := [.ref 169, .int v260, .int y2]) dX3_solve_28 29 rfl rfl (by decide) rfl rfl ?_
        refine iv_inc (M := mX3_solve) (C := (-1)) dX3_solve_29 32 rfl rfl (by decide) rfl rfl (by decide) (by omega) (by omega) (fun v261 ev261 => ?_)
        show PV _ _ _ _ _ _ _ 32 [.ref 169, .int v260, .int v261] [] _
        refine pv_goto (M := mX3_solve) (tgt := 4) dX3_solve_32 (by decide) ?_
        have kbA : v260.toInt = cA (szp m pp) (3 - v261.toInt).toNat := by rw [show v261.toInt = y2.toInt - 1 by omega]; exact ev260.trans k27.1
        have kbB : ∀ d : Nat, d < 4 → v261.toInt < (d : Int) → (m246 176 d).toInt = cA (szp m pp) (3 - d) := fun d h a => if z : (d : Int) = y2.toInt then by rw [k15, show d = (y2.toInt).toNat by omega, up2_eq, show 3 - (y2.toInt).toNat = (3 - y2.toInt).toNat by omega]; exact kgA else by rw [k15, up2_ne (by omega)]; exact kgB d h (by omega)
        exact ih9 v260 v261 m246 n4 (by first | omega | assumption | exact (iv_rng _).2 | exact (iv_rng _).1 | decide) (by first | omega | assumption | exact (iv_rng _).2 | exact (iv_rng _).1 | decide) (by first | omega | assumption | exact (iv_rng _).2 | exact (iv_rng _).1 | decide) (by first | omega | assumption | exact (iv_rng _).2 | exact (iv_rng _).1 | decide) kbA kbB I247 K248 (by omega)
  have z264 : (1 : Int32).toInt = 1 := by decide
  have z265 : (3 : Int32).toInt = 3 := by decide
  exact lp8 (((3 - (-1)) : Int).toNat + 1) 1 3 m n (by first | omega | assumption | exact (iv_rng _).2 | exact (iv_rng _).1 | decide) (by first | omega | assumption | exact (iv_rng _).2 | exact (iv_rng _).1 | decide) (by first | omega | assumption | exact (iv_rng _).2 | exact (iv_rng _).1 | decide) (by first | omega | assumption | exact (iv_rng _).2 | exact (iv_rng _).1 | decide) (by rw [show ((3 : Int32)).toInt = 3 by decide]; rfl) (fun d h a => by rw [show ((3 : Int32)).toInt = 3 by decide] at a; omega) I Kp (by omega)

set_option maxHeartbeats 2000000 in
set_option maxRecDepth 20000 in
theorem s_X11_coverFor_vtq (g : pv_G) {T : List mv_T} {m : Nat → Nat → Int32} {n : Nat → Nat → Int64} {r : Nat → Value} {m0 : Nat → Nat → Int32} {r0 : Nat → Value} {la lb : Nat} (hT : TX T) (I : IV BB m) (Kp : fr WX m0 m) (or : rn r0 r) (R : RX T r la lb) (hC : TC T) (hc2 : r 2 = .ref 169) (x0 : Int32) (hp0 : x0.toInt ≠ 0) (hp1 : (mbs x0 8).length ≤ 4) (hp2 : ∀ k, k ∈ mbs x0 8 → (m (61 + 2 * k) 1).toInt ≤ 12) (hp3 : CCN m n) : PV none g mX11_coverFor (sqArn T BB WX rn r0 m0 169 (fun m' n' r' => m' 169 1 = x0 ∧ SHN m' x0 (n' 179 0))) 5 0 0 27 [.ref 0, .int x0, .ref 169, pv_U] [] (mk T m n r) := by
  have R0 := R
  have zR := R.2.2.2.2.1.1
  have zR2 := R.2.2.2.2.2.1
  have hc20 := hc2
  have z87 : 0 ≤ (m 169 4).toInt ∧ (m 169 4).toInt ≤ 4 := I 169 4
  refine pv_aload_n (M := mX11_coverFor) 2 dX11_coverFor_27 28 rfl rfl rfl ?_
  refine iv_get (M := mX11_coverFor) (l1 := (-2147483648)) (l2 := 2147483647) dX11_coverFor_28 FX3 1 wd982 (by decide) (tc169 hC) rfl I rfl 31 rfl (fun v1 ev1 pv1 qv1 => ?_)
  have k31 : v1 = m 169 1 := ev1
  refine pv_iload_n (M := mX11_coverFor) 1 dX11_coverFor_31 32 rfl rfl rfl ?_
  refine pv_icmp_eq (M := mX11_coverFor) (tgt := 80) dX11_coverFor_32 35 rfl (by decide) (fun c3 => ?_) (fun c3 => ?_)
  · have c3 := iv_eq (X := v1.toInt) (Y := x0.toInt) c3 rfl rfl
    try have k80 := noE
    refine pv_aload_n (M := mX11_coverFor) 2 dX11_coverFor_80 81 rfl rfl rfl ?_
    exact pv_aret (M := mX11_coverFor) dX11_coverFor_81 rfl ⟨_, _, _, rfl, rfl, I, Kp, or, (by first | exact ⟨by rw [k80, up2_eq], SHN_eq (fun a j h1 h2 => by rw [k80, up2_ne (by omega)]) k75C⟩ | (have e : m 169 1 = x0 := k31.symm.trans (Int32.toInt_inj.mp (by omega)); have q := hp3 (by rw [e]; exact hp0); rw [e] at q; exact ⟨e, q⟩))⟩
  · have c3 := iv_ne (X := v1.toInt) (Y := x0.toInt) c3 rfl rfl
    refine pv_aload_n (M := mX11_coverFor) 2 dX11_coverFor_35 36 rfl rfl rfl ?_
    refine pv_callv (M := mX11_coverFor) (as := []) (st := []) (kc2 := 0) (ks2 := 0) dX11_coverFor_36 wd1012 YX3_clearParts ⟨wd976, wd977⟩ (mk_get (tc169 hC)) rfl rfl (s_X3_clearParts_ve g hT I hC) rfl rfl (Nat.le_of_ble_eq_true rfl) (by decide) rfl rfl 39 rfl (fun rv h1 q5 => ?_)
    obtain ⟨m6, n7, r10, rfl, rfl, I8, K9, qr10, rm6⟩ := q5
    have NK9c := rm6.1
    replace rm6 := rm6.2
    replace rm6 : (m6 169 4).toInt = 0 ∧ ∀ d, d < 4 → r10 (172000 + d) = .ref 173 := rm6
    have or10 := rn.ro or qr10
    have R := RX_ro R qr10
    have zR := R.2.2.2.2.1.1
    have zR2 := R.2.2.2.2.2.1
    have hc2 : r10 2 = .ref 169 := or10.1
    have K9c := K9
    have K9 := Kp.trans (K9.sub (by exact WX_wl (by decide)))
    show PV _ _ _ _ _ _ _ 39 [.ref 0, .int x0, .ref 169, pv_U] [] _
    have kP0 := rm6.2
    have kw0 : ∀ a j, 61 ≤ a → a ≤ 76 → m6 a j = m a j := fun a j h1 h2 => K9c a j (WX_wl (by decide) a j (WX_le (by omega)))
    have k4z : (m6 169 4).toInt = 0 := rm6.1
    refine pv_iconst (M := mX11_coverFor) (v := 0) dX11_coverFor_39 40 rfl (by decide) ?_
    refine pv_istore_n (M := mX11_coverFor) 3 (lo2 := [.ref 0, .int x0, .ref 169, .int 0]) dX11_coverFor_40 41 rfl rfl (by decide) rfl rfl ?_
    have lp20 : ∀ (fuel19 : Nat) (y14 : Int32) (m15 : Nat → Nat → Int32) (n16 : Nat → Nat → Int64) (r24 : Nat → Value), (0 ≤ y14.toInt) → (y14.toInt ≤ 8) → (PCH r24 x0 y14.toInt.toNat) → ((m15 169 4).toInt = ((mbs x0 y14.toInt.toNat).length : Int)) → (∀ a j, 61 ≤ a → a ≤ 76 → m15 a j = m a j) → IV BB m15 → fr WX m0 m15 → rn r0 r24 → ((8 - y14.toInt) : Int).toNat < fuel19 → PV none g mX11_coverFor (sqArn T BB WX rn r0 m0 169 (fun m' n' r' => m' 169 1 = x0 ∧ SHN m' x0 (n' 179 0))) 5 0 0 41 [.ref 0, .int x0, .ref 169, .int y14] [] (mk T m15 n16 r24) := by
      intro fuel19
      induction fuel19 with
      | zero => intro y14 m15 n16 r24 b22 b23 b25 b26 b27 I17 K18 or24 z28; omega
      | succ fuel19 ih21 =>
        intro y14 m15 n16 r24 b22 b23 b25 b26 b27 I17 K18 or24 z28
        have hc2 := or24.1
        have R := RX_rn2 R0 or or24
        have zR := R.2.2.2.2.1.1
        have zR2 := R.2.2.2.2.2.1
        have z29 : 0 ≤ (m15 169 4).toInt ∧ (m15 169 4).toInt ≤ 4 := I17 169 4
        have kgP := (show PCH r24 x0 y14.toInt.toNat by assumption)
        have kg4 := (show (m15 169 4).toInt = ((mbs x0 y14.toInt.toNat).length : Int) by assumption)
        have kgw := (show ∀ a j, 61 ≤ a → a ≤ 76 → m15 a j = m a j by assumption)
        refine pv_iload_n (M := mX11_coverFor) 3 dX11_coverFor_41 42 rfl rfl rfl ?_
        refine pv_bipush (M := mX11_coverFor) (v := 8) dX11_coverFor_42 44 rfl (by decide) ?_
        refine pv_icmp_ge (M := mX11_coverFor) (tgt := 71) dX11_coverFor_44 47 rfl (by decide) (fun c33 => ?_) (fun c33 => ?_)
        · have c33 := iv_le (X := 8) (Y := y14.toInt) c33 (by decide) rfl
          have kP8 : PCH r24 x0 8 := by rw [← (show y14.toInt.toNat = 8 by omega)]; exact kgP
          obtain ⟨pp, hpp⟩ : ∃ pp, pp = ppx x0 8 := ⟨_, rfl⟩
          have P : PX T r24 pp (fun d => if ppx x0 8 d = 173 then 0 else 16) := by rw [hpp]; exact PX_pch hC kP8 (fun k hk => rowD hT hk)
          have kS8 : Szs (szp m15 pp) := by rw [hpp]; exact ppx_S I17 (by omega) (fun k hk => by have z := mbs_lt hk; rw [kgw _ _ (by omega) (by omega)]; exact hp2 k hk) rfl
          refine pv_aload_n (M := mX11_coverFor) 2 dX11_coverFor_71 72 rfl rfl rfl ?_
          refine pv_callv (M := mX11_coverFor) (as := []) (st := []) (kc2 := 0) (ks2 := 0) dX11_coverFor_72 wd1017 YX3_solve ⟨wd1018, wd1019⟩ (mk_get (tc169 hC)) rfl rfl (s_X3_solve_vq g hT I17 hC P (by rw [hpp]; exact ppx_D x0 (by omega)) kS8) rfl rfl (Nat.le_of_ble_eq_true rfl) (by decide) rfl rfl 75 rfl (fun rv h1 q38 => ?_)
          obtain ⟨m39, n40, rfl, rfl, I41, K42, rm39⟩ := q38
          replace rm39 : TBL m39 pp 0 ∧ (m39 170 1).toInt = (m39 178 0).toInt ∧ TBN m39 n40 pp 0 := rm39
          have K42c := K42
          have w43 : (m39 169 4).toInt = (m15 169 4).toInt := congrArg Int32.toInt (K42 169 4 rfl)
          have K42 := K18.trans (K42.sub (by exact WX_wl (by decide)))
          show PV _ _ _ _ _ _ _ 75 [.ref 0, .int x0, .ref 169, .int y14] [] _
          subst hpp
          have k75 := rm39
          have k75f := K42c
          have k75I := I41
          have k75r := row_eq (m := m15) (m2 := m39) (ppx_D x0 (i := 8) (by omega)) (fun b j z => k75f b j (wo_s (by omega)))
          have k75S : Szs (szp m39 (ppx x0 8)) := fun d hd => by rw [← k75r.1 d hd]; exact kS8 d hd
          have k75C : SHN m39 x0 (n40 179 0) := SHN_tb k75I k75S k75.1 k75.2.2
          refine pv_aload_n (M := mX11_coverFor) 2 dX11_coverFor_75 76 rfl rfl rfl ?_
          refine pv_iload_n (M := mX11_coverFor) 1 dX11_coverFor_76 77 rfl rfl rfl ?_
          refine iv_put (M := mX11_coverFor) (l1 := (-2147483648)) (l2 := 2147483647) dX11_coverFor_77 FX3 1 wd982 (by decide) rfl (tc169 hC) rfl rfl rfl I41 rfl (iv_rng x0).1 (iv_rng x0).2 80 rfl (fun m51 e54 I52 => ?_)
          have K53 := K42.set e54 (by decide)
          have w55 : (m51 169 4).toInt = (m39 169 4).toInt := by rw [e54, up2_ne (by omega)]
          try have k80 := e54
          refine pv_aload_n (M := mX11_coverFor) 2 dX11_coverFor_80 81 rfl rfl rfl ?_
          exact pv_aret (M := mX11_coverFor) dX11_coverFor_81 rfl ⟨_, _, _, rfl, rfl, I52, K53, or24, (by first | exact ⟨by rw [k80, up2_eq], SHN_eq (fun a j h1 h2 => by rw [k80, up2_ne (by omega)]) k75C⟩ | (have e : m 169 1 = x0 := k31.symm.trans (Int32.toInt_inj.mp (by omega)); have q := hp3 (by rw [e]; exact hp0); rw [e] at q; exact ⟨e, q⟩))⟩
        · have c33 := iv_nle (X := 8) (Y := y14.toInt) c33 (by decide) rfl
          refine pv_iload_n (M := mX11_coverFor) 1 dX11_coverFor_47 48 rfl rfl rfl ?_
          refine pv_iload_n (M := mX11_coverFor) 3 dX11_coverFor_48 49 rfl rfl rfl ?_
          refine pv_calls (M := mX11_coverFor) (as := [.int x0, .int y14]) (st := []) (kc2 := 0) (ks2 := 0) dX11_coverFor_49 wd931 YX11_isAmong wd932 (s_X11_isAmong g hT I17 x0 y14) rfl rfl (Nat.le_of_ble_eq_true rfl) (by decide) rfl rfl 52 rfl (fun rv h1 q57 => ?_)
          obtain ⟨v58, rfl, rfl, pv58, qv58, rv58⟩ := q57
          replace rv58 : v58 = amv x0 y14 := rv58
          show PV _ _ _ _ _ _ _ 52 [.ref 0, .int x0, .ref 169, .int y14] [.int v58] _
          have k52 : (amv x0 (Int32.ofInt (y14.toInt.toNat : Nat))).toInt = v58.toInt := by rw [ofn (by omega), rv58]
          refine pv_if_eq (M := mX11_coverFor) (tgt := 65) dX11_coverFor_52 55 rfl (by decide) (fun c60 => ?_) (fun c60 => ?_)
          · have c60 := iv_eq (X := v58.toInt) (Y := 0) c60 rfl (by decide)
            try have k65 := rm15
            try have k65w : ∀ a j, 61 ≤ a → a ≤ 76 → m15 a j = m a j := fun a j h1 h2 => (K9c a j (WX_wl (by decide) a j (WX_le (by omega)))).trans (kgw a j h1 h2)
            refine iv_inc (M := mX11_coverFor) (C := 1) dX11_coverFor_65 68 rfl rfl (by decide) rfl rfl (by decide) (by omega) (by omega) (fun v63 ev63 => ?_)
            show PV _ _ _ _ _ _ _ 68 [.ref 0, .int x0, .ref 169, .int v63] [] _
            refine pv_goto (M := mX11_coverFor) (tgt := 41) dX11_coverFor_68 (by decide) ?_
            have kbw : ∀ a j, 61 ≤ a → a ≤ 76 → m15 a j = m a j := by first | exact kgw | exact k65w
            have kbP : PCH r24 x0 v63.toInt.toNat := by rw [show v63.toInt.toNat = (y14.toInt).toNat + 1 by omega]; first | exact PCH_no kgP (by omega) | exact PCH_yes (p := (m15 169 4).toInt.toNat) kgP kam (by omega) (by rw [← kb62]; exact k65.2)
            have kb4 : (m15 169 4).toInt = ((mbs x0 v63.toInt.toNat).length : Int) := by rw [show v63.toInt.toNat = (y14.toInt).toNat + 1 by omega]; first | (rw [mbs_no (by omega)]; exact kg4) | (have z := k65.1; rw [kmy.1]; omega)
            exact ih21 v63 m15 n16 r24 (by first | omega | assumption | exact (iv_rng _).2 | exact (iv_rng _).1 | decide) (by first | omega | assumption | exact (iv_rng _).2 | exact (iv_rng _).1 | decide) kbP kb4 kbw I17 K18 or24 (by omega)
          · have c60 := iv_ne (X := v58.toInt) (Y := 0) c60 rfl (by decide)
            have kam : (amv x0 (Int32.ofInt (y14.toInt.toNat : Nat))).toInt ≠ 0 := by omega
            have kmy := mbs_yes kam
            have kml := mbs_le x0 8 (y14.toInt.toNat + 1) (by omega)
            have kmk := hp2 y14.toInt.toNat (mbs_up 8 (y14.toInt.toNat + 1) _ (by omega) kmy.2)
            refine pv_aload_n (M := mX11_coverFor) 2 dX11_coverFor_55 56 rfl rfl rfl ?_
            refine pv_aload_n (M := mX11_coverFor) 0 dX11_coverFor_56 57 rfl rfl rfl ?_
            refine mv_get (M := mX11_coverFor) (v := .ref 60) dX11_coverFor_57 FX11 3 wd410 (by decide) (tl0 hT) rfl rfl 60 rfl ?_
            refine pv_iload_n (M := mX11_coverFor) 3 dX11_coverFor_60 61 rfl rfl rfl ?_
            refine iv_qdeed (M := mX11_coverFor) (X := y14.toInt) dX11_coverFor_61 hT R rfl (by omega) (by omega) 62 rfl (fun b71 eb71 hb71 => ?_)
            have zb71 := hb71.2.2.2.2
            have kb62 : b71 = 61 + 2 * y14.toInt.toNat := by omega
            have k62 : (m15 b71 1).toInt ≤ 12 := by rw [kb62, kgw _ _ (by omega) (by omega)]; exact kmk
            refine pv_callv (M := mX11_coverFor) (as := [.ref b71]) (st := []) (kc2 := 0) (ks2 := 0) dX11_coverFor_62 wd1013 YX3_addPart ⟨wd1014, wd1015⟩ (mk_get (tc169 hC)) rfl rfl (s_X3_addPart_ve g hT I17 hC b71 16 hb71 (by omega) (by omega)) rfl rfl (Nat.le_of_ble_eq_true rfl) (by decide) rfl rfl 65 rfl (fun rv h1 q74 => ?_)
            obtain ⟨m75, n76, r79, rfl, rfl, I77, K78, qr79, rm75⟩ := q74
            have NK78c := rm75.1
            replace rm75 := rm75.2
            replace rm75 : (m75 169 4).toInt = (m15 169 4).toInt + 1 ∧ r79 = up1 r24 (172000 + (m15 169 4).toInt.toNat) (.ref b71) := rm75
            have or79 := rn.ro or24 qr79
            have R := RX_ro R qr79
            have zR := R.2.2.2.2.1.1
            have zR2 := R.2.2.2.2.2.1
            have hc2 : r79 2 = .ref 169 := or79.1
            have K78c := K78
            have K78 := K18.trans (K78.sub (by exact WX_wl (by decide)))
            show PV _ _ _ _ _ _ _ 65 [.ref 0, .int x0, .ref 169, .int y14] [] _
            try have k65 := rm75
            try have k65w : ∀ a j, 61 ≤ a → a ≤ 76 → m75 a j = m a j := fun a j h1 h2 => (K78c a j (WX_wl (by decide) a j (WX_le (by omega)))).trans (kgw a j h1 h2)
            refine iv_inc (M := mX11_coverFor) (C := 1) dX11_coverFor_65 68 rfl rfl (by decide) rfl rfl (by decide) (by omega) (by omega) (fun v82 ev82 => ?_)
            show PV _ _ _ _ _ _ _ 68 [.ref 0, .int x0, .ref 169, .int v82] [] _
            refine pv_goto (M := mX11_coverFor) (tgt := 41) dX11_coverFor_68 (by decide) ?_
            have kbw : ∀ a j, 61 ≤ a → a ≤ 76 → m75 a j = m a j := by first | exact kgw | exact k65w
            have kbP : PCH r79 x0 v82.toInt.toNat := by rw [show v82.toInt.toNat = (y14.toInt).toNat + 1 by omega]; first | exact PCH_no kgP (by omega) | exact PCH_yes (p := (m15 169 4).toInt.toNat) kgP kam (by omega) (by rw [← kb62]; exact k65.2)
            have kb4 : (m75 169 4).toInt = ((mbs x0 v82.toInt.toNat).length : Int) := by rw [show v82.toInt.toNat = (y14.toInt).toNat + 1 by omega]; first | (rw [mbs_no (by omega)]; exact kg4) | (have z := k65.1; rw [kmy.1]; omega)
            exact ih21 v82 m75 n76 r79 (by first | omega | assumption | exact (iv_rng _).2 | exact (iv_rng _).1 | decide) (by first | omega | assumption | exact (iv_rng _).2 | exact (iv_rng _).1 | decide) kbP kb4 kbw I77 K78 or79 (by omega)
    have z86 : (0 : Int32).toInt = 0 := by decide
    exact lp20 (((8 - 0) : Int).toNat + 1) 0 m6 n7 r10 (by first | omega | assumption | exact (iv_rng _).2 | exact (iv_rng _).1 | decide) (by first | omega | assumption | exact (iv_rng _).2 | exact (iv_rng _).1 | decide) (PCH_0 kP0) (by rw [Int32.toInt_zero]; exact k4z) kw0 I8 K9 or10 (by omega)

set_option maxHeartbeats 2000000 in
set_option maxRecDepth 20000 in
theorem s_X11_coverFor_vq (g : pv_G) {T : List mv_T} {m : Nat → Nat → Int32} {n : Nat → Nat → Int64} {r : Nat → Value} {la lb : Nat} (hT : TX T) (I : IV BB m) (R : RX T r la lb) (hC : TC T) (hc2 : r 2 = .ref 169) (x0 : Int32) (hp0 : x0.toInt ≠ 0) (hp1 : (mbs x0 8).length ≤ 4) (hp2 : ∀ k, k ∈ mbs x0 8 → (m (61 + 2 * k) 1).toInt ≤ 12) (hp3 : CCN m n) : PM g mX11_coverFor yX11_coverFor (sqArn T BB WX rn r m 169 (fun m' n' r' => m' 169 1 = x0 ∧ SHN m' x0 (n' 179 0))) 5 0 0 [.ref 0, .int x0] (mk T m n r) := by
  have Kp : fr WX m m := fr.rf
  have R0 := R
  have zR := R.2.2.2.2.1.1
  have zR2 := R.2.2.2.2.2.1
  have hc20 := hc2
  refine PM.of 2 (lo := [.ref 0, .int x0, pv_U, pv_U]) rfl (by decide) rfl rfl (Nat.le_of_ble_eq_true rfl) ?_
  refine pv_aload_n (M := mX11_coverFor) 0 dX11_coverFor_0 1 rfl rfl rfl ?_
  refine mv_get (M := mX11_coverFor) (v := .ref 169) dX11_coverFor_1 FX11 12 wd419 (by decide) (tl0 hT) rfl hc2 4 rfl ?_
  refine pv_ifnonnull (M := mX11_coverFor) (tgt := 17) dX11_coverFor_4 (by decide) ?_
  refine pv_aload_n (M := mX11_coverFor) 0 dX11_coverFor_17 18 rfl rfl rfl ?_
  refine mv_get (M := mX11_coverFor) (v := .ref 169) dX11_coverFor_18 FX11 12 wd419 (by decide) (tl0 hT) rfl hc2 21 rfl ?_
  refine pv_astore_n (M := mX11_coverFor) 2 (lo2 := [.ref 0, .int x0, .ref 169, pv_U]) dX11_coverFor_21 22 rfl rfl (by decide) rfl rfl ?_
  refine pv_aload_n (M := mX11_coverFor) 0 dX11_coverFor_22 23 rfl rfl rfl ?_
  refine pv_aload_n (M := mX11_coverFor) 2 dX11_coverFor_23 24 rfl rfl rfl ?_
  refine mv_putr (M := mX11_coverFor) (j := 2) (v := .ref 169) dX11_coverFor_24 FX11 12 wd419 (by decide) rfl (tl0 hT) rfl (hu_of (by decide)) (NM2t hC) (fun _ => rfl) (fun _ => rfl) 27 rfl (fun r1 er1 => ?_)
  rw [er1.trans (up1_same hc2)]
  exact s_X11_coverFor_vtq g hT I Kp (rn.rf hc20) R hC hc2 x0 hp0 hp1 hp2 hp3

set_option maxHeartbeats 2000000 in
set_option maxRecDepth 20000 in
theorem s_X3_howMany_vq (g : pv_G) {T : List mv_T} {m : Nat → Nat → Int32} {n : Nat → Nat → Int64} {r : Nat → Value} (hT : TX T) (I : IV BB m) (hC : TC T) : PM g mX3_howMany yX3_howMany (sqPJn (mk T m n r) (fun v => v = n 179 0)) 1 0 0 [.ref 169] (mk T m n r) := by
  have Kp : fr (wl []) m m := fr.rf
  refine PM.of 0 (lo := [.ref 169]) rfl (by decide) rfl rfl (Nat.le_of_ble_eq_true rfl) ?_
  refine pv_aload_n (M := mX3_howMany) 0 dX3_howMany_0 1 rfl rfl rfl ?_
  refine mv_get (M := mX3_howMany) (v := .ref 179) dX3_howMany_1 FX3 9 wd990 (by decide) (tc169 hC) rfl rfl 4 rfl ?_
  refine pv_iconst (M := mX3_howMany) (v := 0) dX3_howMany_4 5 rfl (by decide) ?_
  refine iv_lald (M := mX3_howMany) (X := 0) dX3_howMany_5 (tc179 hC) (by decide) (by omega) (by omega) 6 rfl (fun v1 ev1 => ?_)
  exact pv_lret (M := mX3_howMany) dX3_howMany_6 rfl ⟨_, rfl, rfl, ev1⟩
