set_option maxHeartbeats 2000000 in
set_option maxRecDepth 20000 in
theorem s_X12_shortAt (g : pv_G) {T : List mv_T} {m : Nat → Nat → Int32} {n : Nat → Nat → Int64} {r : Nat → Value} (hT : TX T) (I : IV BB m) (x0 : Int32) (hl0 : 0 ≤ x0.toInt) (hh0 : x0.toInt ≤ 12) (x1 : Int32) (hl1 : 0 ≤ x1.toInt) (hh1 : x1.toInt ≤ 12) (x2 : Int32) (hl2 : 0 ≤ x2.toInt) (hh2 : x2.toInt ≤ 12) (x3 : Int32) (hl3 : 0 ≤ x3.toInt) (hh3 : x3.toInt ≤ 12) : PM g mX12_shortAt yX12_shortAt (sqP (mk T m n r) 0 28560 (fun v => v.toInt = ((13 * x0.toInt + x1.toInt) * 13 + x2.toInt) * 13 + x3.toInt)) 1 0 0 [.int x0, .int x1, .int x2, .int x3] (mk T m n r) := by
  have Kp : fr (wl []) m m := fr.rf
  refine PM.of 0 (lo := [.int x0, .int x1, .int x2, .int x3]) rfl (by decide) rfl rfl (Nat.le_of_ble_eq_true rfl) ?_
  refine pv_bipush (M := mX12_shortAt) (v := 13) dX12_shortAt_0 2 rfl (by decide) ?_
  refine pv_iload_n (M := mX12_shortAt) 0 dX12_shortAt_2 3 rfl rfl rfl ?_
  refine iv_imul (M := mX12_shortAt) (X := 13) (Y := x0.toInt) dX12_shortAt_3 4 rfl (by decide) rfl (by omega) (by omega) (fun v1 ev1 => ?_)
  refine pv_iload_n (M := mX12_shortAt) 1 dX12_shortAt_4 5 rfl rfl rfl ?_
  refine iv_iadd (M := mX12_shortAt) (X := v1.toInt) (Y := x1.toInt) dX12_shortAt_5 6 rfl rfl rfl (by omega) (by omega) (fun v2 ev2 => ?_)
  refine pv_bipush (M := mX12_shortAt) (v := 13) dX12_shortAt_6 8 rfl (by decide) ?_
  refine iv_imul (M := mX12_shortAt) (X := v2.toInt) (Y := 13) dX12_shortAt_8 9 rfl rfl (by decide) (by omega) (by omega) (fun v3 ev3 => ?_)
  refine pv_iload_n (M := mX12_shortAt) 2 dX12_shortAt_9 10 rfl rfl rfl ?_
  refine iv_iadd (M := mX12_shortAt) (X := v3.toInt) (Y := x2.toInt) dX12_shortAt_10 11 rfl rfl rfl (by omega) (by omega) (fun v4 ev4 => ?_)
  refine pv_bipush (M := mX12_shortAt) (v := 13) dX12_shortAt_11 13 rfl (by decide) ?_
  refine iv_imul (M := mX12_shortAt) (X := v4.toInt) (Y := 13) dX12_shortAt_13 14 rfl rfl (by decide) (by omega) (by omega) (fun v5 ev5 => ?_)
  refine pv_iload_n (M := mX12_shortAt) 3 dX12_shortAt_14 15 rfl rfl rfl ?_
  refine iv_iadd (M := mX12_shortAt) (X := v5.toInt) (Y := x3.toInt) dX12_shortAt_15 16 rfl rfl rfl (by omega) (by omega) (fun v6 ev6 => ?_)
  exact pv_iret (M := mX12_shortAt) dX12_shortAt_16 rfl rfl ⟨_, rfl, rfl, by omega, by omega, (by first | omega | assumption)⟩

set_option maxHeartbeats 2000000 in
set_option maxRecDepth 20000 in
theorem s_X12_takesLetter (g : pv_G) {T : List mv_T} {m : Nat → Nat → Int32} {n : Nat → Nat → Int64} {r : Nat → Value} (hT : TX T) (I : IV BB m) (x0 : Int32) (hl0 : 0 ≤ x0.toInt) (hh0 : x0.toInt ≤ 25) : PM g mX12_takesLetter yX12_takesLetter (sqI T BB (wl [(159, 159, none)]) r m 0 1 (fun m' v => NX m (pa m) x0.toInt 4 m' ∧ (v.toInt = 0 → tkF m (pa m) x0.toInt 4 = 0) ∧ (v.toInt ≠ 0 → 0 < tkF m (pa m) x0.toInt 4))) 2 0 0 [.ref 123, .int x0] (mk T m n r) := by
  have Kp : fr (wl [(159, 159, none)]) m m := fr.rf
  have z107 : 0 ≤ (m 123 50).toInt ∧ (m 123 50).toInt ≤ 4 := I 123 50
  refine PM.of 3 (lo := [.ref 123, .int x0, pv_U, pv_U, pv_U]) rfl (by decide) rfl rfl (Nat.le_of_ble_eq_true rfl) ?_
  refine pv_iconst (M := mX12_takesLetter) (v := 0) dX12_takesLetter_0 1 rfl (by decide) ?_
  refine pv_istore_n (M := mX12_takesLetter) 2 (lo2 := [.ref 123, .int x0, .int 0, pv_U, pv_U]) dX12_takesLetter_1 2 rfl rfl (by decide) rfl rfl ?_
  refine pv_iconst (M := mX12_takesLetter) (v := 0) dX12_takesLetter_2 3 rfl (by decide) ?_
  refine pv_istore_n (M := mX12_takesLetter) 3 (lo2 := [.ref 123, .int x0, .int 0, .int 0, pv_U]) dX12_takesLetter_3 4 rfl rfl (by decide) rfl rfl ?_
  have lp8 : ∀ (fuel7 : Nat) (y1 : Int32) (y2 : Int32) (m3 : Nat → Nat → Int32) (n4 : Nat → Nat → Int64), (0 ≤ y1.toInt) → (y1.toInt ≤ 1) → (0 ≤ y2.toInt) → (y2.toInt ≤ 4) → (y1.toInt = 0 → tkF m (pa m) x0.toInt y2.toInt.toNat = 0) → (y1.toInt ≠ 0 → 0 < tkF m (pa m) x0.toInt y2.toInt.toNat) → (NX m (pa m) x0.toInt y2.toInt m3) → IV BB m3 → fr (wl [(159, 159, none)]) m m3 → ((4 - y2.toInt) : Int).toNat < fuel7 → PV none g mX12_takesLetter (sqI T BB (wl [(159, 159, none)]) r m 0 1 (fun m' v => NX m (pa m) x0.toInt 4 m' ∧ (v.toInt = 0 → tkF m (pa m) x0.toInt 4 = 0) ∧ (v.toInt ≠ 0 → 0 < tkF m (pa m) x0.toInt 4))) 2 0 0 4 [.ref 123, .int x0, .int y1, .int y2, pv_U] [] (mk T m3 n4 r) := by
    intro fuel7
    induction fuel7 with
    | zero => intro y1 y2 m3 n4 b10 b11 b12 b13 b14 b15 b16 I5 K6 z17; omega
    | succ fuel7 ih9 =>
      intro y1 y2 m3 n4 b10 b11 b12 b13 b14 b15 b16 I5 K6 z17
      have z18 : 0 ≤ (m3 123 50).toInt ∧ (m3 123 50).toInt ≤ 4 := I5 123 50
      have kga := (show y1.toInt = 0 → tkF m (pa m) x0.toInt y2.toInt.toNat = 0 by assumption)
      have kgb := (show y1.toInt ≠ 0 → 0 < tkF m (pa m) x0.toInt y2.toInt.toNat by assumption)
      have kg2 := (show NX m (pa m) x0.toInt y2.toInt m3 by assumption)
      have kS : HSAME m m3 := ⟨K6 123 50 rfl, fun j => K6 157 j rfl, fun j => K6 126 j rfl, fun j => K6 127 j rfl⟩
      have kC : (m3 123 50).toInt = (m 123 50).toInt := congrArg Int32.toInt kS.1
      have kL := LAq_eq kS
      have kt := tk1_at (m := m) (p := pa m) (l := x0.toInt) (k := y2.toInt) (by omega)
      have kt2 := tkF_s (m := m) (p := pa m) (l := x0.toInt) (j := y2.toInt) (k := y2.toInt + 1) (by omega) rfl
      refine pv_iload_n (M := mX12_takesLetter) 3 dX12_takesLetter_4 5 rfl rfl rfl ?_
      refine pv_iconst (M := mX12_takesLetter) (v := 4) dX12_takesLetter_5 6 rfl (by decide) ?_
      refine pv_icmp_ge (M := mX12_takesLetter) (tgt := 83) dX12_takesLetter_6 9 rfl (by decide) (fun c27 => ?_) (fun c27 => ?_)
      · have c27 := iv_le (X := 4) (Y := y2.toInt) c27 (by decide) rfl
        refine pv_iload_n (M := mX12_takesLetter) 2 dX12_takesLetter_83 84 rfl rfl rfl ?_
        exact pv_iret (M := mX12_takesLetter) dX12_takesLetter_84 rfl (iv_nz (by omega) (by omega)) ⟨_, _, _, rfl, rfl, I5, K6, by omega, by omega, ⟨(by have q := kg2; rw [show y2.toInt = 4 by omega] at q; exact q), (by have q := kga; rw [show y2.toInt.toNat = 4 by omega] at q; exact q), (by have q := kgb; rw [show y2.toInt.toNat = 4 by omega] at q; exact q)⟩⟩
      · have c27 := iv_nle (X := 4) (Y := y2.toInt) c27 (by decide) rfl
        refine pv_iload_n (M := mX12_takesLetter) 3 dX12_takesLetter_9 10 rfl rfl rfl ?_
        refine pv_aload_n (M := mX12_takesLetter) 0 dX12_takesLetter_10 11 rfl rfl rfl ?_
        refine iv_get (M := mX12_takesLetter) (l1 := 0) (l2 := 4) dX12_takesLetter_11 FX12 50 wd1223 (by decide) (tl123 hT) rfl I5 rfl 14 rfl (fun v28 ev28 pv28 qv28 => ?_)
        have wv28 : v28.toInt = (m3 123 50).toInt := congrArg Int32.toInt ev28
        refine pv_icmp_ge (M := mX12_takesLetter) (tgt := 36) dX12_takesLetter_14 17 rfl (by decide) (fun c29 => ?_) (fun c29 => ?_)
        · have c29 := iv_le (X := v28.toInt) (Y := y2.toInt) c29 rfl rfl
          have k36 : tk1 m (pa m) x0.toInt y2.toInt.toNat = 0 := kt.trans (if_neg (fun q => by omega))
          refine pv_iconst (M := mX12_takesLetter) (v := 0) dX12_takesLetter_36 37 rfl (by decide) ?_
          refine pv_istore (M := mX12_takesLetter) (lo2 := [.ref 123, .int x0, .int y1, .int y2, .int 0]) dX12_takesLetter_37 39 rfl (by decide) rfl rfl ?_
          refine pv_aload_n (M := mX12_takesLetter) 0 dX12_takesLetter_39 40 rfl rfl rfl ?_
          refine mv_get (M := mX12_takesLetter) (v := .ref 159) dX12_takesLetter_40 FX12 53 wd1226 (by decide) (tl123 hT) rfl rfl 43 rfl ?_
          refine pv_iload_n (M := mX12_takesLetter) 3 dX12_takesLetter_43 44 rfl rfl rfl ?_
          refine pv_aload_n (M := mX12_takesLetter) 0 dX12_takesLetter_44 45 rfl rfl rfl ?_
          refine mv_get (M := mX12_takesLetter) (v := .ref 158) dX12_takesLetter_45 FX12 52 wd1225 (by decide) (tl123 hT) rfl rfl 48 rfl ?_
          refine pv_iload_n (M := mX12_takesLetter) 3 dX12_takesLetter_48 49 rfl rfl rfl ?_
          refine iv_iald (M := mX12_takesLetter) (X := y2.toInt) (l1 := 0) (l2 := 16) dX12_takesLetter_49 (tl158 hT) rfl (by omega) (by omega) I5 (fun _ => rfl) 50 rfl (fun v31 ev31 pv31 qv31 => ?_)
          have k50 : v31.toInt = pa m y2.toInt.toNat := by rw [ev31]; exact congrArg Int32.toInt (K6 158 _ rfl)
          refine pv_iload (M := mX12_takesLetter) dX12_takesLetter_50 52 rfl rfl ?_
          refine pv_if_eq (M := mX12_takesLetter) (tgt := 59) dX12_takesLetter_52 55 rfl (by decide) (fun _ => ?_) (fun q => absurd (by decide) q)
          refine pv_iconst (M := mX12_takesLetter) (v := 0) dX12_takesLetter_59 60 rfl (by decide) ?_
          refine iv_iadd (M := mX12_takesLetter) (X := v31.toInt) (Y := 0) dX12_takesLetter_60 61 rfl rfl (by decide) (by omega) (by omega) (fun v34 ev34 => ?_)
          refine iv_iast (M := mX12_takesLetter) (X := y2.toInt) (l1 := 0) (l2 := 17) dX12_takesLetter_61 (tl159 hT) rfl (by omega) (by omega) I5 (fun _ => rfl) (by omega) (by omega) 62 rfl (fun m35 e38 I36 => ?_)
          have K37 := K6.set e38 rfl
          have w39 : (m35 123 50).toInt = (m3 123 50).toInt := by rw [e38, up2_ne (by omega)]
          have k62 := NX_set kg2 (by omega) ((e38).trans (up2_ix (j := y2.toInt.toNat) (by omega))) (by omega)
          refine pv_iload_n (M := mX12_takesLetter) 2 dX12_takesLetter_62 63 rfl rfl rfl ?_
          refine pv_if_ne (M := mX12_takesLetter) (tgt := 71) dX12_takesLetter_63 66 rfl (by decide) (fun c41 => ?_) (fun c41 => ?_)
          · have c41 := iv_ne (X := y1.toInt) (Y := 0) c41 rfl (by decide)
            refine pv_iconst (M := mX12_takesLetter) (v := 1) dX12_takesLetter_71 72 rfl (by decide) ?_
            refine pv_goto (M := mX12_takesLetter) (tgt := 76) dX12_takesLetter_72 (by decide) ?_
            refine pv_istore_n (M := mX12_takesLetter) 2 (lo2 := [.ref 123, .int x0, .int 1, .int y2, .int 0]) dX12_takesLetter_76 77 rfl rfl (by decide) rfl rfl ?_
            refine iv_inc (M := mX12_takesLetter) (C := 1) dX12_takesLetter_77 80 rfl rfl (by decide) rfl rfl (by decide) (by omega) (by omega) (fun v42 ev42 => ?_)
            show PV _ _ _ _ _ _ _ 80 [.ref 123, .int x0, .int 1, .int v42, .int 0] [] _
            refine pv_goto (M := mX12_takesLetter) (tgt := 4) dX12_takesLetter_80 (by decide) ?_
            have z43 : (1 : Int32).toInt = 1 := by decide
            refine pv_fg (lo2 := [.ref 123, .int x0, .int 1, .int v42, pv_U]) ⟨Or.inr rfl, ⟨Or.inr rfl, ⟨Or.inr rfl, ⟨Or.inr rfl, ⟨Or.inl rfl, trivial⟩⟩⟩⟩⟩ ?_
            have ku : v42.toInt = y2.toInt + 1 := by omega
            have kb2 : NX m (pa m) x0.toInt v42.toInt m35 := by rw [ku]; exact k62
            have kt3 : tkF m (pa m) x0.toInt v42.toInt.toNat = tkF m (pa m) x0.toInt (y2.toInt + 1).toNat := congrArg _ (by omega)
            exact ih9 1 v42 m35 n4 (by first | omega | assumption | exact (iv_rng _).2 | exact (iv_rng _).1 | decide) (by first | omega | assumption | exact (iv_rng _).2 | exact (iv_rng _).1 | decide) (by first | omega | assumption | exact (iv_rng _).2 | exact (iv_rng _).1 | decide) (by first | omega | assumption | exact (iv_rng _).2 | exact (iv_rng _).1 | decide) (by first | omega | assumption | (show 1 = 0 → tkF m (pa m) x0.toInt v42.toInt.toNat = 0; omega) | decide) (by first | omega | assumption | (show 1 ≠ 0 → 0 < tkF m (pa m) x0.toInt v42.toInt.toNat; omega) | decide) kb2 I36 K37 (by omega)
          · have c41 := iv_eq (X := y1.toInt) (Y := 0) c41 rfl (by decide)
            refine pv_iload (M := mX12_takesLetter) dX12_takesLetter_66 68 rfl rfl ?_
            refine pv_if_eq (M := mX12_takesLetter) (tgt := 75) dX12_takesLetter_68 71 rfl (by decide) (fun _ => ?_) (fun q => absurd (by decide) q)
            refine pv_iconst (M := mX12_takesLetter) (v := 0) dX12_takesLetter_75 76 rfl (by decide) ?_
            refine pv_istore_n (M := mX12_takesLetter) 2 (lo2 := [.ref 123, .int x0, .int 0, .int y2, .int 0]) dX12_takesLetter_76 77 rfl rfl (by decide) rfl rfl ?_
            refine iv_inc (M := mX12_takesLetter) (C := 1) dX12_takesLetter_77 80 rfl rfl (by decide) rfl rfl (by decide) (by omega) (by omega) (fun v48 ev48 => ?_)
            show PV _ _ _ _ _ _ _ 80 [.ref 123, .int x0, .int 0, .int v48, .int 0] [] _
            refine pv_goto (M := mX12_takesLetter) (tgt := 4) dX12_takesLetter_80 (by decide) ?_
            have z49 : (0 : Int32).toInt = 0 := by decide
            refine pv_fg (lo2 := [.ref 123, .int x0, .int 0, .int v48, pv_U]) ⟨Or.inr rfl, ⟨Or.inr rfl, ⟨Or.inr rfl, ⟨Or.inr rfl, ⟨Or.inl rfl, trivial⟩⟩⟩⟩⟩ ?_
            have ku : v48.toInt = y2.toInt + 1 := by omega
            have kb2 : NX m (pa m) x0.toInt v48.toInt m35 := by rw [ku]; exact k62
            have kt3 : tkF m (pa m) x0.toInt v48.toInt.toNat = tkF m (pa m) x0.toInt (y2.toInt + 1).toNat := congrArg _ (by omega)
            exact ih9 0 v48 m35 n4 (by first | omega | assumption | exact (iv_rng _).2 | exact (iv_rng _).1 | decide) (by first | omega | assumption | exact (iv_rng _).2 | exact (iv_rng _).1 | decide) (by first | omega | assumption | exact (iv_rng _).2 | exact (iv_rng _).1 | decide) (by first | omega | assumption | exact (iv_rng _).2 | exact (iv_rng _).1 | decide) (by first | omega | assumption | (show 0 = 0 → tkF m (pa m) x0.toInt v48.toInt.toNat = 0; omega) | decide) (by first | omega | assumption | (show 0 ≠ 0 → 0 < tkF m (pa m) x0.toInt v48.toInt.toNat; omega) | decide) kb2 I36 K37 (by omega)
        · have c29 := iv_nle (X := v28.toInt) (Y := y2.toInt) c29 rfl rfl
          refine pv_aload_n (M := mX12_takesLetter) 0 dX12_takesLetter_17 18 rfl rfl rfl ?_
          refine pv_iload_n (M := mX12_takesLetter) 3 dX12_takesLetter_18 19 rfl rfl rfl ?_
          refine pv_aload_n (M := mX12_takesLetter) 0 dX12_takesLetter_19 20 rfl rfl rfl ?_
          refine mv_get (M := mX12_takesLetter) (v := .ref 158) dX12_takesLetter_20 FX12 52 wd1225 (by decide) (tl123 hT) rfl rfl 23 rfl ?_
          refine pv_iload_n (M := mX12_takesLetter) 3 dX12_takesLetter_23 24 rfl rfl rfl ?_
          refine iv_iald (M := mX12_takesLetter) (X := y2.toInt) (l1 := 0) (l2 := 16) dX12_takesLetter_24 (tl158 hT) rfl (by omega) (by omega) I5 (fun _ => rfl) 25 rfl (fun v53 ev53 pv53 qv53 => ?_)
          have k25 : v53.toInt = pa m y2.toInt.toNat := by rw [ev53]; exact congrArg Int32.toInt (K6 158 _ rfl)
          refine pv_callv (M := mX12_takesLetter) (as := [.int y2, .int v53]) (st := []) (kc2 := 0) (ks2 := 0) dX12_takesLetter_25 wd1645 YX12_letterAt ⟨wd1647, wd101⟩ (mk_get (tl123 hT)) rfl rfl (s_X12_letterAt g hT I5 y2 (by omega) (by omega) v53 (by omega) (by omega)) rfl rfl (Nat.le_of_ble_eq_true rfl) (by decide) rfl rfl 28 rfl (fun rv h1 q55 => ?_)
          obtain ⟨v56, rfl, rfl, pv56, qv56, rv56⟩ := q55
          replace rv56 : v56.toInt = LAq m3 y2.toInt v53.toInt := rv56
          show PV _ _ _ _ _ _ _ 28 [.ref 123, .int x0, .int y1, .int y2, pv_U] [.int v56] _
          have k28 : v56.toInt = LAq m y2.toInt (pa m y2.toInt.toNat) := by rw [rv56, kL, k25]
          refine pv_iload_n (M := mX12_takesLetter) 1 dX12_takesLetter_28 29 rfl rfl rfl ?_
          refine pv_icmp_ne (M := mX12_takesLetter) (tgt := 36) dX12_takesLetter_29 32 rfl (by decide) (fun c58 => ?_) (fun c58 => ?_)
          · have c58 := iv_ne (X := v56.toInt) (Y := x0.toInt) c58 rfl rfl
            have k36 : tk1 m (pa m) x0.toInt y2.toInt.toNat = 0 := kt.trans (if_neg (fun q => by omega))
            refine pv_iconst (M := mX12_takesLetter) (v := 0) dX12_takesLetter_36 37 rfl (by decide) ?_
            refine pv_istore (M := mX12_takesLetter) (lo2 := [.ref 123, .int x0, .int y1, .int y2, .int 0]) dX12_takesLetter_37 39 rfl (by decide) rfl rfl ?_
            refine pv_aload_n (M := mX12_takesLetter) 0 dX12_takesLetter_39 40 rfl rfl rfl ?_
            refine mv_get (M := mX12_takesLetter) (v := .ref 159) dX12_takesLetter_40 FX12 53 wd1226 (by decide) (tl123 hT) rfl rfl 43 rfl ?_
            refine pv_iload_n (M := mX12_takesLetter) 3 dX12_takesLetter_43 44 rfl rfl rfl ?_
            refine pv_aload_n (M := mX12_takesLetter) 0 dX12_takesLetter_44 45 rfl rfl rfl ?_
            refine mv_get (M := mX12_takesLetter) (v := .ref 158) dX12_takesLetter_45 FX12 52 wd1225 (by decide) (tl123 hT) rfl rfl 48 rfl ?_
            refine pv_iload_n (M := mX12_takesLetter) 3 dX12_takesLetter_48 49 rfl rfl rfl ?_
            refine iv_iald (M := mX12_takesLetter) (X := y2.toInt) (l1 := 0) (l2 := 16) dX12_takesLetter_49 (tl158 hT) rfl (by omega) (by omega) I5 (fun _ => rfl) 50 rfl (fun v60 ev60 pv60 qv60 => ?_)
            have k50 : v60.toInt = pa m y2.toInt.toNat := by rw [ev60]; exact congrArg Int32.toInt (K6 158 _ rfl)
            refine pv_iload (M := mX12_takesLetter) dX12_takesLetter_50 52 rfl rfl ?_
            refine pv_if_eq (M := mX12_takesLetter) (tgt := 59) dX12_takesLetter_52 55 rfl (by decide) (fun _ => ?_) (fun q => absurd (by decide) q)
            refine pv_iconst (M := mX12_takesLetter) (v := 0) dX12_takesLetter_59 60 rfl (by decide) ?_
            refine iv_iadd (M := mX12_takesLetter) (X := v60.toInt) (Y := 0) dX12_takesLetter_60 61 rfl rfl (by decide) (by omega) (by omega) (fun v63 ev63 => ?_)
            refine iv_iast (M := mX12_takesLetter) (X := y2.toInt) (l1 := 0) (l2 := 17) dX12_takesLetter_61 (tl159 hT) rfl (by omega) (by omega) I5 (fun _ => rfl) (by omega) (by omega) 62 rfl (fun m64 e67 I65 => ?_)
            have K66 := K6.set e67 rfl
            have w68 : (m64 123 50).toInt = (m3 123 50).toInt := by rw [e67, up2_ne (by omega)]
            have k62 := NX_set kg2 (by omega) ((e67).trans (up2_ix (j := y2.toInt.toNat) (by omega))) (by omega)
            refine pv_iload_n (M := mX12_takesLetter) 2 dX12_takesLetter_62 63 rfl rfl rfl ?_
            refine pv_if_ne (M := mX12_takesLetter) (tgt := 71) dX12_takesLetter_63 66 rfl (by decide) (fun c70 => ?_) (fun c70 => ?_)
            · have c70 := iv_ne (X := y1.toInt) (Y := 0) c70 rfl (by decide)
              refine pv_iconst (M := mX12_takesLetter) (v := 1) dX12_takesLetter_71 72 rfl (by decide) ?_
              refine pv_goto (M := mX12_takesLetter) (tgt := 76) dX12_takesLetter_72 (by decide) ?_
              refine pv_istore_n (M := mX12_takesLetter) 2 (lo2 := [.ref 123, .int x0, .int 1, .int y2, .int 0]) dX12_takesLetter_76 77 rfl rfl (by decide) rfl rfl ?_
              refine iv_inc (M := mX12_takesLetter) (C := 1) dX12_takesLetter_77 80 rfl rfl (by decide) rfl rfl (by decide) (by omega) (by omega) (fun v71 ev71 => ?_)
              show PV _ _ _ _ _ _ _ 80 [.ref 123, .int x0, .int 1, .int v71, .int 0] [] _
              refine pv_goto (M := mX12_takesLetter) (tgt := 4) dX12_takesLetter_80 (by decide) ?_
              have z72 : (1 : Int32).toInt = 1 := by decide
              refine pv_fg (lo2 := [.ref 123, .int x0, .int 1, .int v71, pv_U]) ⟨Or.inr rfl, ⟨Or.inr rfl, ⟨Or.inr rfl, ⟨Or.inr rfl, ⟨Or.inl rfl, trivial⟩⟩⟩⟩⟩ ?_
              have ku : v71.toInt = y2.toInt + 1 := by omega
              have kb2 : NX m (pa m) x0.toInt v71.toInt m64 := by rw [ku]; exact k62
              have kt3 : tkF m (pa m) x0.toInt v71.toInt.toNat = tkF m (pa m) x0.toInt (y2.toInt + 1).toNat := congrArg _ (by omega)
              exact ih9 1 v71 m64 n4 (by first | omega | assumption | exact (iv_rng _).2 | exact (iv_rng _).1 | decide) (by first | omega | assumption | exact (iv_rng _).2 | exact (iv_rng _).1 | decide) (by first | omega | assumption | exact (iv_rng _).2 | exact (iv_rng _).1 | decide) (by first | omega | assumption | exact (iv_rng _).2 | exact (iv_rng _).1 | decide) (by first | omega | assumption | (show 1 = 0 → tkF m (pa m) x0.toInt v71.toInt.toNat = 0; omega) | decide) (by first | omega | assumption | (show 1 ≠ 0 → 0 < tkF m (pa m) x0.toInt v71.toInt.toNat; omega) | decide) kb2 I65 K66 (by omega)
            · have c70 := iv_eq (X := y1.toInt) (Y := 0) c70 rfl (by decide)
              refine pv_iload (M := mX12_takesLetter) dX12_takesLetter_66 68 rfl rfl ?_
              refine pv_if_eq (M := mX12_takesLetter) (tgt := 75) dX12_takesLetter_68 71 rfl (by decide) (fun _ => ?_) (fun q => absurd (by decide) q)
              refine pv_iconst (M := mX12_takesLetter) (v := 0) dX12_takesLetter_75 76 rfl (by decide) ?_
              refine pv_istore_n (M := mX12_takesLetter) 2 (lo2 := [.ref 123, .int x0, .int 0, .int y2, .int 0]) dX12_takesLetter_76 77 rfl rfl (by decide) rfl rfl ?_
              refine iv_inc (M := mX12_takesLetter) (C := 1) dX12_takesLetter_77 80 rfl rfl (by decide) rfl rfl (by decide) (by omega) (by omega) (fun v77 ev77 => ?_)
              show PV _ _ _ _ _ _ _ 80 [.ref 123, .int x0, .int 0, .int v77, .int 0] [] _
              refine pv_goto (M := mX12_takesLetter) (tgt := 4) dX12_takesLetter_80 (by decide) ?_
              have z78 : (0 : Int32).toInt = 0 := by decide
              refine pv_fg (lo2 := [.ref 123, .int x0, .int 0, .int v77, pv_U]) ⟨Or.inr rfl, ⟨Or.inr rfl, ⟨Or.inr rfl, ⟨Or.inr rfl, ⟨Or.inl rfl, trivial⟩⟩⟩⟩⟩ ?_
              have ku : v77.toInt = y2.toInt + 1 := by omega
              have kb2 : NX m (pa m) x0.toInt v77.toInt m64 := by rw [ku]; exact k62
              have kt3 : tkF m (pa m) x0.toInt v77.toInt.toNat = tkF m (pa m) x0.toInt (y2.toInt + 1).toNat := congrArg _ (by omega)
              exact ih9 0 v77 m64 n4 (by first | omega | assumption | exact (iv_rng _).2 | exact (iv_rng _).1 | decide) (by first | omega | assumption | exact (iv_rng _).2 | exact (iv_rng _).1 | decide) (by first | omega | assumption | exact (iv_rng _).2 | exact (iv_rng _).1 | decide) (by first | omega | assumption | exact (iv_rng _).2 | exact (iv_rng _).1 | decide) (by first | omega | assumption | (show 0 = 0 → tkF m (pa m) x0.toInt v77.toInt.toNat = 0; omega) | decide) (by first | omega | assumption | (show 0 ≠ 0 → 0 < tkF m (pa m) x0.toInt v77.toInt.toNat; omega) | decide) kb2 I65 K66 (by omega)
          · have c58 := iv_eq (X := v56.toInt) (Y := x0.toInt) c58 rfl rfl
            have k32 : tk1 m (pa m) x0.toInt y2.toInt.toNat = 1 := kt.trans (if_pos ⟨by omega, by omega⟩)
            refine pv_iconst (M := mX12_takesLetter) (v := 1) dX12_takesLetter_32 33 rfl (by decide) ?_
            refine pv_goto (M := mX12_takesLetter) (tgt := 37) dX12_takesLetter_33 (by decide) ?_
            refine pv_istore (M := mX12_takesLetter) (lo2 := [.ref 123, .int x0, .int y1, .int y2, .int 1]) dX12_takesLetter_37 39 rfl (by decide) rfl rfl ?_
            refine pv_aload_n (M := mX12_takesLetter) 0 dX12_takesLetter_39 40 rfl rfl rfl ?_
            refine mv_get (M := mX12_takesLetter) (v := .ref 159) dX12_takesLetter_40 FX12 53 wd1226 (by decide) (tl123 hT) rfl rfl 43 rfl ?_
            refine pv_iload_n (M := mX12_takesLetter) 3 dX12_takesLetter_43 44 rfl rfl rfl ?_
            refine pv_aload_n (M := mX12_takesLetter) 0 dX12_takesLetter_44 45 rfl rfl rfl ?_
            refine mv_get (M := mX12_takesLetter) (v := .ref 158) dX12_takesLetter_45 FX12 52 wd1225 (by decide) (tl123 hT) rfl rfl 48 rfl ?_
            refine pv_iload_n (M := mX12_takesLetter) 3 dX12_takesLetter_48 49 rfl rfl rfl ?_
            refine iv_iald (M := mX12_takesLetter) (X := y2.toInt) (l1 := 0) (l2 := 16) dX12_takesLetter_49 (tl158 hT) rfl (by omega) (by omega) I5 (fun _ => rfl) 50 rfl (fun v83 ev83 pv83 qv83 => ?_)
            have k50 : v83.toInt = pa m y2.toInt.toNat := by rw [ev83]; exact congrArg Int32.toInt (K6 158 _ rfl)
            refine pv_iload (M := mX12_takesLetter) dX12_takesLetter_50 52 rfl rfl ?_
            refine pv_if_eq (M := mX12_takesLetter) (tgt := 59) dX12_takesLetter_52 55 rfl (by decide) (fun q => absurd q (by decide)) (fun _ => ?_)
            refine pv_iconst (M := mX12_takesLetter) (v := 1) dX12_takesLetter_55 56 rfl (by decide) ?_
            refine pv_goto (M := mX12_takesLetter) (tgt := 60) dX12_takesLetter_56 (by decide) ?_
            refine iv_iadd (M := mX12_takesLetter) (X := v83.toInt) (Y := 1) dX12_takesLetter_60 61 rfl rfl (by decide) (by omega) (by omega) (fun v86 ev86 => ?_)
            refine iv_iast (M := mX12_takesLetter) (X := y2.toInt) (l1 := 0) (l2 := 17) dX12_takesLetter_61 (tl159 hT) rfl (by omega) (by omega) I5 (fun _ => rfl) (by omega) (by omega) 62 rfl (fun m87 e90 I88 => ?_)
            have K89 := K6.set e90 rfl
            have w91 : (m87 123 50).toInt = (m3 123 50).toInt := by rw [e90, up2_ne (by omega)]
            have k62 := NX_set kg2 (by omega) ((e90).trans (up2_ix (j := y2.toInt.toNat) (by omega))) (by omega)
            refine pv_iload_n (M := mX12_takesLetter) 2 dX12_takesLetter_62 63 rfl rfl rfl ?_
            refine pv_if_ne (M := mX12_takesLetter) (tgt := 71) dX12_takesLetter_63 66 rfl (by decide) (fun c93 => ?_) (fun c93 => ?_)
            · have c93 := iv_ne (X := y1.toInt) (Y := 0) c93 rfl (by decide)
              refine pv_iconst (M := mX12_takesLetter) (v := 1) dX12_takesLetter_71 72 rfl (by decide) ?_
              refine pv_goto (M := mX12_takesLetter) (tgt := 76) dX12_takesLetter_72 (by decide) ?_
              refine pv_istore_n (M := mX12_takesLetter) 2 (lo2 := [.ref 123, .int x0, .int 1, .int y2, .int 1]) dX12_takesLetter_76 77 rfl rfl (by decide) rfl rfl ?_
              refine iv_inc (M := mX12_takesLetter) (C := 1) dX12_takesLetter_77 80 rfl rfl (by decide) rfl rfl (by decide) (by omega) (by omega) (fun v94 ev94 => ?_)
              show PV _ _ _ _ _ _ _ 80 [.ref 123, .int x0, .int 1, .int v94, .int 1] [] _
              refine pv_goto (M := mX12_takesLetter) (tgt := 4) dX12_takesLetter_80 (by decide) ?_
              have z95 : (1 : Int32).toInt = 1 := by decide
              refine pv_fg (lo2 := [.ref 123, .int x0, .int 1, .int v94, pv_U]) ⟨Or.inr rfl, ⟨Or.inr rfl, ⟨Or.inr rfl, ⟨Or.inr rfl, ⟨Or.inl rfl, trivial⟩⟩⟩⟩⟩ ?_
              have ku : v94.toInt = y2.toInt + 1 := by omega
              have kb2 : NX m (pa m) x0.toInt v94.toInt m87 := by rw [ku]; exact k62
              have kt3 : tkF m (pa m) x0.toInt v94.toInt.toNat = tkF m (pa m) x0.toInt (y2.toInt + 1).toNat := congrArg _ (by omega)
              exact ih9 1 v94 m87 n4 (by first | omega | assumption | exact (iv_rng _).2 | exact (iv_rng _).1 | decide) (by first | omega | assumption | exact (iv_rng _).2 | exact (iv_rng _).1 | decide) (by first | omega | assumption | exact (iv_rng _).2 | exact (iv_rng _).1 | decide) (by first | omega | assumption | exact (iv_rng _).2 | exact (iv_rng _).1 | decide) (by first | omega | assumption | (show 1 = 0 → tkF m (pa m) x0.toInt v94.toInt.toNat = 0; omega) | decide) (by first | omega | assumption | (show 1 ≠ 0 → 0 < tkF m (pa m) x0.toInt v94.toInt.toNat; omega) | decide) kb2 I88 K89 (by omega)
            · have c93 := iv_eq (X := y1.toInt) (Y := 0) c93 rfl (by decide)
              refine pv_iload (M := mX12_takesLetter) dX12_takesLetter_66 68 rfl rfl ?_
              refine pv_if_eq (M := mX12_takesLetter) (tgt := 75) dX12_takesLetter_68 71 rfl (by decide) (fun q => absurd q (by decide)) (fun _ => ?_)
              refine pv_iconst (M := mX12_takesLetter) (v := 1) dX12_takesLetter_71 72 rfl (by decide) ?_
              refine pv_goto (M := mX12_takesLetter) (tgt := 76) dX12_takesLetter_72 (by decide) ?_
              refine pv_istore_n (M := mX12_takesLetter) 2 (lo2 := [.ref 123, .int x0, .int 1, .int y2, .int 1]) dX12_takesLetter_76 77 rfl rfl (by decide) rfl rfl ?_
              refine iv_inc (M := mX12_takesLetter) (C := 1) dX12_takesLetter_77 80 rfl rfl (by decide) rfl rfl (by decide) (by omega) (by omega) (fun v100 ev100 => ?_)
              show PV _ _ _ _ _ _ _ 80 [.ref 123, .int x0, .int 1, .int v100, .int 1] [] _
              refine pv_goto (M := mX12_takesLetter) (tgt := 4) dX12_takesLetter_80 (by decide) ?_
              have z101 : (1 : Int32).toInt = 1 := by decide
              refine pv_fg (lo2 := [.ref 123, .int x0, .int 1, .int v100, pv_U]) ⟨Or.inr rfl, ⟨Or.inr rfl, ⟨Or.inr rfl, ⟨Or.inr rfl, ⟨Or.inl rfl, trivial⟩⟩⟩⟩⟩ ?_
              have ku : v100.toInt = y2.toInt + 1 := by omega
              have kb2 : NX m (pa m) x0.toInt v100.toInt m87 := by rw [ku]; exact k62
              have kt3 : tkF m (pa m) x0.toInt v100.toInt.toNat = tkF m (pa m) x0.toInt (y2.toInt + 1).toNat := congrArg _ (by omega)
              exact ih9 1 v100 m87 n4 (by first | omega | assumption | exact (iv_rng _).2 | exact (iv_rng _).1 | decide) (by first | omega | assumption | exact (iv_rng _).2 | exact (iv_rng _).1 | decide) (by first | omega | assumption | exact (iv_rng _).2 | exact (iv_rng _).1 | decide) (by first | omega | assumption | exact (iv_rng _).2 | exact (iv_rng _).1 | decide) (by first | omega | assumption | (show 1 = 0 → tkF m (pa m) x0.toInt v100.toInt.toNat = 0; omega) | decide) (by first | omega | assumption | (show 1 ≠ 0 → 0 < tkF m (pa m) x0.toInt v100.toInt.toNat; omega) | decide) kb2 I88 K89 (by omega)
  have z105 : (0 : Int32).toInt = 0 := by decide
  have z106 : (0 : Int32).toInt = 0 := by decide
  exact lp8 (((4 - 0) : Int).toNat + 1) 0 0 m n (by first | omega | assumption | exact (iv_rng _).2 | exact (iv_rng _).1 | decide) (by first | omega | assumption | exact (iv_rng _).2 | exact (iv_rng _).1 | decide) (by first | omega | assumption | exact (iv_rng _).2 | exact (iv_rng _).1 | decide) (by first | omega | assumption | exact (iv_rng _).2 | exact (iv_rng _).1 | decide) (fun _ => rfl) (fun q => absurd Int32.toInt_zero q) (fun q hq => by rw [Int32.toInt_zero] at hq; omega) I Kp (by omega)

set_option maxHeartbeats 2000000 in
set_option maxRecDepth 20000 in
theorem s_X12_nextShort (g : pv_G) {T : List mv_T} {m : Nat → Nat → Int32} {n : Nat → Nat → Int64} {r : Nat → Value} (hT : TX T) (I : IV BB m) (hp0 : ∀ q, q < 4 → (m 159 q).toInt ≤ 12) : PM g mX12_nextShort yX12_nextShort (sqP (mk T m n r) 0 28560 (fun v => v.toInt.toNat = sx (pn m))) 2 0 0 [.ref 123] (mk T m n r) := by
  have Kp : fr (wl []) m m := fr.rf
  refine PM.of 0 (lo := [.ref 123]) rfl (by decide) rfl rfl (Nat.le_of_ble_eq_true rfl) ?_
  have h0 := hp0 0 (by omega)
  have h1 := hp0 1 (by omega)
  have h2 := hp0 2 (by omega)
  have h3 := hp0 3 (by omega)
  refine pv_aload_n (M := mX12_nextShort) 0 dX12_nextShort_0 1 rfl rfl rfl ?_
  refine mv_get (M := mX12_nextShort) (v := .ref 159) dX12_nextShort_1 FX12 53 wd1226 (by decide) (tl123 hT) rfl rfl 4 rfl ?_
  refine pv_iconst (M := mX12_nextShort) (v := 0) dX12_nextShort_4 5 rfl (by decide) ?_
  refine iv_iald (M := mX12_nextShort) (X := 0) (l1 := 0) (l2 := 17) dX12_nextShort_5 (tl159 hT) (by decide) (by omega) (by omega) I (fun _ => rfl) 6 rfl (fun v5 ev5 pv5 qv5 => ?_)
  have k6 : v5.toInt = (m 159 0).toInt := congrArg Int32.toInt ev5
  refine pv_aload_n (M := mX12_nextShort) 0 dX12_nextShort_6 7 rfl rfl rfl ?_
  refine mv_get (M := mX12_nextShort) (v := .ref 159) dX12_nextShort_7 FX12 53 wd1226 (by decide) (tl123 hT) rfl rfl 10 rfl ?_
  refine pv_iconst (M := mX12_nextShort) (v := 1) dX12_nextShort_10 11 rfl (by decide) ?_
  refine iv_iald (M := mX12_nextShort) (X := 1) (l1 := 0) (l2 := 17) dX12_nextShort_11 (tl159 hT) (by decide) (by omega) (by omega) I (fun _ => rfl) 12 rfl (fun v7 ev7 pv7 qv7 => ?_)
  have k12 : v7.toInt = (m 159 1).toInt := congrArg Int32.toInt ev7
  refine pv_aload_n (M := mX12_nextShort) 0 dX12_nextShort_12 13 rfl rfl rfl ?_
  refine mv_get (M := mX12_nextShort) (v := .ref 159) dX12_nextShort_13 FX12 53 wd1226 (by decide) (tl123 hT) rfl rfl 16 rfl ?_
  refine pv_iconst (M := mX12_nextShort) (v := 2) dX12_nextShort_16 17 rfl (by decide) ?_
  refine iv_iald (M := mX12_nextShort) (X := 2) (l1 := 0) (l2 := 17) dX12_nextShort_17 (tl159 hT) (by decide) (by omega) (by omega) I (fun _ => rfl) 18 rfl (fun v9 ev9 pv9 qv9 => ?_)
  have k18 : v9.toInt = (m 159 2).toInt := congrArg Int32.toInt ev9
  refine pv_aload_n (M := mX12_nextShort) 0 dX12_nextShort_18 19 rfl rfl rfl ?_
  refine mv_get (M := mX12_nextShort) (v := .ref 159) dX12_nextShort_19 FX12 53 wd1226 (by decide) (tl123 hT) rfl rfl 22 rfl ?_
  refine pv_iconst (M := mX12_nextShort) (v := 3) dX12_nextShort_22 23 rfl (by decide) ?_
  refine iv_iald (M := mX12_nextShort) (X := 3) (l1 := 0) (l2 := 17) dX12_nextShort_23 (tl159 hT) (by decide) (by omega) (by omega) I (fun _ => rfl) 24 rfl (fun v11 ev11 pv11 qv11 => ?_)
  have k24 : v11.toInt = (m 159 3).toInt := congrArg Int32.toInt ev11
  refine pv_calls (M := mX12_nextShort) (as := [.int v5, .int v7, .int v9, .int v11]) (st := []) (kc2 := 0) (ks2 := 0) dX12_nextShort_24 wd1680 YX12_shortAt wd1681 (s_X12_shortAt g hT I v5 (by omega) (by omega) v7 (by omega) (by omega) v9 (by omega) (by omega) v11 (by omega) (by omega)) rfl rfl (Nat.le_of_ble_eq_true rfl) (by decide) rfl rfl 27 rfl (fun rv h1 q13 => ?_)
  obtain ⟨v14, rfl, rfl, pv14, qv14, rv14⟩ := q13
  replace rv14 : v14.toInt = ((13 * v5.toInt + v7.toInt) * 13 + v9.toInt) * 13 + v11.toInt := rv14
  show PV _ _ _ _ _ _ _ 27 [.ref 123] [.int v14] _
  have k27 := rv14
  exact pv_iret (M := mX12_nextShort) dX12_nextShort_27 rfl rfl ⟨_, rfl, rfl, by omega, by omega, (by unfold sx pn; omega)⟩

set_option maxHeartbeats 2000000 in
set_option maxRecDepth 20000 in
theorem s_X12_laysShortAt (g : pv_G) {T : List mv_T} {m : Nat → Nat → Int32} {n : Nat → Nat → Int64} {r : Nat → Value} (hT : TX T) (I : IV BB m) (hp0 : OKp m (pa m)) (hp1 : LO12 m) (hp2 : SHp m (pa m 0) (pa m 1) (pa m 2) (pa m 3)) : PM g mX12_laysShortAt yX12_laysShortAt (sqV T BB (wl [(159, 159, none), (163, 163, none)]) r m (fun m' => SHp m' (pa m 0) (pa m 1) (pa m 2) (pa m 3 - 1))) 3 0 0 [.ref 123] (mk T m n r) := by
  have Kp : fr (wl [(159, 159, none), (163, 163, none)]) m m := fr.rf
  have z157 : 0 ≤ (m 123 50).toInt ∧ (m 123 50).toInt ≤ 4 := I 123 50
  refine PM.of 6 (lo := [.ref 123, pv_U, pv_U, pv_U, pv_U, pv_U, pv_U]) rfl (by decide) rfl rfl (Nat.le_of_ble_eq_true rfl) ?_
  refine pv_ldcw (M := mX12_laysShortAt) (v := 1000000000) dX12_laysShortAt_0 3 rfl wd1583 ?_
  refine pv_istore_n (M := mX12_laysShortAt) 1 (lo2 := [.ref 123, .int 1000000000, pv_U, pv_U, pv_U, pv_U, pv_U]) dX12_laysShortAt_3 4 rfl rfl (by decide) rfl rfl ?_
  refine pv_lconst (M := mX12_laysShortAt) (v := 0) dX12_laysShortAt_4 5 rfl (by decide) ?_
  refine pv_lstore_n (M := mX12_laysShortAt) 2 (lo2 := [.ref 123, .int 1000000000, .long 0, pv_U, pv_U, pv_U, pv_U]) dX12_laysShortAt_5 6 rfl rfl (by decide) rfl rfl ?_
  refine pv_iconst (M := mX12_laysShortAt) (v := 1) dX12_laysShortAt_6 7 rfl (by decide) ?_
  refine pv_istore (M := mX12_laysShortAt) (lo2 := [.ref 123, .int 1000000000, .long 0, pv_U, .int 1, pv_U, pv_U]) dX12_laysShortAt_7 9 rfl (by decide) rfl rfl ?_
  refine pv_iconst (M := mX12_laysShortAt) (v := 0) dX12_laysShortAt_9 10 rfl (by decide) ?_
  refine pv_istore (M := mX12_laysShortAt) (lo2 := [.ref 123, .int 1000000000, .long 0, pv_U, .int 1, .int 0, pv_U]) dX12_laysShortAt_10 12 rfl (by decide) rfl rfl ?_
  have lp8 : ∀ (fuel7 : Nat) (y1 : Int32) (y2 : Int32), (0 ≤ y1.toInt) → (y1.toInt ≤ 1) → (0 ≤ y2.toInt) → (y2.toInt ≤ 4) → (y2.toInt ≤ (m 123 50).toInt) → (END m (pa m) y1.toInt y2.toInt) → ((4 - y2.toInt) : Int).toNat < fuel7 → PV none g mX12_laysShortAt (sqV T BB (wl [(159, 159, none), (163, 163, none)]) r m (fun m' => SHp m' (pa m 0) (pa m 1) (pa m 2) (pa m 3 - 1))) 3 0 0 12 [.ref 123, .int 1000000000, .long 0, pv_U, .int y1, .int y2, pv_U] [] (mk T m n r) := by
    intro fuel7
    induction fuel7 with
    | zero => intro y1 y2 b10 b11 b12 b13 b14 b15 z16; omega
    | succ fuel7 ih9 =>
      intro y1 y2 b10 b11 b12 b13 b14 b15 z16
      have kg12 := (show END m (pa m) y1.toInt y2.toInt by assumption)
      refine pv_iload (M := mX12_laysShortAt) dX12_laysShortAt_12 14 rfl rfl ?_
      refine pv_aload_n (M := mX12_laysShortAt) 0 dX12_laysShortAt_14 15 rfl rfl rfl ?_
      refine iv_get (M := mX12_laysShortAt) (l1 := 0) (l2 := 4) dX12_laysShortAt_15 FX12 50 wd1223 (by decide) (tl123 hT) rfl I rfl 18 rfl (fun v18 ev18 pv18 qv18 => ?_)
      have wv18 : v18.toInt = (m 123 50).toInt := congrArg Int32.toInt ev18
      refine pv_icmp_ge (M := mX12_laysShortAt) (tgt := 55) dX12_laysShortAt_18 21 rfl (by decide) (fun c19 => ?_) (fun c19 => ?_)
      · have c19 := iv_le (X := v18.toInt) (Y := y2.toInt) c19 rfl rfl
        refine pv_iconst (M := mX12_laysShortAt) (v := 0) dX12_laysShortAt_55 56 rfl (by decide) ?_
        refine pv_istore (M := mX12_laysShortAt) (lo2 := [.ref 123, .int 1000000000, .long 0, pv_U, .int y1, .int 0, pv_U]) dX12_laysShortAt_56 58 rfl (by decide) rfl rfl ?_
        have lp28 : ∀ (fuel27 : Nat) (y20 : Int32) (y21 : Int64) (y22 : Int32) (m23 : Nat → Nat → Int32) (n24 : Nat → Nat → Int64), (0 ≤ y20.toInt) → (y20.toInt ≤ 1000000000) → (0 ≤ y22.toInt) → (y22.toInt ≤ 26) → (SB m (pa m) y20.toInt y22.toInt) → (∀ j, m23 163 j = m 163 j) → IV BB m23 → fr (wl [(159, 159, none), (163, 163, none)]) m m23 → ((26 - y22.toInt) : Int).toNat < fuel27 → PV none g mX12_laysShortAt (sqV T BB (wl [(159, 159, none), (163, 163, none)]) r m (fun m' => SHp m' (pa m 0) (pa m 1) (pa m 2) (pa m 3 - 1))) 3 0 0 58 [.ref 123, .int y20, .long y21, pv_U, .int y1, .int y22, pv_U] [] (mk T m23 n24 r) := by
          intro fuel27
          induction fuel27 with
          | zero => intro y20 y21 y22 m23 n24 b30 b31 b32 b33 b34 b35 I25 K26 z36; omega
          | succ fuel27 ih29 =>
            intro y20 y21 y22 m23 n24 b30 b31 b32 b33 b34 b35 I25 K26 z36
            have z37 : 0 ≤ (m23 123 50).toInt ∧ (m23 123 50).toInt ≤ 4 := I25 123 50
            have kg58 := (show SB m (pa m) y20.toInt y22.toInt by assumption)
            have kq := (show ∀ j, m23 163 j = m 163 j by assumption)
            have kS : HSAME m m23 := ⟨K26 123 50 rfl, fun j => K26 157 j rfl, fun j => K26 126 j rfl, fun j => K26 127 j rfl⟩
            have kA : ∀ q, m23 158 q = m 158 q := fun q => K26 158 q rfl
            have kpa : pa m23 = pa m := funext fun q => congrArg Int32.toInt (kA q)
            refine pv_iload (M := mX12_laysShortAt) dX12_laysShortAt_58 60 rfl rfl ?_
            refine pv_bipush (M := mX12_laysShortAt) (v := 26) dX12_laysShortAt_60 62 rfl (by decide) ?_
            refine pv_icmp_ge (M := mX12_laysShortAt) (tgt := 143) dX12_laysShortAt_62 65 rfl (by decide) (fun c43 => ?_) (fun c43 => ?_)
            · have c43 := iv_le (X := 26) (Y := y22.toInt) c43 (by decide) rfl
              have kSB : SB m (pa m) y20.toInt 26 := by have q := kg58; rw [show y22.toInt = 26 by omega] at q; exact q
              have kO := OK12 hp0 hp1
              have o0 := kO 0 (by omega)
              have o1 := kO 1 (by omega)
              have o2 := kO 2 (by omega)
              have o3 := kO 3 (by omega)
              refine pv_aload_n (M := mX12_laysShortAt) 0 dX12_laysShortAt_143 144 rfl rfl rfl ?_
              refine mv_get (M := mX12_laysShortAt) (v := .ref 158) dX12_laysShortAt_144 FX12 52 wd1225 (by decide) (tl123 hT) rfl rfl 147 rfl ?_
              refine pv_iconst (M := mX12_laysShortAt) (v := 0) dX12_laysShortAt_147 148 rfl (by decide) ?_
              refine iv_iald (M := mX12_laysShortAt) (X := 0) (l1 := 0) (l2 := 16) dX12_laysShortAt_148 (tl158 hT) (by decide) (by omega) (by omega) I25 (fun _ => rfl) 149 rfl (fun v50 ev50 pv50 qv50 => ?_)
              have k149 : v50.toInt = pa m 0 := (congrArg Int32.toInt ev50).trans (congrArg Int32.toInt (kA 0))
              refine pv_aload_n (M := mX12_laysShortAt) 0 dX12_laysShortAt_149 150 rfl rfl rfl ?_
              refine mv_get (M := mX12_laysShortAt) (v := .ref 158) dX12_laysShortAt_150 FX12 52 wd1225 (by decide) (tl123 hT) rfl rfl 153 rfl ?_
              refine pv_iconst (M := mX12_laysShortAt) (v := 1) dX12_laysShortAt_153 154 rfl (by decide) ?_
              refine iv_iald (M := mX12_laysShortAt) (X := 1) (l1 := 0) (l2 := 16) dX12_laysShortAt_154 (tl158 hT) (by decide) (by omega) (by omega) I25 (fun _ => rfl) 155 rfl (fun v52 ev52 pv52 qv52 => ?_)
              have k155 : v52.toInt = pa m 1 := (congrArg Int32.toInt ev52).trans (congrArg Int32.toInt (kA 1))
              refine pv_aload_n (M := mX12_laysShortAt) 0 dX12_laysShortAt_155 156 rfl rfl rfl ?_
              refine mv_get (M := mX12_laysShortAt) (v := .ref 158) dX12_laysShortAt_156 FX12 52 wd1225 (by decide) (tl123 hT) rfl rfl 159 rfl ?_
              refine pv_iconst (M := mX12_laysShortAt) (v := 2) dX12_laysShortAt_159 160 rfl (by decide) ?_
              refine iv_iald (M := mX12_laysShortAt) (X := 2) (l1 := 0) (l2 := 16) dX12_laysShortAt_160 (tl158 hT) (by decide) (by omega) (by omega) I25 (fun _ => rfl) 161 rfl (fun v54 ev54 pv54 qv54 => ?_)
              have k161 : v54.toInt = pa m 2 := (congrArg Int32.toInt ev54).trans (congrArg Int32.toInt (kA 2))
              refine pv_aload_n (M := mX12_laysShortAt) 0 dX12_laysShortAt_161 162 rfl rfl rfl ?_
              refine mv_get (M := mX12_laysShortAt) (v := .ref 158) dX12_laysShortAt_162 FX12 52 wd1225 (by decide) (tl123 hT) rfl rfl 165 rfl ?_
              refine pv_iconst (M := mX12_laysShortAt) (v := 3) dX12_laysShortAt_165 166 rfl (by decide) ?_
              refine iv_iald (M := mX12_laysShortAt) (X := 3) (l1 := 0) (l2 := 16) dX12_laysShortAt_166 (tl158 hT) (by decide) (by omega) (by omega) I25 (fun _ => rfl) 167 rfl (fun v56 ev56 pv56 qv56 => ?_)
              have k167 : v56.toInt = pa m 3 := (congrArg Int32.toInt ev56).trans (congrArg Int32.toInt (kA 3))
              refine pv_calls (M := mX12_laysShortAt) (as := [.int v50, .int v52, .int v54, .int v56]) (st := []) (kc2 := 0) (ks2 := 0) dX12_laysShortAt_167 wd1680 YX12_shortAt wd1681 (s_X12_shortAt g hT I25 v50 (by omega) (by omega) v52 (by omega) (by omega) v54 (by omega) (by omega) v56 (by omega) (by omega)) rfl rfl (Nat.le_of_ble_eq_true rfl) (by decide) rfl rfl 170 rfl (fun rv h1 q58 => ?_)
              obtain ⟨v59, rfl, rfl, pv59, qv59, rv59⟩ := q58
              replace rv59 : v59.toInt = ((13 * v50.toInt + v52.toInt) * 13 + v54.toInt) * 13 + v56.toInt := rv59
              show PV _ _ _ _ _ _ _ 170 [.ref 123, .int y20, .long y21, pv_U, .int y1, .int y22, pv_U] [.int v59] _
              have k170a := rv59
              have k170 : v59.toInt.toNat = sx (pa m) := by unfold sx; omega
              refine pv_istore (M := mX12_laysShortAt) (lo2 := [.ref 123, .int y20, .long y21, pv_U, .int y1, .int v59, pv_U]) dX12_laysShortAt_170 172 rfl (by decide) rfl rfl ?_
              refine pv_aload_n (M := mX12_laysShortAt) 0 dX12_laysShortAt_172 173 rfl rfl rfl ?_
              refine mv_get (M := mX12_laysShortAt) (v := .ref 163) dX12_laysShortAt_173 FX12 57 wd1230 (by decide) (tl123 hT) rfl rfl 176 rfl ?_
              refine pv_iload (M := mX12_laysShortAt) dX12_laysShortAt_176 178 rfl rfl ?_
              refine pv_iload (M := mX12_laysShortAt) dX12_laysShortAt_178 180 rfl rfl ?_
              refine pv_if_eq (M := mX12_laysShortAt) (tgt := 187) dX12_laysShortAt_180 183 rfl (by decide) (fun c62 => ?_) (fun c62 => ?_)
              · have c62 := iv_eq (X := y1.toInt) (Y := 0) c62 rfl (by decide)
                refine pv_iload_n (M := mX12_laysShortAt) 1 dX12_laysShortAt_187 188 rfl rfl rfl ?_
                have kV : SR1 m23 (pa m) y20.toInt := by first | exact SR1_z (OKp_eq kS hp0) | exact SR1_eq kS kq (SB_end kSB (kg12.2 (by omega)) hp0 hp1 (fun j => I 127 j))
                refine iv_iast (M := mX12_laysShortAt) (X := v59.toInt) (l1 := 0) (l2 := 1000000000) dX12_laysShortAt_188 (tl163 hT) rfl (by omega) (by omega) I25 (fun _ => rfl) (by omega) (by omega) 189 rfl (fun m64 e67 I65 => ?_)
                have K66 := K26.set e67 rfl
                have w68 : (m64 123 50).toInt = (m23 123 50).toInt := by rw [e67, up2_ne (by omega)]
                have k189 := (e67).trans (up2_ix (j := sx (pa m)) (by omega))
                have kT := SHp_set (p' := pa m) (SHp_eq kS kq hp2) k189 (OKp_eq kS hp0) (LO12_eq kS hp1) (by first | exact kV | (rw [Int32.toInt_zero]; exact kV))
                refine pv_aload_n (M := mX12_laysShortAt) 0 dX12_laysShortAt_189 190 rfl rfl rfl ?_
                refine mv_get (M := mX12_laysShortAt) (v := .ref 164) dX12_laysShortAt_190 FX12 58 wd1231 (by decide) (tl123 hT) rfl rfl 193 rfl ?_
                refine pv_iload (M := mX12_laysShortAt) dX12_laysShortAt_193 195 rfl rfl ?_
                refine pv_iload (M := mX12_laysShortAt) dX12_laysShortAt_195 197 rfl rfl ?_
                refine pv_if_eq (M := mX12_laysShortAt) (tgt := 204) dX12_laysShortAt_197 200 rfl (by decide) (fun c71 => ?_) (fun c71 => ?_)
                · have c71 := iv_eq (X := y1.toInt) (Y := 0) c71 rfl (by decide)
                  refine pv_lload_n (M := mX12_laysShortAt) 2 dX12_laysShortAt_204 205 rfl rfl rfl ?_
                  refine iv_last (M := mX12_laysShortAt) (X := v59.toInt) dX12_laysShortAt_205 (tl164 hT) rfl (by omega) (by omega) 206 rfl (fun n72 en72 => ?_)
                  exact pv_vret (M := mX12_laysShortAt) dX12_laysShortAt_206 rfl ⟨_, _, rfl, rfl, I65, K66, kT⟩
                · have c71 := iv_ne (X := y1.toInt) (Y := 0) c71 rfl (by decide)
                  omega
              · have c62 := iv_ne (X := y1.toInt) (Y := 0) c62 rfl (by decide)
                refine pv_iconst (M := mX12_laysShortAt) (v := 0) dX12_laysShortAt_183 184 rfl (by decide) ?_
                refine pv_goto (M := mX12_laysShortAt) (tgt := 188) dX12_laysShortAt_184 (by decide) ?_
                have kV : SR1 m23 (pa m) 0 := by first | exact SR1_z (OKp_eq kS hp0) | exact SR1_eq kS kq (SB_end kSB (kg12.2 (by omega)) hp0 hp1 (fun j => I 127 j))
                refine iv_iast (M := mX12_laysShortAt) (X := v59.toInt) (l1 := 0) (l2 := 1000000000) dX12_laysShortAt_188 (tl163 hT) rfl (by omega) (by omega) I25 (fun _ => rfl) (by decide) (by decide) 189 rfl (fun m74 e77 I75 => ?_)
                have K76 := K26.set e77 rfl
                have w78 : (m74 123 50).toInt = (m23 123 50).toInt := by rw [e77, up2_ne (by omega)]
                have k189 := (e77).trans (up2_ix (j := sx (pa m)) (by omega))
                have kT := SHp_set (p' := pa m) (SHp_eq kS kq hp2) k189 (OKp_eq kS hp0) (LO12_eq kS hp1) (by first | exact kV | (rw [Int32.toInt_zero]; exact kV))
                refine pv_aload_n (M := mX12_laysShortAt) 0 dX12_laysShortAt_189 190 rfl rfl rfl ?_
                refine mv_get (M := mX12_laysShortAt) (v := .ref 164) dX12_laysShortAt_190 FX12 58 wd1231 (by decide) (tl123 hT) rfl rfl 193 rfl ?_
                refine pv_iload (M := mX12_laysShortAt) dX12_laysShortAt_193 195 rfl rfl ?_
                refine pv_iload (M := mX12_laysShortAt) dX12_laysShortAt_195 197 rfl rfl ?_
                refine pv_if_eq (M := mX12_laysShortAt) (tgt := 204) dX12_laysShortAt_197 200 rfl (by decide) (fun c81 => ?_) (fun c81 => ?_)
                · have c81 := iv_eq (X := y1.toInt) (Y := 0) c81 rfl (by decide)
                  omega
                · have c81 := iv_ne (X := y1.toInt) (Y := 0) c81 rfl (by decide)
                  refine pv_lconst (M := mX12_laysShortAt) (v := 1) dX12_laysShortAt_200 201 rfl (by decide) ?_
                  refine pv_goto (M := mX12_laysShortAt) (tgt := 205) dX12_laysShortAt_201 (by decide) ?_
                  refine iv_last (M := mX12_laysShortAt) (X := v59.toInt) dX12_laysShortAt_205 (tl164 hT) rfl (by omega) (by omega) 206 rfl (fun n82 en82 => ?_)
                  exact pv_vret (M := mX12_laysShortAt) dX12_laysShortAt_206 rfl ⟨_, _, rfl, rfl, I75, K76, kT⟩
            · have c43 := iv_nle (X := 26) (Y := y22.toInt) c43 (by decide) rfl
              refine pv_aload_n (M := mX12_laysShortAt) 0 dX12_laysShortAt_65 66 rfl rfl rfl ?_
              refine pv_iload (M := mX12_laysShortAt) dX12_laysShortAt_66 68 rfl rfl ?_
              refine pv_callv (M := mX12_laysShortAt) (as := [.int y22]) (st := []) (kc2 := 0) (ks2 := 0) dX12_laysShortAt_68 wd1672 YX12_takesLetter ⟨wd1674, wd106⟩ (mk_get (tl123 hT)) rfl rfl (s_X12_takesLetter g hT I25 y22 (by omega) (by omega)) rfl rfl (Nat.le_of_ble_eq_true rfl) (by decide) rfl rfl 71 rfl (fun rv h1 q83 => ?_)
              obtain ⟨m84, n85, v88, rfl, rfl, I86, K87, pv88, qv88, rv88⟩ := q83
              replace rv88 : NX m23 (pa m23) y22.toInt 4 m84 ∧ (v88.toInt = 0 → tkF m23 (pa m23) y22.toInt 4 = 0) ∧ (v88.toInt ≠ 0 → 0 < tkF m23 (pa m23) y22.toInt 4) := rv88
              have K87c := K87
              have w89 : (m84 123 50).toInt = (m23 123 50).toInt := congrArg Int32.toInt (K87 123 50 rfl)
              have K87 := K26.trans (K87.sub (wl_sub (by decide)))
              show PV _ _ _ _ _ _ _ 71 [.ref 123, .int y20, .long y21, pv_U, .int y1, .int y22, pv_U] [.int v88] _
              have k71 := rv88
              rw [kpa, tkF_eq kS] at k71
              have k71n : NX m (pa m) y22.toInt 4 m84 := fun q hq => by rw [← stp_eq kS]; exact k71.1 q hq
              have k71a := k71.2.1
              have k71b := k71.2.2
              have k71f : ∀ j, m84 163 j = m 163 j := fun j => (K87c 163 j rfl).trans (kq j)
              refine pv_if_ne (M := mX12_laysShortAt) (tgt := 77) dX12_laysShortAt_71 74 rfl (by decide) (fun c96 => ?_) (fun c96 => ?_)
              · have c96 := iv_ne (X := v88.toInt) (Y := 0) c96 rfl (by decide)
                have k12n := NX_12 k71n hp0 hp1 (by omega)
                refine pv_iconst (M := mX12_laysShortAt) (v := 1) dX12_laysShortAt_77 78 rfl (by decide) ?_
                refine pv_aload_n (M := mX12_laysShortAt) 0 dX12_laysShortAt_78 79 rfl rfl rfl ?_
                refine mv_get (M := mX12_laysShortAt) (v := .ref 163) dX12_laysShortAt_79 FX12 57 wd1230 (by decide) (tl123 hT) rfl rfl 82 rfl ?_
                refine pv_aload_n (M := mX12_laysShortAt) 0 dX12_laysShortAt_82 83 rfl rfl rfl ?_
                refine pv_callv (M := mX12_laysShortAt) (as := []) (st := [.ref 163, .int 1]) (kc2 := 0) (ks2 := 0) dX12_laysShortAt_83 wd1676 YX12_nextShort ⟨wd1678, wd107⟩ (mk_get (tl123 hT)) rfl rfl (s_X12_nextShort g hT I86 k12n) rfl rfl (Nat.le_of_ble_eq_true rfl) (by decide) rfl rfl 86 rfl (fun rv h1 q98 => ?_)
                obtain ⟨v99, rfl, rfl, pv99, qv99, rv99⟩ := q98
                replace rv99 : v99.toInt.toNat = sx (pn m84) := rv99
                show PV _ _ _ _ _ _ _ 86 [.ref 123, .int y20, .long y21, pv_U, .int y1, .int y22, pv_U] [.int v99, .ref 163, .int 1] _
                have k86 : v99.toInt.toNat = sx (stp m (pa m) y22.toInt) := (rv99).trans (NX_sx k71n)
                refine iv_iald (M := mX12_laysShortAt) (X := v99.toInt) (l1 := 0) (l2 := 1000000000) dX12_laysShortAt_86 (tl163 hT) rfl (by omega) (by omega) I86 (fun _ => rfl) 87 rfl (fun v101 ev101 pv101 qv101 => ?_)
                have k87 : v101.toInt = SE m (stp m (pa m) y22.toInt) := congrArg Int32.toInt (ev101.trans ((congrArg (m84 163) k86).trans (k71f _)))
                refine iv_iadd (M := mX12_laysShortAt) (X := 1) (Y := v101.toInt) dX12_laysShortAt_87 88 rfl (by decide) rfl (by omega) (by omega) (fun v103 ev103 => ?_)
                refine pv_istore (M := mX12_laysShortAt) (lo2 := [.ref 123, .int y20, .long y21, pv_U, .int y1, .int y22, .int v103]) dX12_laysShortAt_88 90 rfl (by decide) rfl rfl ?_
                refine pv_iload (M := mX12_laysShortAt) dX12_laysShortAt_90 92 rfl rfl ?_
                refine pv_iload_n (M := mX12_laysShortAt) 1 dX12_laysShortAt_92 93 rfl rfl rfl ?_
                refine pv_icmp_ge (M := mX12_laysShortAt) (tgt := 108) dX12_laysShortAt_93 96 rfl (by decide) (fun c104 => ?_) (fun c104 => ?_)
                · have c104 := iv_le (X := y20.toInt) (Y := v103.toInt) c104 rfl rfl
                  refine pv_iload (M := mX12_laysShortAt) dX12_laysShortAt_108 110 rfl rfl ?_
                  refine pv_iload_n (M := mX12_laysShortAt) 1 dX12_laysShortAt_110 111 rfl rfl rfl ?_
                  refine pv_icmp_ne (M := mX12_laysShortAt) (tgt := 128) dX12_laysShortAt_111 114 rfl (by decide) (fun c105 => ?_) (fun c105 => ?_)
                  · have c105 := iv_ne (X := v103.toInt) (Y := y20.toInt) c105 rfl rfl
                    refine pv_lload_n (M := mX12_laysShortAt) 2 dX12_laysShortAt_128 129 rfl rfl rfl ?_
                    refine pv_lstore_n (M := mX12_laysShortAt) 2 (lo2 := [.ref 123, .int y20, .long y21, pv_U, .int y1, .int y22, .int v103]) dX12_laysShortAt_129 130 rfl rfl (by decide) rfl rfl ?_
                    refine pv_iload_n (M := mX12_laysShortAt) 1 dX12_laysShortAt_130 131 rfl rfl rfl ?_
                    refine pv_iload (M := mX12_laysShortAt) dX12_laysShortAt_131 133 rfl rfl ?_
                    refine pv_calls (M := mX12_laysShortAt) (as := [.int y20, .int v103]) (st := []) (kc2 := 0) (ks2 := 0) dX12_laysShortAt_133 wd1611 YX12_least wd1612 (s_X12_least g hT I86 y20 (by omega) (by omega) v103 (by omega) (by omega)) rfl rfl (Nat.le_of_ble_eq_true rfl) (by decide) rfl rfl 136 rfl (fun rv h1 q106 => ?_)
                    obtain ⟨v107, rfl, rfl, pv107, qv107, rv107⟩ := q106
                    replace rv107 : v107.toInt ≤ y20.toInt ∧ v107.toInt ≤ v103.toInt ∧ (v107.toInt = y20.toInt ∨ v107.toInt = v103.toInt) := rv107
                    show PV _ _ _ _ _ _ _ 136 [.ref 123, .int y20, .long y21, pv_U, .int y1, .int y22, .int v103] [.int v107] _
                    have k136 := rv107
                    refine pv_istore_n (M := mX12_laysShortAt) 1 (lo2 := [.ref 123, .int v107, .long y21, pv_U, .int y1, .int y22, .int v103]) dX12_laysShortAt_136 137 rfl rfl (by decide) rfl rfl ?_
                    refine iv_inc (M := mX12_laysShortAt) (C := 1) dX12_laysShortAt_137 140 rfl rfl (by decide) rfl rfl (by decide) (by omega) (by omega) (fun v109 ev109 => ?_)
                    show PV _ _ _ _ _ _ _ 140 [.ref 123, .int v107, .long y21, pv_U, .int y1, .int v109, .int v103] [] _
                    refine pv_goto (M := mX12_laysShortAt) (tgt := 58) dX12_laysShortAt_140 (by decide) ?_
                    refine pv_fg (lo2 := [.ref 123, .int v107, .long y21, pv_U, .int y1, .int v109, pv_U]) ⟨Or.inr rfl, ⟨Or.inr rfl, ⟨Or.inr rfl, ⟨Or.inl rfl, ⟨Or.inr rfl, ⟨Or.inr rfl, ⟨Or.inl rfl, trivial⟩⟩⟩⟩⟩⟩⟩ ?_
                    have ku : v109.toInt = y22.toInt + 1 := by omega
                    have kb58 : SB m (pa m) v107.toInt v109.toInt := by rw [ku]; first | exact SB_skip kg58 (by omega) | exact SB_take (hw := k136) kg58 (by omega) (by omega) (by omega) hp0 hp2 (by omega)
                    exact ih29 v107 y21 v109 m84 n85 (by first | omega | assumption | exact (iv_rng _).2 | exact (iv_rng _).1 | decide) (by first | omega | assumption | exact (iv_rng _).2 | exact (iv_rng _).1 | decide) (by first | omega | assumption | exact (iv_rng _).2 | exact (iv_rng _).1 | decide) (by first | omega | assumption | exact (iv_rng _).2 | exact (iv_rng _).1 | decide) kb58 k71f I86 K87 (by omega)
                  · have c105 := iv_eq (X := v103.toInt) (Y := y20.toInt) c105 rfl rfl
                    refine pv_lload_n (M := mX12_laysShortAt) 2 dX12_laysShortAt_114 115 rfl rfl rfl ?_
                    refine pv_aload_n (M := mX12_laysShortAt) 0 dX12_laysShortAt_115 116 rfl rfl rfl ?_
                    refine mv_get (M := mX12_laysShortAt) (v := .ref 164) dX12_laysShortAt_116 FX12 58 wd1231 (by decide) (tl123 hT) rfl rfl 119 rfl ?_
                    refine pv_aload_n (M := mX12_laysShortAt) 0 dX12_laysShortAt_119 120 rfl rfl rfl ?_
                    refine pv_callv (M := mX12_laysShortAt) (as := []) (st := [.ref 164, .long y21]) (kc2 := 0) (ks2 := 0) dX12_laysShortAt_120 wd1676 YX12_nextShort ⟨wd1678, wd107⟩ (mk_get (tl123 hT)) rfl rfl (s_X12_nextShort g hT I86 k12n) rfl rfl (Nat.le_of_ble_eq_true rfl) (by decide) rfl rfl 123 rfl (fun rv h1 q112 => ?_)
                    obtain ⟨v113, rfl, rfl, pv113, qv113, rv113⟩ := q112
                    replace rv113 : v113.toInt.toNat = sx (pn m84) := rv113
                    show PV _ _ _ _ _ _ _ 123 [.ref 123, .int y20, .long y21, pv_U, .int y1, .int y22, .int v103] [.int v113, .ref 164, .long y21] _
                    refine iv_lald (M := mX12_laysShortAt) (X := v113.toInt) dX12_laysShortAt_123 (tl164 hT) rfl (by omega) (by omega) 124 rfl (fun v114 ev114 => ?_)
                    refine iv_addJ (M := mX12_laysShortAt) dX12_laysShortAt_124 125 rfl (fun v115 ev115 => ?_)
                    refine pv_goto (M := mX12_laysShortAt) (tgt := 129) dX12_laysShortAt_125 (by decide) ?_
                    refine pv_lstore_n (M := mX12_laysShortAt) 2 (lo2 := [.ref 123, .int y20, .long v115, pv_U, .int y1, .int y22, .int v103]) dX12_laysShortAt_129 130 rfl rfl (by decide) rfl rfl ?_
                    refine pv_iload_n (M := mX12_laysShortAt) 1 dX12_laysShortAt_130 131 rfl rfl rfl ?_
                    refine pv_iload (M := mX12_laysShortAt) dX12_laysShortAt_131 133 rfl rfl ?_
                    refine pv_calls (M := mX12_laysShortAt) (as := [.int y20, .int v103]) (st := []) (kc2 := 0) (ks2 := 0) dX12_laysShortAt_133 wd1611 YX12_least wd1612 (s_X12_least g hT I86 y20 (by omega) (by omega) v103 (by omega) (by omega)) rfl rfl (Nat.le_of_ble_eq_true rfl) (by decide) rfl rfl 136 rfl (fun rv h1 q116 => ?_)
                    obtain ⟨v117, rfl, rfl, pv117, qv117, rv117⟩ := q116
                    replace rv117 : v117.toInt ≤ y20.toInt ∧ v117.toInt ≤ v103.toInt ∧ (v117.toInt = y20.toInt ∨ v117.toInt = v103.toInt) := rv117
                    show PV _ _ _ _ _ _ _ 136 [.ref 123, .int y20, .long v115, pv_U, .int y1, .int y22, .int v103] [.int v117] _
                    have k136 := rv117
                    refine pv_istore_n (M := mX12_laysShortAt) 1 (lo2 := [.ref 123, .int v117, .long v115, pv_U, .int y1, .int y22, .int v103]) dX12_laysShortAt_136 137 rfl rfl (by decide) rfl rfl ?_
                    refine iv_inc (M := mX12_laysShortAt) (C := 1) dX12_laysShortAt_137 140 rfl rfl (by decide) rfl rfl (by decide) (by omega) (by omega) (fun v119 ev119 => ?_)
                    show PV _ _ _ _ _ _ _ 140 [.ref 123, .int v117, .long v115, pv_U, .int y1, .int v119, .int v103] [] _
                    refine pv_goto (M := mX12_laysShortAt) (tgt := 58) dX12_laysShortAt_140 (by decide) ?_
                    refine pv_fg (lo2 := [.ref 123, .int v117, .long v115, pv_U, .int y1, .int v119, pv_U]) ⟨Or.inr rfl, ⟨Or.inr rfl, ⟨Or.inr rfl, ⟨Or.inl rfl, ⟨Or.inr rfl, ⟨Or.inr rfl, ⟨Or.inl rfl, trivial⟩⟩⟩⟩⟩⟩⟩ ?_
                    have ku : v119.toInt = y22.toInt + 1 := by omega
                    have kb58 : SB m (pa m) v117.toInt v119.toInt := by rw [ku]; first | exact SB_skip kg58 (by omega) | exact SB_take (hw := k136) kg58 (by omega) (by omega) (by omega) hp0 hp2 (by omega)
                    exact ih29 v117 v115 v119 m84 n85 (by first | omega | assumption | exact (iv_rng _).2 | exact (iv_rng _).1 | decide) (by first | omega | assumption | exact (iv_rng _).2 | exact (iv_rng _).1 | decide) (by first | omega | assumption | exact (iv_rng _).2 | exact (iv_rng _).1 | decide) (by first | omega | assumption | exact (iv_rng _).2 | exact (iv_rng _).1 | decide) kb58 k71f I86 K87 (by omega)
                · have c104 := iv_nle (X := y20.toInt) (Y := v103.toInt) c104 rfl rfl
                  refine pv_aload_n (M := mX12_laysShortAt) 0 dX12_laysShortAt_96 97 rfl rfl rfl ?_
                  refine mv_get (M := mX12_laysShortAt) (v := .ref 164) dX12_laysShortAt_97 FX12 58 wd1231 (by decide) (tl123 hT) rfl rfl 100 rfl ?_
                  refine pv_aload_n (M := mX12_laysShortAt) 0 dX12_laysShortAt_100 101 rfl rfl rfl ?_
                  refine pv_callv (M := mX12_laysShortAt) (as := []) (st := [.ref 164]) (kc2 := 0) (ks2 := 0) dX12_laysShortAt_101 wd1676 YX12_nextShort ⟨wd1678, wd107⟩ (mk_get (tl123 hT)) rfl rfl (s_X12_nextShort g hT I86 k12n) rfl rfl (Nat.le_of_ble_eq_true rfl) (by decide) rfl rfl 104 rfl (fun rv h1 q122 => ?_)
                  obtain ⟨v123, rfl, rfl, pv123, qv123, rv123⟩ := q122
                  replace rv123 : v123.toInt.toNat = sx (pn m84) := rv123
                  show PV _ _ _ _ _ _ _ 104 [.ref 123, .int y20, .long y21, pv_U, .int y1, .int y22, .int v103] [.int v123, .ref 164] _
                  refine iv_lald (M := mX12_laysShortAt) (X := v123.toInt) dX12_laysShortAt_104 (tl164 hT) rfl (by omega) (by omega) 105 rfl (fun v124 ev124 => ?_)
                  refine pv_goto (M := mX12_laysShortAt) (tgt := 129) dX12_laysShortAt_105 (by decide) ?_
                  refine pv_lstore_n (M := mX12_laysShortAt) 2 (lo2 := [.ref 123, .int y20, .long v124, pv_U, .int y1, .int y22, .int v103]) dX12_laysShortAt_129 130 rfl rfl (by decide) rfl rfl ?_
                  refine pv_iload_n (M := mX12_laysShortAt) 1 dX12_laysShortAt_130 131 rfl rfl rfl ?_
                  refine pv_iload (M := mX12_laysShortAt) dX12_laysShortAt_131 133 rfl rfl ?_
                  refine pv_calls (M := mX12_laysShortAt) (as := [.int y20, .int v103]) (st := []) (kc2 := 0) (ks2 := 0) dX12_laysShortAt_133 wd1611 YX12_least wd1612 (s_X12_least g hT I86 y20 (by omega) (by omega) v103 (by omega) (by omega)) rfl rfl (Nat.le_of_ble_eq_true rfl) (by decide) rfl rfl 136 rfl (fun rv h1 q125 => ?_)
                  obtain ⟨v126, rfl, rfl, pv126, qv126, rv126⟩ := q125
                  replace rv126 : v126.toInt ≤ y20.toInt ∧ v126.toInt ≤ v103.toInt ∧ (v126.toInt = y20.toInt ∨ v126.toInt = v103.toInt) := rv126
                  show PV _ _ _ _ _ _ _ 136 [.ref 123, .int y20, .long v124, pv_U, .int y1, .int y22, .int v103] [.int v126] _
                  have k136 := rv126
                  refine pv_istore_n (M := mX12_laysShortAt) 1 (lo2 := [.ref 123, .int v126, .long v124, pv_U, .int y1, .int y22, .int v103]) dX12_laysShortAt_136 137 rfl rfl (by decide) rfl rfl ?_
                  refine iv_inc (M := mX12_laysShortAt) (C := 1) dX12_laysShortAt_137 140 rfl rfl (by decide) rfl rfl (by decide) (by omega) (by omega) (fun v128 ev128 => ?_)
                  show PV _ _ _ _ _ _ _ 140 [.ref 123, .int v126, .long v124, pv_U, .int y1, .int v128, .int v103] [] _
                  refine pv_goto (M := mX12_laysShortAt) (tgt := 58) dX12_laysShortAt_140 (by decide) ?_
                  refine pv_fg (lo2 := [.ref 123, .int v126, .long v124, pv_U, .int y1, .int v128, pv_U]) ⟨Or.inr rfl, ⟨Or.inr rfl, ⟨Or.inr rfl, ⟨Or.inl rfl, ⟨Or.inr rfl, ⟨Or.inr rfl, ⟨Or.inl rfl, trivial⟩⟩⟩⟩⟩⟩⟩ ?_
                  have ku : v128.toInt = y22.toInt + 1 := by omega
                  have kb58 : SB m (pa m) v126.toInt v128.toInt := by rw [ku]; first | exact SB_skip kg58 (by omega) | exact SB_take (hw := k136) kg58 (by omega) (by omega) (by omega) hp0 hp2 (by omega)
                  exact ih29 v126 v124 v128 m84 n85 (by first | omega | assumption | exact (iv_rng _).2 | exact (iv_rng _).1 | decide) (by first | omega | assumption | exact (iv_rng _).2 | exact (iv_rng _).1 | decide) (by first | omega | assumption | exact (iv_rng _).2 | exact (iv_rng _).1 | decide) (by first | omega | assumption | exact (iv_rng _).2 | exact (iv_rng _).1 | decide) kb58 k71f I86 K87 (by omega)
              · have c96 := iv_eq (X := v88.toInt) (Y := 0) c96 rfl (by decide)
                refine pv_goto (M := mX12_laysShortAt) (tgt := 137) dX12_laysShortAt_74 (by decide) ?_
                refine iv_inc (M := mX12_laysShortAt) (C := 1) dX12_laysShortAt_137 140 rfl rfl (by decide) rfl rfl (by decide) (by omega) (by omega) (fun v131 ev131 => ?_)
                show PV _ _ _ _ _ _ _ 140 [.ref 123, .int y20, .long y21, pv_U, .int y1, .int v131, pv_U] [] _
                refine pv_goto (M := mX12_laysShortAt) (tgt := 58) dX12_laysShortAt_140 (by decide) ?_
                have ku : v131.toInt = y22.toInt + 1 := by omega
                have kb58 : SB m (pa m) y20.toInt v131.toInt := by rw [ku]; first | exact SB_skip kg58 (by omega) | exact SB_take (hw := k136) kg58 (by omega) (by omega) (by omega) hp0 hp2 (by omega)
                exact ih29 y20 y21 v131 m84 n85 (by first | omega | assumption | exact (iv_rng _).2 | exact (iv_rng _).1 | decide) (by first | omega | assumption | exact (iv_rng _).2 | exact (iv_rng _).1 | decide) (by first | omega | assumption | exact (iv_rng _).2 | exact (iv_rng _).1 | decide) (by first | omega | assumption | exact (iv_rng _).2 | exact (iv_rng _).1 | decide) kb58 k71f I86 K87 (by omega)
        have z134 : (1000000000 : Int32).toInt = 1000000000 := by decide
        have z135 : (0 : Int32).toInt = 0 := by decide
        exact lp28 (((26 - 0) : Int).toNat + 1) 1000000000 0 0 m n (by first | omega | assumption | exact (iv_rng _).2 | exact (iv_rng _).1 | decide) (by first | omega | assumption | exact (iv_rng _).2 | exact (iv_rng _).1 | decide) (by first | omega | assumption | exact (iv_rng _).2 | exact (iv_rng _).1 | decide) (by first | omega | assumption | exact (iv_rng _).2 | exact (iv_rng _).1 | decide) (by rw [show (1000000000 : Int32).toInt = 1000000000 by decide, Int32.toInt_zero]; exact SB_z) (fun _ => rfl) I Kp (by omega)
      · have c19 := iv_nle (X := v18.toInt) (Y := y2.toInt) c19 rfl rfl
        refine pv_iload (M := mX12_laysShortAt) dX12_laysShortAt_21 23 rfl rfl ?_
        refine pv_if_eq (M := mX12_laysShortAt) (tgt := 46) dX12_laysShortAt_23 26 rfl (by decide) (fun c136 => ?_) (fun c136 => ?_)
        · have c136 := iv_eq (X := y1.toInt) (Y := 0) c136 rfl (by decide)
          refine pv_iconst (M := mX12_laysShortAt) (v := 0) dX12_laysShortAt_46 47 rfl (by decide) ?_
          refine pv_istore (M := mX12_laysShortAt) (lo2 := [.ref 123, .int 1000000000, .long 0, pv_U, .int 0, .int y2, pv_U]) dX12_laysShortAt_47 49 rfl (by decide) rfl rfl ?_
          refine iv_inc (M := mX12_laysShortAt) (C := 1) dX12_laysShortAt_49 52 rfl rfl (by decide) rfl rfl (by decide) (by omega) (by omega) (fun v137 ev137 => ?_)
          show PV _ _ _ _ _ _ _ 52 [.ref 123, .int 1000000000, .long 0, pv_U, .int 0, .int v137, pv_U] [] _
          refine pv_goto (M := mX12_laysShortAt) (tgt := 12) dX12_laysShortAt_52 (by decide) ?_
          have z138 : (0 : Int32).toInt = 0 := by decide
          have ku : v137.toInt = y2.toInt + 1 := by omega
          have kb12 : END m (pa m) 0 v137.toInt := by rw [ku]; first | exact END_keep kg12 (by omega) (by omega) (by omega) | exact END_no (k := y2.toInt) (by omega) (by omega) (by omega) (by omega) | exact END_on (by have q := kg12; rw [show y1.toInt = 0 by omega] at q; exact q)
          exact ih9 0 v137 (by first | omega | assumption | exact (iv_rng _).2 | exact (iv_rng _).1 | decide) (by first | omega | assumption | exact (iv_rng _).2 | exact (iv_rng _).1 | decide) (by first | omega | assumption | exact (iv_rng _).2 | exact (iv_rng _).1 | decide) (by first | omega | assumption | exact (iv_rng _).2 | exact (iv_rng _).1 | decide) (by first | omega | assumption | (show v137.toInt ≤ (m 123 50).toInt; omega) | decide) kb12 (by omega)
        · have c136 := iv_ne (X := y1.toInt) (Y := 0) c136 rfl (by decide)
          refine pv_aload_n (M := mX12_laysShortAt) 0 dX12_laysShortAt_26 27 rfl rfl rfl ?_
          refine mv_get (M := mX12_laysShortAt) (v := .ref 158) dX12_laysShortAt_27 FX12 52 wd1225 (by decide) (tl123 hT) rfl rfl 30 rfl ?_
          refine pv_iload (M := mX12_laysShortAt) dX12_laysShortAt_30 32 rfl rfl ?_
          refine iv_iald (M := mX12_laysShortAt) (X := y2.toInt) (l1 := 0) (l2 := 16) dX12_laysShortAt_32 (tl158 hT) rfl (by omega) (by omega) I (fun _ => rfl) 33 rfl (fun v141 ev141 pv141 qv141 => ?_)
          have k33 : v141.toInt = pa m y2.toInt.toNat := congrArg Int32.toInt ev141
          refine pv_aload_n (M := mX12_laysShortAt) 0 dX12_laysShortAt_33 34 rfl rfl rfl ?_
          refine pv_iload (M := mX12_laysShortAt) dX12_laysShortAt_34 36 rfl rfl ?_
          refine pv_callv (M := mX12_laysShortAt) (as := [.int y2]) (st := [.int v141]) (kc2 := 0) (ks2 := 0) dX12_laysShortAt_36 wd1633 YX12_longOf ⟨wd1635, wd98⟩ (mk_get (tl123 hT)) rfl rfl (s_X12_longOf g hT I y2 (by omega) (by omega)) rfl rfl (Nat.le_of_ble_eq_true rfl) (by decide) rfl rfl 39 rfl (fun rv h1 q143 => ?_)
          obtain ⟨v144, rfl, rfl, pv144, qv144, rv144⟩ := q143
          replace rv144 : v144.toInt = LOq m y2.toInt := rv144
          show PV _ _ _ _ _ _ _ 39 [.ref 123, .int 1000000000, .long 0, pv_U, .int y1, .int y2, pv_U] [.int v144, .int v141] _
          have k39 : v144.toInt = LOq m y2.toInt := rv144
          refine pv_icmp_ne (M := mX12_laysShortAt) (tgt := 46) dX12_laysShortAt_39 42 rfl (by decide) (fun c146 => ?_) (fun c146 => ?_)
          · have c146 := iv_ne (X := v141.toInt) (Y := v144.toInt) c146 rfl rfl
            refine pv_iconst (M := mX12_laysShortAt) (v := 0) dX12_laysShortAt_46 47 rfl (by decide) ?_
            refine pv_istore (M := mX12_laysShortAt) (lo2 := [.ref 123, .int 1000000000, .long 0, pv_U, .int 0, .int y2, pv_U]) dX12_laysShortAt_47 49 rfl (by decide) rfl rfl ?_
            refine iv_inc (M := mX12_laysShortAt) (C := 1) dX12_laysShortAt_49 52 rfl rfl (by decide) rfl rfl (by decide) (by omega) (by omega) (fun v147 ev147 => ?_)
            show PV _ _ _ _ _ _ _ 52 [.ref 123, .int 1000000000, .long 0, pv_U, .int 0, .int v147, pv_U] [] _
            refine pv_goto (M := mX12_laysShortAt) (tgt := 12) dX12_laysShortAt_52 (by decide) ?_
            have z148 : (0 : Int32).toInt = 0 := by decide
            have ku : v147.toInt = y2.toInt + 1 := by omega
            have kb12 : END m (pa m) 0 v147.toInt := by rw [ku]; first | exact END_keep kg12 (by omega) (by omega) (by omega) | exact END_no (k := y2.toInt) (by omega) (by omega) (by omega) (by omega) | exact END_on (by have q := kg12; rw [show y1.toInt = 0 by omega] at q; exact q)
            exact ih9 0 v147 (by first | omega | assumption | exact (iv_rng _).2 | exact (iv_rng _).1 | decide) (by first | omega | assumption | exact (iv_rng _).2 | exact (iv_rng _).1 | decide) (by first | omega | assumption | exact (iv_rng _).2 | exact (iv_rng _).1 | decide) (by first | omega | assumption | exact (iv_rng _).2 | exact (iv_rng _).1 | decide) (by first | omega | assumption | (show v147.toInt ≤ (m 123 50).toInt; omega) | decide) kb12 (by omega)
          · have c146 := iv_eq (X := v141.toInt) (Y := v144.toInt) c146 rfl rfl
            refine pv_iconst (M := mX12_laysShortAt) (v := 1) dX12_laysShortAt_42 43 rfl (by decide) ?_
            refine pv_goto (M := mX12_laysShortAt) (tgt := 47) dX12_laysShortAt_43 (by decide) ?_
            refine pv_istore (M := mX12_laysShortAt) (lo2 := [.ref 123, .int 1000000000, .long 0, pv_U, .int 1, .int y2, pv_U]) dX12_laysShortAt_47 49 rfl (by decide) rfl rfl ?_
            refine iv_inc (M := mX12_laysShortAt) (C := 1) dX12_laysShortAt_49 52 rfl rfl (by decide) rfl rfl (by decide) (by omega) (by omega) (fun v151 ev151 => ?_)
            show PV _ _ _ _ _ _ _ 52 [.ref 123, .int 1000000000, .long 0, pv_U, .int 1, .int v151, pv_U] [] _
            refine pv_goto (M := mX12_laysShortAt) (tgt := 12) dX12_laysShortAt_52 (by decide) ?_
            have z152 : (1 : Int32).toInt = 1 := by decide
            have ku : v151.toInt = y2.toInt + 1 := by omega
            have kb12 : END m (pa m) 1 v151.toInt := by rw [ku]; first | exact END_keep kg12 (by omega) (by omega) (by omega) | exact END_no (k := y2.toInt) (by omega) (by omega) (by omega) (by omega) | exact END_on (by have q := kg12; rw [show y1.toInt = 0 by omega] at q; exact q)
            exact ih9 1 v151 (by first | omega | assumption | exact (iv_rng _).2 | exact (iv_rng _).1 | decide) (by first | omega | assumption | exact (iv_rng _).2 | exact (iv_rng _).1 | decide) (by first | omega | assumption | exact (iv_rng _).2 | exact (iv_rng _).1 | decide) (by first | omega | assumption | exact (iv_rng _).2 | exact (iv_rng _).1 | decide) (by first | omega | assumption | (show v151.toInt ≤ (m 123 50).toInt; omega) | decide) kb12 (by omega)
  have z155 : (1 : Int32).toInt = 1 := by decide
  have z156 : (0 : Int32).toInt = 0 := by decide
  exact lp8 (((4 - 0) : Int).toNat + 1) 1 0 (by first | omega | assumption | exact (iv_rng _).2 | exact (iv_rng _).1 | decide) (by first | omega | assumption | exact (iv_rng _).2 | exact (iv_rng _).1 | decide) (by first | omega | assumption | exact (iv_rng _).2 | exact (iv_rng _).1 | decide) (by first | omega | assumption | exact (iv_rng _).2 | exact (iv_rng _).1 | decide) (by first | omega | assumption | (show 0 ≤ (m 123 50).toInt; omega) | decide) (by rw [show (1 : Int32).toInt = 1 by decide, Int32.toInt_zero]; exact END_z) (by omega)

set_option maxHeartbeats 2000000 in
set_option maxRecDepth 20000 in
theorem s_X12_laysShort (g : pv_G) {T : List mv_T} {m : Nat → Nat → Int32} {n : Nat → Nat → Int64} {r : Nat → Value} (hT : TX T) (I : IV BB m) (hp0 : LO12 m) : PM g mX12_laysShort yX12_laysShort (sqV T BB (wl [(158, 158, none), (159, 159, none), (163, 163, none)]) r m (fun m' => SHp m' (-1) 16 16 16)) 4 0 0 [.ref 123] (mk T m n r) := by
  have Kp : fr (wl [(158, 158, none), (159, 159, none), (163, 163, none)]) m m := fr.rf
  have z162 : 0 ≤ (m 123 50).toInt ∧ (m 123 50).toInt ≤ 4 := I 123 50
  refine PM.of 4 (lo := [.ref 123, pv_U, pv_U, pv_U, pv_U]) rfl (by decide) rfl rfl (Nat.le_of_ble_eq_true rfl) ?_
  have kl0 := LO4 hp0
  refine pv_aload_n (M := mX12_laysShort) 0 dX12_laysShort_0 1 rfl rfl rfl ?_
  refine pv_iconst (M := mX12_laysShort) (v := 0) dX12_laysShort_1 2 rfl (by decide) ?_
  have z2 : (0 : Int32).toInt = 0 := by decide
  refine pv_callv (M := mX12_laysShort) (as := [.int 0]) (st := []) (kc2 := 0) (ks2 := 0) dX12_laysShort_2 wd1633 YX12_longOf ⟨wd1635, wd98⟩ (mk_get (tl123 hT)) rfl rfl (s_X12_longOf g hT I 0 (by decide) (by decide)) rfl rfl (Nat.le_of_ble_eq_true rfl) (by decide) rfl rfl 5 rfl (fun rv h1 q3 => ?_)
  obtain ⟨v4, rfl, rfl, pv4, qv4, rv4⟩ := q3
  replace rv4 : v4.toInt = LOq m (0 : Int) := by have q_ := rv4; (try rw [z2] at q_); exact q_
  show PV _ _ _ _ _ _ _ 5 [.ref 123, pv_U, pv_U, pv_U, pv_U] [.int v4] _
  have k5 : v4.toInt = LOq m 0 := rv4
  refine pv_istore_n (M := mX12_laysShort) 1 (lo2 := [.ref 123, .int v4, pv_U, pv_U, pv_U]) dX12_laysShort_5 6 rfl rfl (by decide) rfl rfl ?_
  have lp12 : ∀ (fuel11 : Nat) (y6 : Int32) (m7 : Nat → Nat → Int32) (n8 : Nat → Nat → Int64), (-1 ≤ y6.toInt) → (y6.toInt ≤ 12) → (y6.toInt ≤ LOq m 0) → (SHp m7 y6.toInt 16 16 16) → IV BB m7 → fr (wl [(158, 158, none), (159, 159, none), (163, 163, none)]) m m7 → ((y6.toInt - (-1)) : Int).toNat < fuel11 → PV none g mX12_laysShort (sqV T BB (wl [(158, 158, none), (159, 159, none), (163, 163, none)]) r m (fun m' => SHp m' (-1) 16 16 16)) 4 0 0 6 [.ref 123, .int y6, pv_U, pv_U, pv_U] [] (mk T m7 n8 r) := by
    intro fuel11
    induction fuel11 with
    | zero => intro y6 m7 n8 b14 b15 b16 b17 I9 K10 z18; omega
    | succ fuel11 ih13 =>
      intro y6 m7 n8 b14 b15 b16 b17 I9 K10 z18
      have z19 : 0 ≤ (m7 123 50).toInt ∧ (m7 123 50).toInt ≤ 4 := I9 123 50
      have kg6 := (show SHp m7 y6.toInt 16 16 16 by assumption)
      have kS : HSAME m m7 := ⟨K10 123 50 rfl, fun j => K10 157 j rfl, fun j => K10 126 j rfl, fun j => K10 127 j rfl⟩
      have kl : LO12 m7 := LO12_eq kS hp0
      have kq0 := LOq_eq kS 0
      have kq1 := LOq_eq kS 1
      have kq2 := LOq_eq kS 2
      have kq3 := LOq_eq kS 3
      refine pv_iload_n (M := mX12_laysShort) 1 dX12_laysShort_6 7 rfl rfl rfl ?_
      refine pv_if_lt (M := mX12_laysShort) (tgt := 99) dX12_laysShort_7 10 rfl (by decide) (fun c27 => ?_) (fun c27 => ?_)
      · have c27 := iv_lt (X := y6.toInt) (Y := 0) c27 rfl (by decide)
        exact pv_vret (M := mX12_laysShort) dX12_laysShort_99 rfl ⟨_, _, rfl, rfl, I9, K10, (by have q := kg6; rw [show y6.toInt = -1 by omega] at q; exact q)⟩
      · have c27 := iv_nlt (X := y6.toInt) (Y := 0) c27 rfl (by decide)
        refine pv_aload_n (M := mX12_laysShort) 0 dX12_laysShort_10 11 rfl rfl rfl ?_
        refine pv_iconst (M := mX12_laysShort) (v := 1) dX12_laysShort_11 12 rfl (by decide) ?_
        have z28 : (1 : Int32).toInt = 1 := by decide
        refine pv_callv (M := mX12_laysShort) (as := [.int 1]) (st := []) (kc2 := 0) (ks2 := 0) dX12_laysShort_12 wd1633 YX12_longOf ⟨wd1635, wd98⟩ (mk_get (tl123 hT)) rfl rfl (s_X12_longOf g hT I9 1 (by decide) (by decide)) rfl rfl (Nat.le_of_ble_eq_true rfl) (by decide) rfl rfl 15 rfl (fun rv h1 q29 => ?_)
        obtain ⟨v30, rfl, rfl, pv30, qv30, rv30⟩ := q29
        replace rv30 : v30.toInt = LOq m7 (1 : Int) := by have q_ := rv30; (try rw [z28] at q_); exact q_
        show PV _ _ _ _ _ _ _ 15 [.ref 123, .int y6, pv_U, pv_U, pv_U] [.int v30] _
        have k15 : v30.toInt = LOq m 1 := by rw [← kq1]; exact rv30
        refine pv_istore_n (M := mX12_laysShort) 2 (lo2 := [.ref 123, .int y6, .int v30, pv_U, pv_U]) dX12_laysShort_15 16 rfl rfl (by decide) rfl rfl ?_
        have lp38 : ∀ (fuel37 : Nat) (y32 : Int32) (m33 : Nat → Nat → Int32) (n34 : Nat → Nat → Int64), (-1 ≤ y32.toInt) → (y32.toInt ≤ 12) → (y32.toInt ≤ LOq m 1) → (SHp m33 y6.toInt y32.toInt 16 16) → IV BB m33 → fr (wl [(158, 158, none), (159, 159, none), (163, 163, none)]) m m33 → ((y32.toInt - (-1)) : Int).toNat < fuel37 → PV none g mX12_laysShort (sqV T BB (wl [(158, 158, none), (159, 159, none), (163, 163, none)]) r m (fun m' => SHp m' (-1) 16 16 16)) 4 0 0 16 [.ref 123, .int y6, .int y32, pv_U, pv_U] [] (mk T m33 n34 r) := by
          intro fuel37
          induction fuel37 with
          | zero => intro y32 m33 n34 b40 b41 b42 b43 I35 K36 z44; omega
          | succ fuel37 ih39 =>
            intro y32 m33 n34 b40 b41 b42 b43 I35 K36 z44
            have z45 : 0 ≤ (m33 123 50).toInt ∧ (m33 123 50).toInt ≤ 4 := I35 123 50
            have kg16 := (show SHp m33 y6.toInt y32.toInt 16 16 by assumption)
            have kS : HSAME m m33 := ⟨K36 123 50 rfl, fun j => K36 157 j rfl, fun j => K36 126 j rfl, fun j => K36 127 j rfl⟩
            have kl : LO12 m33 := LO12_eq kS hp0
            have kq0 := LOq_eq kS 0
            have kq1 := LOq_eq kS 1
            have kq2 := LOq_eq kS 2
            have kq3 := LOq_eq kS 3
            refine pv_iload_n (M := mX12_laysShort) 2 dX12_laysShort_16 17 rfl rfl rfl ?_
            refine pv_if_lt (M := mX12_laysShort) (tgt := 93) dX12_laysShort_17 20 rfl (by decide) (fun c53 => ?_) (fun c53 => ?_)
            · have c53 := iv_lt (X := y32.toInt) (Y := 0) c53 rfl (by decide)
              refine iv_inc (M := mX12_laysShort) (C := (-1)) dX12_laysShort_93 96 rfl rfl (by decide) rfl rfl (by decide) (by omega) (by omega) (fun v54 ev54 => ?_)
              show PV _ _ _ _ _ _ _ 96 [.ref 123, .int v54, .int y32, pv_U, pv_U] [] _
              refine pv_goto (M := mX12_laysShort) (tgt := 6) dX12_laysShort_96 (by decide) ?_
              refine pv_fg (lo2 := [.ref 123, .int v54, pv_U, pv_U, pv_U]) ⟨Or.inr rfl, ⟨Or.inr rfl, ⟨Or.inl rfl, ⟨Or.inl rfl, ⟨Or.inl rfl, trivial⟩⟩⟩⟩⟩ ?_
              have kb6 : SHp m33 v54.toInt 16 16 16 := by rw [show v54.toInt = y6.toInt - 1 by omega]; exact SHp_b kl (by have q := kg16; rw [show y32.toInt = -1 by omega] at q; exact q)
              exact ih13 v54 m33 n34 (by first | omega | assumption | exact (iv_rng _).2 | exact (iv_rng _).1 | decide) (by first | omega | assumption | exact (iv_rng _).2 | exact (iv_rng _).1 | decide) (by first | omega | assumption | (show v54.toInt ≤ LOq m 0; omega) | decide) kb6 I35 K36 (by omega)
            · have c53 := iv_nlt (X := y32.toInt) (Y := 0) c53 rfl (by decide)
              refine pv_aload_n (M := mX12_laysShort) 0 dX12_laysShort_20 21 rfl rfl rfl ?_
              refine pv_iconst (M := mX12_laysShort) (v := 2) dX12_laysShort_21 22 rfl (by decide) ?_
              have z56 : (2 : Int32).toInt = 2 := by decide
              refine pv_callv (M := mX12_laysShort) (as := [.int 2]) (st := []) (kc2 := 0) (ks2 := 0) dX12_laysShort_22 wd1633 YX12_longOf ⟨wd1635, wd98⟩ (mk_get (tl123 hT)) rfl rfl (s_X12_longOf g hT I35 2 (by decide) (by decide)) rfl rfl (Nat.le_of_ble_eq_true rfl) (by decide) rfl rfl 25 rfl (fun rv h1 q57 => ?_)
              obtain ⟨v58, rfl, rfl, pv58, qv58, rv58⟩ := q57
              replace rv58 : v58.toInt = LOq m33 (2 : Int) := by have q_ := rv58; (try rw [z56] at q_); exact q_
              show PV _ _ _ _ _ _ _ 25 [.ref 123, .int y6, .int y32, pv_U, pv_U] [.int v58] _
              have k25 : v58.toInt = LOq m 2 := by rw [← kq2]; exact rv58
              refine pv_istore_n (M := mX12_laysShort) 3 (lo2 := [.ref 123, .int y6, .int y32, .int v58, pv_U]) dX12_laysShort_25 26 rfl rfl (by decide) rfl rfl ?_
              have lp66 : ∀ (fuel65 : Nat) (y60 : Int32) (m61 : Nat → Nat → Int32) (n62 : Nat → Nat → Int64), (-1 ≤ y60.toInt) → (y60.toInt ≤ 12) → (y60.toInt ≤ LOq m 2) → (SHp m61 y6.toInt y32.toInt y60.toInt 16) → IV BB m61 → fr (wl [(158, 158, none), (159, 159, none), (163, 163, none)]) m m61 → ((y60.toInt - (-1)) : Int).toNat < fuel65 → PV none g mX12_laysShort (sqV T BB (wl [(158, 158, none), (159, 159, none), (163, 163, none)]) r m (fun m' => SHp m' (-1) 16 16 16)) 4 0 0 26 [.ref 123, .int y6, .int y32, .int y60, pv_U] [] (mk T m61 n62 r) := by
                intro fuel65
                induction fuel65 with
                | zero => intro y60 m61 n62 b68 b69 b70 b71 I63 K64 z72; omega
                | succ fuel65 ih67 =>
                  intro y60 m61 n62 b68 b69 b70 b71 I63 K64 z72
                  have z73 : 0 ≤ (m61 123 50).toInt ∧ (m61 123 50).toInt ≤ 4 := I63 123 50
                  have kg26 := (show SHp m61 y6.toInt y32.toInt y60.toInt 16 by assumption)
                  have kS : HSAME m m61 := ⟨K64 123 50 rfl, fun j => K64 157 j rfl, fun j => K64 126 j rfl, fun j => K64 127 j rfl⟩
                  have kl : LO12 m61 := LO12_eq kS hp0
                  have kq0 := LOq_eq kS 0
                  have kq1 := LOq_eq kS 1
                  have kq2 := LOq_eq kS 2
                  have kq3 := LOq_eq kS 3
                  refine pv_iload_n (M := mX12_laysShort) 3 dX12_laysShort_26 27 rfl rfl rfl ?_
                  refine pv_if_lt (M := mX12_laysShort) (tgt := 87) dX12_laysShort_27 30 rfl (by decide) (fun c81 => ?_) (fun c81 => ?_)
                  · have c81 := iv_lt (X := y60.toInt) (Y := 0) c81 rfl (by decide)
                    refine iv_inc (M := mX12_laysShort) (C := (-1)) dX12_laysShort_87 90 rfl rfl (by decide) rfl rfl (by decide) (by omega) (by omega) (fun v82 ev82 => ?_)
                    show PV _ _ _ _ _ _ _ 90 [.ref 123, .int y6, .int v82, .int y60, pv_U] [] _
                    refine pv_goto (M := mX12_laysShort) (tgt := 16) dX12_laysShort_90 (by decide) ?_
                    refine pv_fg (lo2 := [.ref 123, .int y6, .int v82, pv_U, pv_U]) ⟨Or.inr rfl, ⟨Or.inr rfl, ⟨Or.inr rfl, ⟨Or.inl rfl, ⟨Or.inl rfl, trivial⟩⟩⟩⟩⟩ ?_
                    have kb16 : SHp m61 y6.toInt v82.toInt 16 16 := by rw [show v82.toInt = y32.toInt - 1 by omega]; exact SHp_c kl (by have q := kg26; rw [show y60.toInt = -1 by omega] at q; exact q)
                    exact ih39 v82 m61 n62 (by first | omega | assumption | exact (iv_rng _).2 | exact (iv_rng _).1 | decide) (by first | omega | assumption | exact (iv_rng _).2 | exact (iv_rng _).1 | decide) (by first | omega | assumption | (show v82.toInt ≤ LOq m 1; omega) | decide) kb16 I63 K64 (by omega)
                  · have c81 := iv_nlt (X := y60.toInt) (Y := 0) c81 rfl (by decide)
                    refine pv_aload_n (M := mX12_laysShort) 0 dX12_laysShort_30 31 rfl rfl rfl ?_
                    refine pv_iconst (M := mX12_laysShort) (v := 3) dX12_laysShort_31 32 rfl (by decide) ?_
                    have z84 : (3 : Int32).toInt = 3 := by decide
                    refine pv_callv (M := mX12_laysShort) (as := [.int 3]) (st := []) (kc2 := 0) (ks2 := 0) dX12_laysShort_32 wd1633 YX12_longOf ⟨wd1635, wd98⟩ (mk_get (tl123 hT)) rfl rfl (s_X12_longOf g hT I63 3 (by decide) (by decide)) rfl rfl (Nat.le_of_ble_eq_true rfl) (by decide) rfl rfl 35 rfl (fun rv h1 q85 => ?_)
                    obtain ⟨v86, rfl, rfl, pv86, qv86, rv86⟩ := q85
                    replace rv86 : v86.toInt = LOq m61 (3 : Int) := by have q_ := rv86; (try rw [z84] at q_); exact q_
                    show PV _ _ _ _ _ _ _ 35 [.ref 123, .int y6, .int y32, .int y60, pv_U] [.int v86] _
                    have k35 : v86.toInt = LOq m 3 := by rw [← kq3]; exact rv86
                    refine pv_istore (M := mX12_laysShort) (lo2 := [.ref 123, .int y6, .int y32, .int y60, .int v86]) dX12_laysShort_35 37 rfl (by decide) rfl rfl ?_
                    have lp94 : ∀ (fuel93 : Nat) (y88 : Int32) (m89 : Nat → Nat → Int32) (n90 : Nat → Nat → Int64), (-1 ≤ y88.toInt) → (y88.toInt ≤ 12) → (y88.toInt ≤ LOq m 3) → (SHp m89 y6.toInt y32.toInt y60.toInt y88.toInt) → IV BB m89 → fr (wl [(158, 158, none), (159, 159, none), (163, 163, none)]) m m89 → ((y88.toInt - (-1)) : Int).toNat < fuel93 → PV none g mX12_laysShort (sqV T BB (wl [(158, 158, none), (159, 159, none), (163, 163, none)]) r m (fun m' => SHp m' (-1) 16 16 16)) 4 0 0 37 [.ref 123, .int y6, .int y32, .int y60, .int y88] [] (mk T m89 n90 r) := by
                      intro fuel93
                      induction fuel93 with
                      | zero => intro y88 m89 n90 b96 b97 b98 b99 I91 K92 z100; omega
                      | succ fuel93 ih95 =>
                        intro y88 m89 n90 b96 b97 b98 b99 I91 K92 z100
                        have z101 : 0 ≤ (m89 123 50).toInt ∧ (m89 123 50).toInt ≤ 4 := I91 123 50
                        have kg37 := (show SHp m89 y6.toInt y32.toInt y60.toInt y88.toInt by assumption)
                        have kS : HSAME m m89 := ⟨K92 123 50 rfl, fun j => K92 157 j rfl, fun j => K92 126 j rfl, fun j => K92 127 j rfl⟩
                        have kl : LO12 m89 := LO12_eq kS hp0
                        have kq0 := LOq_eq kS 0
                        have kq1 := LOq_eq kS 1
                        have kq2 := LOq_eq kS 2
                        have kq3 := LOq_eq kS 3
                        refine pv_iload (M := mX12_laysShort) dX12_laysShort_37 39 rfl rfl ?_
                        refine pv_if_lt (M := mX12_laysShort) (tgt := 81) dX12_laysShort_39 42 rfl (by decide) (fun c109 => ?_) (fun c109 => ?_)
                        · have c109 := iv_lt (X := y88.toInt) (Y := 0) c109 rfl (by decide)
                          refine iv_inc (M := mX12_laysShort) (C := (-1)) dX12_laysShort_81 84 rfl rfl (by decide) rfl rfl (by decide) (by omega) (by omega) (fun v110 ev110 => ?_)
                          show PV _ _ _ _ _ _ _ 84 [.ref 123, .int y6, .int y32, .int v110, .int y88] [] _
                          refine pv_goto (M := mX12_laysShort) (tgt := 26) dX12_laysShort_84 (by decide) ?_
                          refine pv_fg (lo2 := [.ref 123, .int y6, .int y32, .int v110, pv_U]) ⟨Or.inr rfl, ⟨Or.inr rfl, ⟨Or.inr rfl, ⟨Or.inr rfl, ⟨Or.inl rfl, trivial⟩⟩⟩⟩⟩ ?_
                          have kb26 : SHp m89 y6.toInt y32.toInt v110.toInt 16 := by rw [show v110.toInt = y60.toInt - 1 by omega]; exact SHp_d kl (by have q := kg37; rw [show y88.toInt = -1 by omega] at q; exact q)
                          exact ih67 v110 m89 n90 (by first | omega | assumption | exact (iv_rng _).2 | exact (iv_rng _).1 | decide) (by first | omega | assumption | exact (iv_rng _).2 | exact (iv_rng _).1 | decide) (by first | omega | assumption | (show v110.toInt ≤ LOq m 2; omega) | decide) kb26 I91 K92 (by omega)
                        · have c109 := iv_nlt (X := y88.toInt) (Y := 0) c109 rfl (by decide)
                          refine pv_aload_n (M := mX12_laysShort) 0 dX12_laysShort_42 43 rfl rfl rfl ?_
                          refine mv_get (M := mX12_laysShort) (v := .ref 158) dX12_laysShort_43 FX12 52 wd1225 (by decide) (tl123 hT) rfl rfl 46 rfl ?_
                          refine pv_iconst (M := mX12_laysShort) (v := 0) dX12_laysShort_46 47 rfl (by decide) ?_
                          refine pv_iload_n (M := mX12_laysShort) 1 dX12_laysShort_47 48 rfl rfl rfl ?_
                          refine iv_iast (M := mX12_laysShort) (X := 0) (l1 := 0) (l2 := 16) dX12_laysShort_48 (tl158 hT) (by decide) (by omega) (by omega) I91 (fun _ => rfl) (by omega) (by omega) 49 rfl (fun m112 e115 I113 => ?_)
                          have K114 := K92.set e115 rfl
                          have w116 : (m112 123 50).toInt = (m89 123 50).toInt := by rw [e115, up2_ne (by omega)]
                          have e49 := (e115).trans (up2_ix (j := 0) (by first | omega | decide))
                          have h49 := SHp_st kg37 e115 (by omega) (by omega)
                          refine pv_aload_n (M := mX12_laysShort) 0 dX12_laysShort_49 50 rfl rfl rfl ?_
                          refine mv_get (M := mX12_laysShort) (v := .ref 158) dX12_laysShort_50 FX12 52 wd1225 (by decide) (tl123 hT) rfl rfl 53 rfl ?_
                          refine pv_iconst (M := mX12_laysShort) (v := 1) dX12_laysShort_53 54 rfl (by decide) ?_
                          refine pv_iload_n (M := mX12_laysShort) 2 dX12_laysShort_54 55 rfl rfl rfl ?_
                          refine iv_iast (M := mX12_laysShort) (X := 1) (l1 := 0) (l2 := 16) dX12_laysShort_55 (tl158 hT) (by decide) (by omega) (by omega) I113 (fun _ => rfl) (by omega) (by omega) 56 rfl (fun m119 e122 I120 => ?_)
                          have K121 := K114.set e122 rfl
                          have w123 : (m119 123 50).toInt = (m112 123 50).toInt := by rw [e122, up2_ne (by omega)]
                          have e56 := (e122).trans (up2_ix (j := 1) (by first | omega | decide))
                          have h56 := SHp_st h49 e122 (by omega) (by omega)
                          refine pv_aload_n (M := mX12_laysShort) 0 dX12_laysShort_56 57 rfl rfl rfl ?_
                          refine mv_get (M := mX12_laysShort) (v := .ref 158) dX12_laysShort_57 FX12 52 wd1225 (by decide) (tl123 hT) rfl rfl 60 rfl ?_
                          refine pv_iconst (M := mX12_laysShort) (v := 2) dX12_laysShort_60 61 rfl (by decide) ?_
                          refine pv_iload_n (M := mX12_laysShort) 3 dX12_laysShort_61 62 rfl rfl rfl ?_
                          refine iv_iast (M := mX12_laysShort) (X := 2) (l1 := 0) (l2 := 16) dX12_laysShort_62 (tl158 hT) (by decide) (by omega) (by omega) I120 (fun _ => rfl) (by omega) (by omega) 63 rfl (fun m126 e129 I127 => ?_)
                          have K128 := K121.set e129 rfl
                          have w130 : (m126 123 50).toInt = (m119 123 50).toInt := by rw [e129, up2_ne (by omega)]
                          have e63 := (e129).trans (up2_ix (j := 2) (by first | omega | decide))
                          have h63 := SHp_st h56 e129 (by omega) (by omega)
                          refine pv_aload_n (M := mX12_laysShort) 0 dX12_laysShort_63 64 rfl rfl rfl ?_
                          refine mv_get (M := mX12_laysShort) (v := .ref 158) dX12_laysShort_64 FX12 52 wd1225 (by decide) (tl123 hT) rfl rfl 67 rfl ?_
                          refine pv_iconst (M := mX12_laysShort) (v := 3) dX12_laysShort_67 68 rfl (by decide) ?_
                          refine pv_iload (M := mX12_laysShort) dX12_laysShort_68 70 rfl rfl ?_
                          refine iv_iast (M := mX12_laysShort) (X := 3) (l1 := 0) (l2 := 16) dX12_laysShort_70 (tl158 hT) (by decide) (by omega) (by omega) I127 (fun _ => rfl) (by omega) (by omega) 71 rfl (fun m133 e136 I134 => ?_)
                          have K135 := K128.set e136 rfl
                          have w137 : (m133 123 50).toInt = (m126 123 50).toInt := by rw [e136, up2_ne (by omega)]
                          have e71 := (e136).trans (up2_ix (j := 3) (by first | omega | decide))
                          have h71 := SHp_st h63 e136 (by omega) (by omega)
                          have ka := at4 e49 e56 e63 e71
                          have kS : HSAME m m133 := ⟨K135 123 50 rfl, fun j => K135 157 j rfl, fun j => K135 126 j rfl, fun j => K135 127 j rfl⟩
                          have kl : LO12 m133 := LO12_eq kS hp0
                          have kq0 := LOq_eq kS 0
                          have kq1 := LOq_eq kS 1
                          have kq2 := LOq_eq kS 2
                          have kq3 := LOq_eq kS 3
                          have kO : OKp m133 (pa m133) := OKp_of4 ka ⟨by omega, by omega⟩ ⟨by omega, by omega⟩ ⟨by omega, by omega⟩ ⟨by omega, by omega⟩
                          have kH : SHp m133 (pa m133 0) (pa m133 1) (pa m133 2) (pa m133 3) := by rw [ka.1, ka.2.1, ka.2.2.1, ka.2.2.2]; exact h71
                          refine pv_aload_n (M := mX12_laysShort) 0 dX12_laysShort_71 72 rfl rfl rfl ?_
                          refine pv_callv (M := mX12_laysShort) (as := []) (st := []) (kc2 := 0) (ks2 := 0) dX12_laysShort_72 wd1668 YX12_laysShortAt ⟨wd1670, wd105⟩ (mk_get (tl123 hT)) rfl rfl (s_X12_laysShortAt g hT I134 kO (LO12_eq kS hp0) kH) rfl rfl (Nat.le_of_ble_eq_true rfl) (by decide) rfl rfl 75 rfl (fun rv h1 q149 => ?_)
                          obtain ⟨m150, n151, rfl, rfl, I152, K153, rm150⟩ := q149
                          replace rm150 : SHp m150 (pa m133 0) (pa m133 1) (pa m133 2) (pa m133 3 - 1) := rm150
                          have K153c := K153
                          have w154 : (m150 123 50).toInt = (m133 123 50).toInt := congrArg Int32.toInt (K153 123 50 rfl)
                          have K153 := K135.trans (K153.sub (wl_sub (by decide)))
                          show PV _ _ _ _ _ _ _ 75 [.ref 123, .int y6, .int y32, .int y60, .int y88] [] _
                          have k75 := rm150
                          rw [ka.1, ka.2.1, ka.2.2.1, ka.2.2.2] at k75
                          refine iv_inc (M := mX12_laysShort) (C := (-1)) dX12_laysShort_75 78 rfl rfl (by decide) rfl rfl (by decide) (by omega) (by omega) (fun v157 ev157 => ?_)
                          show PV _ _ _ _ _ _ _ 78 [.ref 123, .int y6, .int y32, .int y60, .int v157] [] _
                          refine pv_goto (M := mX12_laysShort) (tgt := 37) dX12_laysShort_78 (by decide) ?_
                          have kb37 : SHp m150 y6.toInt y32.toInt y60.toInt v157.toInt := by rw [show v157.toInt = y88.toInt - 1 by omega]; exact k75
                          exact ih95 v157 m150 n151 (by first | omega | assumption | exact (iv_rng _).2 | exact (iv_rng _).1 | decide) (by first | omega | assumption | exact (iv_rng _).2 | exact (iv_rng _).1 | decide) (by first | omega | assumption | (show v157.toInt ≤ LOq m 3; omega) | decide) kb37 I152 K153 (by omega)
                    have kin : SHp m61 y6.toInt y32.toInt y60.toInt v86.toInt := SHp_dn kl kg26 (fun a b c d h1 h2 h3 h4 h5 h6 h7 h8 h9 => by have q := LO4 kl; omega)
                    exact lp94 (((v86.toInt - (-1)) : Int).toNat + 1) v86 m61 n62 (by first | omega | assumption | exact (iv_rng _).2 | exact (iv_rng _).1 | decide) (by first | omega | assumption | exact (iv_rng _).2 | exact (iv_rng _).1 | decide) (by first | omega | assumption | (show v86.toInt ≤ LOq m 3; omega) | decide) kin I63 K64 (by omega)
              have kin : SHp m33 y6.toInt y32.toInt v58.toInt 16 := SHp_dn kl kg16 (fun a b c d h1 h2 h3 h4 h5 h6 h7 h8 h9 => by have q := LO4 kl; omega)
              exact lp66 (((v58.toInt - (-1)) : Int).toNat + 1) v58 m33 n34 (by first | omega | assumption | exact (iv_rng _).2 | exact (iv_rng _).1 | decide) (by first | omega | assumption | exact (iv_rng _).2 | exact (iv_rng _).1 | decide) (by first | omega | assumption | (show v58.toInt ≤ LOq m 2; omega) | decide) kin I35 K36 (by omega)
        have kin : SHp m7 y6.toInt v30.toInt 16 16 := SHp_dn kl kg6 (fun a b c d h1 h2 h3 h4 h5 h6 h7 h8 h9 => by have q := LO4 kl; omega)
        exact lp38 (((v30.toInt - (-1)) : Int).toNat + 1) v30 m7 n8 (by first | omega | assumption | exact (iv_rng _).2 | exact (iv_rng _).1 | decide) (by first | omega | assumption | exact (iv_rng _).2 | exact (iv_rng _).1 | decide) (by first | omega | assumption | (show v30.toInt ≤ LOq m 1; omega) | decide) kin I9 K10 (by omega)
  exact lp12 (((v4.toInt - (-1)) : Int).toNat + 1) v4 m n (by first | omega | assumption | exact (iv_rng _).2 | exact (iv_rng _).1 | decide) (by first | omega | assumption | exact (iv_rng _).2 | exact (iv_rng _).1 | decide) (by first | omega | assumption | (show v4.toInt ≤ LOq m 0; omega) | decide) (SHp_a hp0 (by omega)) I Kp (by omega)

set_option maxHeartbeats 2000000 in
set_option maxRecDepth 20000 in
theorem s_X12_isTooLong (g : pv_G) {T : List mv_T} {m : Nat → Nat → Int32} {n : Nat → Nat → Int64} {r : Nat → Value} (hT : TX T) (I : IV BB m) : PM g mX12_isTooLong yX12_isTooLong (sqP (mk T m n r) 0 1 (fun v => v.toInt = 1 ∨ LO12 m)) 2 0 0 [.ref 123] (mk T m n r) := by
  have Kp : fr (wl []) m m := fr.rf
  have z25 : 0 ≤ (m 123 50).toInt ∧ (m 123 50).toInt ≤ 4 := I 123 50
  refine PM.of 1 (lo := [.ref 123, pv_U]) rfl (by decide) rfl rfl (Nat.le_of_ble_eq_true rfl) ?_
  refine pv_iconst (M := mX12_isTooLong) (v := 0) dX12_isTooLong_0 1 rfl (by decide) ?_
  refine pv_istore_n (M := mX12_isTooLong) 1 (lo2 := [.ref 123, .int 0]) dX12_isTooLong_1 2 rfl rfl (by decide) rfl rfl ?_
  have lp7 : ∀ (fuel6 : Nat) (y1 : Int32), (0 ≤ y1.toInt) → (y1.toInt ≤ 4) → (∀ q : Int, 0 ≤ q → q < y1.toInt → LOq m q ≤ 12) → ((4 - y1.toInt) : Int).toNat < fuel6 → PV none g mX12_isTooLong (sqP (mk T m n r) 0 1 (fun v => v.toInt = 1 ∨ LO12 m)) 2 0 0 2 [.ref 123, .int y1] [] (mk T m n r) := by
    intro fuel6
    induction fuel6 with
    | zero => intro y1 b9 b10 b11 z12; omega
    | succ fuel6 ih8 =>
      intro y1 b9 b10 b11 z12
      have kg := (show ∀ q : Int, 0 ≤ q → q < y1.toInt → LOq m q ≤ 12 by assumption)
      refine pv_iload_n (M := mX12_isTooLong) 1 dX12_isTooLong_2 3 rfl rfl rfl ?_
      refine pv_aload_n (M := mX12_isTooLong) 0 dX12_isTooLong_3 4 rfl rfl rfl ?_
      refine iv_get (M := mX12_isTooLong) (l1 := 0) (l2 := 4) dX12_isTooLong_4 FX12 50 wd1223 (by decide) (tl123 hT) rfl I rfl 7 rfl (fun v14 ev14 pv14 qv14 => ?_)
      have wv14 : v14.toInt = (m 123 50).toInt := congrArg Int32.toInt ev14
      refine pv_icmp_ge (M := mX12_isTooLong) (tgt := 28) dX12_isTooLong_7 10 rfl (by decide) (fun c15 => ?_) (fun c15 => ?_)
      · have c15 := iv_le (X := v14.toInt) (Y := y1.toInt) c15 rfl rfl
        refine pv_iconst (M := mX12_isTooLong) (v := 0) dX12_isTooLong_28 29 rfl (by decide) ?_
        have z16 : (0 : Int32).toInt = 0 := by decide
        exact pv_iret (M := mX12_isTooLong) dX12_isTooLong_29 rfl rfl ⟨_, rfl, rfl, by decide, by decide, (Or.inr (fun q hq => ⟨(LO16_of (fun j => I 126 j) q).1, if z : q < y1.toInt then kg q hq z else by unfold LOq; rw [if_neg (by omega)]; omega⟩))⟩
      · have c15 := iv_nle (X := v14.toInt) (Y := y1.toInt) c15 rfl rfl
        refine pv_aload_n (M := mX12_isTooLong) 0 dX12_isTooLong_10 11 rfl rfl rfl ?_
        refine pv_iload_n (M := mX12_isTooLong) 1 dX12_isTooLong_11 12 rfl rfl rfl ?_
        refine pv_callv (M := mX12_isTooLong) (as := [.int y1]) (st := []) (kc2 := 0) (ks2 := 0) dX12_isTooLong_12 wd1633 YX12_longOf ⟨wd1635, wd98⟩ (mk_get (tl123 hT)) rfl rfl (s_X12_longOf g hT I y1 (by omega) (by omega)) rfl rfl (Nat.le_of_ble_eq_true rfl) (by decide) rfl rfl 15 rfl (fun rv h1 q17 => ?_)
        obtain ⟨v18, rfl, rfl, pv18, qv18, rv18⟩ := q17
        replace rv18 : v18.toInt = LOq m y1.toInt := rv18
        show PV _ _ _ _ _ _ _ 15 [.ref 123, .int y1] [.int v18] _
        have k15 : v18.toInt = LOq m y1.toInt := rv18
        refine pv_bipush (M := mX12_isTooLong) (v := 12) dX12_isTooLong_15 17 rfl (by decide) ?_
        refine pv_icmp_le (M := mX12_isTooLong) (tgt := 22) dX12_isTooLong_17 20 rfl (by decide) (fun c20 => ?_) (fun c20 => ?_)
        · have c20 := iv_le (X := v18.toInt) (Y := 12) c20 rfl (by decide)
          refine iv_inc (M := mX12_isTooLong) (C := 1) dX12_isTooLong_22 25 rfl rfl (by decide) rfl rfl (by decide) (by omega) (by omega) (fun v21 ev21 => ?_)
          show PV _ _ _ _ _ _ _ 25 [.ref 123, .int v21] [] _
          refine pv_goto (M := mX12_isTooLong) (tgt := 2) dX12_isTooLong_25 (by decide) ?_
          have kb : ∀ q : Int, 0 ≤ q → q < v21.toInt → LOq m q ≤ 12 := fun q a b => if z : q = y1.toInt then by rw [z, ← k15]; omega else kg q a (by omega)
          exact ih8 v21 (by first | omega | assumption | exact (iv_rng _).2 | exact (iv_rng _).1 | decide) (by first | omega | assumption | exact (iv_rng _).2 | exact (iv_rng _).1 | decide) kb (by omega)
        · have c20 := iv_nle (X := v18.toInt) (Y := 12) c20 rfl (by decide)
          refine pv_iconst (M := mX12_isTooLong) (v := 1) dX12_isTooLong_20 21 rfl (by decide) ?_
          have z23 : (1 : Int32).toInt = 1 := by decide
          exact pv_iret (M := mX12_isTooLong) dX12_isTooLong_21 rfl rfl ⟨_, rfl, rfl, by decide, by decide, (Or.inl rfl)⟩
  have z24 : (0 : Int32).toInt = 0 := by decide
  exact lp7 (((4 - 0) : Int).toNat + 1) 0 (by first | omega | assumption | exact (iv_rng _).2 | exact (iv_rng _).1 | decide) (by first | omega | assumption | exact (iv_rng _).2 | exact (iv_rng _).1 | decide) (fun q a b => by rw [Int32.toInt_zero] at b; omega) (by omega)

set_option maxHeartbeats 2000000 in
set_option maxRecDepth 20000 in
theorem s_X12_shortest (g : pv_G) {T : List mv_T} {m : Nat → Nat → Int32} {n : Nat → Nat → Int64} {r : Nat → Value} (hT : TX T) (I : IV BB m) (x0 : Int32) (x1 : Int32) : PM g mX12_shortest yX12_shortest (sqI T BB (wl [(123, 123, some 50), (157, 157, none), (158, 158, none), (159, 159, none), (163, 163, none)]) r m (-2147483648) 2147483647 (fun m' v => True)) 5 0 0 [.ref 123, .int x0, .int x1] (mk T m n r) := by
  have Kp : fr (wl [(123, 123, some 50), (157, 157, none), (158, 158, none), (159, 159, none), (163, 163, none)]) m m := fr.rf
  refine PM.of 4 (lo := [.ref 123, .int x0, .int x1, pv_U, pv_U, pv_U, pv_U]) rfl (by decide) rfl rfl (Nat.le_of_ble_eq_true rfl) ?_
  refine pv_aload_n (M := mX12_shortest) 0 dX12_shortest_0 1 rfl rfl rfl ?_
  refine pv_iload_n (M := mX12_shortest) 1 dX12_shortest_1 2 rfl rfl rfl ?_
  refine pv_iconst (M := mX12_shortest) (v := 2) dX12_shortest_2 3 rfl (by decide) ?_
  refine pv_iconst (M := mX12_shortest) (v := 4) dX12_shortest_3 4 rfl (by decide) ?_
  have z1 : (2 : Int32).toInt = 2 := by decide
  have z2 : (4 : Int32).toInt = 4 := by decide
  refine pv_callv (M := mX12_shortest) (as := [.int x0, .int 2, .int 4]) (st := []) (kc2 := 0) (ks2 := 0) dX12_shortest_4 wd1622 YX12_spreads ⟨wd1624, wd96⟩ (mk_get (tl123 hT)) rfl rfl (s_X12_spreads g hT I x0 2 (by decide) (by decide) 4 (by decide) (by decide)) rfl rfl (Nat.le_of_ble_eq_true rfl) (by decide) rfl rfl 7 rfl (fun rv h1 q3 => ?_)
  obtain ⟨m4, n5, v8, rfl, rfl, I6, K7, pv8, qv8, rv8⟩ := q3
  replace rv8 : (v8.toInt = 0 ∧ m4 = m) ∨ (v8.toInt = 1 ∧ CHI m4 x0 8 ∧ CHA m4 x0 8 ∧ (2 : Int) ≤ (m4 123 50).toInt ∧ (m4 123 50).toInt ≤ (4 : Int)) := by have q_ := rv8; (try rw [z1] at q_); (try rw [z2] at q_); exact q_
  have K7c := K7
  have K7 := Kp.trans (K7.sub (wl_sub (by decide)))
  show PV _ _ _ _ _ _ _ 7 [.ref 123, .int x0, .int x1, pv_U, pv_U, pv_U, pv_U] [.int v8] _
  refine pv_if_eq (M := mX12_shortest) (tgt := 15) dX12_shortest_7 10 rfl (by decide) (fun c9 => ?_) (fun c9 => ?_)
  · have c9 := iv_eq (X := v8.toInt) (Y := 0) c9 rfl (by decide)
    refine pv_iconst (M := mX12_shortest) (v := (-1)) dX12_shortest_15 16 rfl (by decide) ?_
    exact pv_iret (M := mX12_shortest) dX12_shortest_16 rfl rfl ⟨_, _, _, rfl, rfl, I6, K7, by decide, by decide, trivial⟩
  · have c9 := iv_ne (X := v8.toInt) (Y := 0) c9 rfl (by decide)
    refine pv_iload_n (M := mX12_shortest) 2 dX12_shortest_10 11 rfl rfl rfl ?_
    refine pv_iconst (M := mX12_shortest) (v := (-1)) dX12_shortest_11 12 rfl (by decide) ?_
    refine pv_icmp_ge (M := mX12_shortest) (tgt := 17) dX12_shortest_12 15 rfl (by decide) (fun c10 => ?_) (fun c10 => ?_)
    · have c10 := iv_le (X := (-1)) (Y := x1.toInt) c10 (by decide) rfl
      refine pv_aload_n (M := mX12_shortest) 0 dX12_shortest_17 18 rfl rfl rfl ?_
      refine pv_callv (M := mX12_shortest) (as := []) (st := []) (kc2 := 0) (ks2 := 0) dX12_shortest_18 wd1660 YX12_isTooLong ⟨wd1662, wd103⟩ (mk_get (tl123 hT)) rfl rfl (s_X12_isTooLong g hT I6) rfl rfl (Nat.le_of_ble_eq_true rfl) (by decide) rfl rfl 21 rfl (fun rv h1 q11 => ?_)
      obtain ⟨v12, rfl, rfl, pv12, qv12, rv12⟩ := q11
      replace rv12 : v12.toInt = 1 ∨ LO12 m4 := rv12
      show PV _ _ _ _ _ _ _ 21 [.ref 123, .int x0, .int x1, pv_U, pv_U, pv_U, pv_U] [.int v12] _
      have k21 := rv12
      refine pv_if_eq (M := mX12_shortest) (tgt := 27) dX12_shortest_21 24 rfl (by decide) (fun c14 => ?_) (fun c14 => ?_)
      · have c14 := iv_eq (X := v12.toInt) (Y := 0) c14 rfl (by decide)
        have kl := k21.resolve_left (fun q => by omega)
        clear k21
        refine pv_aload_n (M := mX12_shortest) 0 dX12_shortest_27 28 rfl rfl rfl ?_
        refine pv_callv (M := mX12_shortest) (as := []) (st := []) (kc2 := 0) (ks2 := 0) dX12_shortest_28 wd1664 YX12_laysShort ⟨wd1666, wd104⟩ (mk_get (tl123 hT)) rfl rfl (s_X12_laysShort g hT I6 kl) rfl rfl (Nat.le_of_ble_eq_true rfl) (by decide) rfl rfl 31 rfl (fun rv h1 q17 => ?_)
        obtain ⟨m18, n19, rfl, rfl, I20, K21, rm18⟩ := q17
        replace rm18 : SHp m18 (-1) 16 16 16 := rm18
        have K21c := K21
        have K21 := K7.trans (K21.sub (wl_sub (by decide)))
        show PV _ _ _ _ _ _ _ 31 [.ref 123, .int x0, .int x1, pv_U, pv_U, pv_U, pv_U] [] _
        have kF := rm18
        have kS : HSAME _ m18 := ⟨K21c 123 50 rfl, fun j => K21c 157 j rfl, fun j => K21c 126 j rfl, fun j => K21c 127 j rfl⟩
        have kl1 : LO12 m18 := LO12_eq kS kl
        refine pv_aload_n (M := mX12_shortest) 0 dX12_shortest_31 32 rfl rfl rfl ?_
        refine mv_get (M := mX12_shortest) (v := .ref 163) dX12_shortest_32 FX12 57 wd1230 (by decide) (tl123 hT) rfl rfl 35 rfl ?_
        refine pv_iconst (M := mX12_shortest) (v := 0) dX12_shortest_35 36 rfl (by decide) ?_
        refine iv_iald (M := mX12_shortest) (X := 0) (l1 := 0) (l2 := 1000000000) dX12_shortest_36 (tl163 hT) (by decide) (by omega) (by omega) I20 (fun _ => rfl) 37 rfl (fun v25 ev25 pv25 qv25 => ?_)
        have k37 : (m18 163 0).toInt = v25.toInt := (congrArg Int32.toInt ev25).symm
        refine pv_istore_n (M := mX12_shortest) 3 (lo2 := [.ref 123, .int x0, .int x1, .int v25, pv_U, pv_U, pv_U]) dX12_shortest_37 38 rfl rfl (by decide) rfl rfl ?_
        refine pv_iload_n (M := mX12_shortest) 2 dX12_shortest_38 39 rfl rfl rfl ?_
        refine pv_iconst (M := mX12_shortest) (v := (-1)) dX12_shortest_39 40 rfl (by decide) ?_
        refine pv_icmp_ne (M := mX12_shortest) (tgt := 45) dX12_shortest_40 43 rfl (by decide) (fun c27 => ?_) (fun c27 => ?_)
        · have c27 := iv_ne (X := x1.toInt) (Y := (-1)) c27 rfl (by decide)
          refine pv_iload_n (M := mX12_shortest) 2 dX12_shortest_45 46 rfl rfl rfl ?_
          refine pv_iload_n (M := mX12_shortest) 3 dX12_shortest_46 47 rfl rfl rfl ?_
          refine pv_icmp_lt (M := mX12_shortest) (tgt := 52) dX12_shortest_47 50 rfl (by decide) (fun c28 => ?_) (fun c28 => ?_)
          · have c28 := iv_lt (X := x1.toInt) (Y := v25.toInt) c28 rfl rfl
            refine pv_iconst (M := mX12_shortest) (v := 0) dX12_shortest_52 53 rfl (by decide) ?_
            refine pv_istore (M := mX12_shortest) (lo2 := [.ref 123, .int x0, .int x1, .int v25, .int 0, pv_U, pv_U]) dX12_shortest_53 55 rfl (by decide) rfl rfl ?_
            have lp35 : ∀ (fuel34 : Nat) (y29 : Int32) (m30 : Nat → Nat → Int32) (n31 : Nat → Nat → Int64), (0 ≤ y29.toInt) → (y29.toInt ≤ 4) → (SHp m30 (-1) 16 16 16) → (LO12 m30) → (∀ q : Nat, (q : Int) < y29.toInt → (m30 158 q).toInt = 0) → ((m30 163 0).toInt = v25.toInt) → IV BB m30 → fr (wl [(123, 123, some 50), (157, 157, none), (158, 158, none), (159, 159, none), (163, 163, none)]) m m30 → ((4 - y29.toInt) : Int).toNat < fuel34 → PV none g mX12_shortest (sqI T BB (wl [(123, 123, some 50), (157, 157, none), (158, 158, none), (159, 159, none), (163, 163, none)]) r m (-2147483648) 2147483647 (fun m' v => True)) 5 0 0 55 [.ref 123, .int x0, .int x1, .int v25, .int y29, pv_U, pv_U] [] (mk T m30 n31 r) := by
              intro fuel34
              induction fuel34 with
              | zero => intro y29 m30 n31 b37 b38 b39 b40 b41 b42 I32 K33 z43; omega
              | succ fuel34 ih36 =>
                intro y29 m30 n31 b37 b38 b39 b40 b41 b42 I32 K33 z43
                have kgF := (show SHp m30 (-1) 16 16 16 by assumption)
                have kgL := (show LO12 m30 by assumption)
                have kgZ := (show ∀ q : Nat, (q : Int) < y29.toInt → (m30 158 q).toInt = 0 by assumption)
                have kg163 := (show (m30 163 0).toInt = v25.toInt by assumption)
                refine pv_iload (M := mX12_shortest) dX12_shortest_55 57 rfl rfl ?_
                refine pv_iconst (M := mX12_shortest) (v := 4) dX12_shortest_57 58 rfl (by decide) ?_
                refine pv_icmp_ge (M := mX12_shortest) (tgt := 75) dX12_shortest_58 61 rfl (by decide) (fun c48 => ?_) (fun c48 => ?_)
                · have c48 := iv_le (X := 4) (Y := y29.toInt) c48 (by decide) rfl
                  have kZ4 : ∀ q : Nat, q < 4 → (m30 158 q).toInt = 0 := fun q hq => kgZ q (by omega)
                  refine pv_iconst (M := mX12_shortest) (v := 0) dX12_shortest_75 76 rfl (by decide) ?_
                  refine pv_istore (M := mX12_shortest) (lo2 := [.ref 123, .int x0, .int x1, .int v25, .int 0, pv_U, pv_U]) dX12_shortest_76 78 rfl (by decide) rfl rfl ?_
                  have lp56 : ∀ (fuel55 : Nat) (y50 : Int32) (m51 : Nat → Nat → Int32) (n52 : Nat → Nat → Int64), (0 ≤ y50.toInt) → (y50.toInt ≤ 1000000000) → (y50.toInt ≤ x1.toInt) → (SL m51 (pa m51) (v25.toInt - y50.toInt)) → IV BB m51 → fr (wl [(123, 123, some 50), (157, 157, none), (158, 158, none), (159, 159, none), (163, 163, none)]) m m51 → ((x1.toInt - y50.toInt) : Int).toNat < fuel55 → PV none g mX12_shortest (sqI T BB (wl [(123, 123, some 50), (157, 157, none), (158, 158, none), (159, 159, none), (163, 163, none)]) r m (-2147483648) 2147483647 (fun m' v => True)) 5 0 0 78 [.ref 123, .int x0, .int x1, .int v25, .int y50, pv_U, pv_U] [] (mk T m51 n52 r) := by
                    intro fuel55
                    induction fuel55 with
                    | zero => intro y50 m51 n52 b58 b59 b60 b61 I53 K54 z62; omega
                    | succ fuel55 ih57 =>
                      intro y50 m51 n52 b58 b59 b60 b61 I53 K54 z62
                      have kgS := (show SL m51 (pa m51) (v25.toInt - y50.toInt) by assumption)
                      refine pv_iconst (M := mX12_shortest) (v := 0) dX12_shortest_78 79 rfl (by decide) ?_
                      refine pv_istore (M := mX12_shortest) (lo2 := [.ref 123, .int x0, .int x1, .int v25, .int y50, .int 0, pv_U]) dX12_shortest_79 81 rfl (by decide) rfl rfl ?_
                      have lp70 : ∀ (fuel69 : Nat) (y64 : Int32) (m65 : Nat → Nat → Int32) (n66 : Nat → Nat → Int64), (0 ≤ y64.toInt) → (y64.toInt ≤ 25) → (SL m65 (pa m65) (v25.toInt - y50.toInt)) → (SW1 m65 (pa m65) y64.toInt (v25.toInt - y50.toInt)) → IV BB m65 → fr (wl [(123, 123, some 50), (157, 157, none), (158, 158, none), (159, 159, none), (163, 163, none)]) m m65 → ((25 - y64.toInt) : Int).toNat < fuel69 → PV none g mX12_shortest (sqI T BB (wl [(123, 123, some 50), (157, 157, none), (158, 158, none), (159, 159, none), (163, 163, none)]) r m (-2147483648) 2147483647 (fun m' v => True)) 5 0 0 81 [.ref 123, .int x0, .int x1, .int v25, .int y50, .int y64, pv_U] [] (mk T m65 n66 r) := by
                        intro fuel69
                        induction fuel69 with
                        | zero => intro y64 m65 n66 b72 b73 b74 b75 I67 K68 z76; omega
                        | succ fuel69 ih71 =>
                          intro y64 m65 n66 b72 b73 b74 b75 I67 K68 z76
                          have kgS2 := (show SL m65 (pa m65) (v25.toInt - y50.toInt) by assumption)
                          have kgW := (show SW1 m65 (pa m65) y64.toInt (v25.toInt - y50.toInt) by assumption)
                          refine pv_aload_n (M := mX12_shortest) 0 dX12_shortest_81 82 rfl rfl rfl ?_
                          refine pv_iload (M := mX12_shortest) dX12_shortest_82 84 rfl rfl ?_
                          refine pv_callv (M := mX12_shortest) (as := [.int y64]) (st := []) (kc2 := 0) (ks2 := 0) dX12_shortest_84 wd1672 YX12_takesLetter ⟨wd1674, wd106⟩ (mk_get (tl123 hT)) rfl rfl (s_X12_takesLetter g hT I67 y64 (by omega) (by omega)) rfl rfl (Nat.le_of_ble_eq_true rfl) (by decide) rfl rfl 87 rfl (fun rv h1 q79 => ?_)
                          obtain ⟨m80, n81, v84, rfl, rfl, I82, K83, pv84, qv84, rv84⟩ := q79
                          replace rv84 : NX m65 (pa m65) y64.toInt 4 m80 ∧ (v84.toInt = 0 → tkF m65 (pa m65) y64.toInt 4 = 0) ∧ (v84.toInt ≠ 0 → 0 < tkF m65 (pa m65) y64.toInt 4) := rv84
                          have K83c := K83
                          have K83 := K68.trans (K83.sub (wl_sub (by decide)))
                          show PV _ _ _ _ _ _ _ 87 [.ref 123, .int x0, .int x1, .int v25, .int y50, .int y64, pv_U] [.int v84] _
                          have k87 := rv84
                          have kS : HSAME m65 m80 := ⟨K83c 123 50 rfl, fun j => K83c 157 j rfl, fun j => K83c 126 j rfl, fun j => K83c 127 j rfl⟩
                          have k163 : ∀ j, m80 163 j = m65 163 j := fun j => K83c 163 j rfl
                          have kpa : pa m80 = pa m65 := funext fun q => congrArg Int32.toInt (K83c 158 q rfl)
                          have kA1 := k87.1
                          have kA2 := k87.2.1
                          have kA3 := k87.2.2
                          have kb81 : SL m80 (pa m80) (v25.toInt - y50.toInt) := by rw [kpa]; exact SL_eq kS k163 kgS2
                          refine pv_if_eq (M := mX12_shortest) (tgt := 108) dX12_shortest_87 90 rfl (by decide) (fun c93 => ?_) (fun c93 => ?_)
                          · have c93 := iv_eq (X := v84.toInt) (Y := 0) c93 rfl (by decide)
                            refine pv_iload (M := mX12_shortest) dX12_shortest_108 110 rfl rfl ?_
                            refine pv_iconst (M := mX12_shortest) (v := 1) dX12_shortest_110 111 rfl (by decide) ?_
                            refine iv_iadd (M := mX12_shortest) (X := y64.toInt) (Y := 1) dX12_shortest_111 112 rfl rfl (by decide) (by omega) (by omega) (fun v94 ev94 => ?_)
                            refine pv_istore (M := mX12_shortest) (lo2 := [.ref 123, .int x0, .int x1, .int v25, .int y50, .int v94, pv_U]) dX12_shortest_112 114 rfl (by decide) rfl rfl ?_
                            refine pv_goto (M := mX12_shortest) (tgt := 81) dX12_shortest_114 (by decide) ?_
                            have kwb : SW1 m80 (pa m80) v94.toInt (v25.toInt - y50.toInt) := by rw [kpa, show v94.toInt = y64.toInt + 1 by omega]; exact SW1_eq kS k163 (SW1.step kgW (by first | exact Or.inl (by omega) | exact Or.inr (by omega)))
                            have kx : v94.toInt ≤ 25 := kwb.le
                            exact ih71 v94 m80 n81 (by first | omega | assumption | exact (iv_rng _).2 | exact (iv_rng _).1 | decide) (by first | omega | assumption | exact (iv_rng _).2 | exact (iv_rng _).1 | decide) kb81 kwb I82 K83 (by omega)
                          · have c93 := iv_ne (X := v84.toInt) (Y := 0) c93 rfl (by decide)
                            have k12n := NX_12 kA1 kgS2.2.2.1 kgS2.1 (by omega)
                            refine pv_aload_n (M := mX12_shortest) 0 dX12_shortest_90 91 rfl rfl rfl ?_
                            refine mv_get (M := mX12_shortest) (v := .ref 163) dX12_shortest_91 FX12 57 wd1230 (by decide) (tl123 hT) rfl rfl 94 rfl ?_
                            refine pv_aload_n (M := mX12_shortest) 0 dX12_shortest_94 95 rfl rfl rfl ?_
                            refine pv_callv (M := mX12_shortest) (as := []) (st := [.ref 163]) (kc2 := 0) (ks2 := 0) dX12_shortest_95 wd1676 YX12_nextShort ⟨wd1678, wd107⟩ (mk_get (tl123 hT)) rfl rfl (s_X12_nextShort g hT I82 k12n) rfl rfl (Nat.le_of_ble_eq_true rfl) (by decide) rfl rfl 98 rfl (fun rv h1 q98 => ?_)
                            obtain ⟨v99, rfl, rfl, pv99, qv99, rv99⟩ := q98
                            replace rv99 : v99.toInt.toNat = sx (pn m80) := rv99
                            show PV _ _ _ _ _ _ _ 98 [.ref 123, .int x0, .int x1, .int v25, .int y50, .int y64, pv_U] [.int v99, .ref 163] _
                            have k98 : v99.toInt.toNat = sx (stp m65 (pa m65) y64.toInt) := (rv99).trans (NX_sx kA1)
                            refine iv_iald (M := mX12_shortest) (X := v99.toInt) (l1 := 0) (l2 := 1000000000) dX12_shortest_98 (tl163 hT) rfl (by omega) (by omega) I82 (fun _ => rfl) 99 rfl (fun v101 ev101 pv101 qv101 => ?_)
                            have k99 : v101.toInt = SE m65 (stp m65 (pa m65) y64.toInt) := congrArg Int32.toInt (ev101.trans ((congrArg (m80 163) k98).trans (k163 _)))
                            refine pv_iload_n (M := mX12_shortest) 3 dX12_shortest_99 100 rfl rfl rfl ?_
                            refine pv_iload (M := mX12_shortest) dX12_shortest_100 102 rfl rfl ?_
                            refine iv_isub (M := mX12_shortest) (X := v25.toInt) (Y := y50.toInt) dX12_shortest_102 103 rfl rfl rfl (by omega) (by omega) (fun v103 ev103 => ?_)
                            refine pv_iconst (M := mX12_shortest) (v := 1) dX12_shortest_103 104 rfl (by decide) ?_
                            refine iv_isub (M := mX12_shortest) (X := v103.toInt) (Y := 1) dX12_shortest_104 105 rfl rfl (by decide) (by omega) (by omega) (fun v104 ev104 => ?_)
                            refine pv_icmp_eq (M := mX12_shortest) (tgt := 117) dX12_shortest_105 108 rfl (by decide) (fun c105 => ?_) (fun c105 => ?_)
                            · have c105 := iv_eq (X := v101.toInt) (Y := v104.toInt) c105 rfl rfl
                              have kN : SL m80 (pn m80) (v25.toInt - y50.toInt - 1) := SL_next kgS2 (by omega) kA1 kS k163 (by omega)
                              refine pv_iload (M := mX12_shortest) dX12_shortest_117 119 rfl rfl ?_
                              refine pv_iload_n (M := mX12_shortest) 2 dX12_shortest_119 120 rfl rfl rfl ?_
                              refine pv_icmp_ne (M := mX12_shortest) (tgt := 126) dX12_shortest_120 123 rfl (by decide) (fun c107 => ?_) (fun c107 => ?_)
                              · have c107 := iv_ne (X := y50.toInt) (Y := x1.toInt) c107 rfl rfl
                                refine pv_iconst (M := mX12_shortest) (v := 0) dX12_shortest_126 127 rfl (by decide) ?_
                                refine pv_istore (M := mX12_shortest) (lo2 := [.ref 123, .int x0, .int x1, .int v25, .int y50, .int y64, .int 0]) dX12_shortest_127 129 rfl (by decide) rfl rfl ?_
                                have lp114 : ∀ (fuel113 : Nat) (y108 : Int32) (m109 : Nat → Nat → Int32) (n110 : Nat → Nat → Int64), (0 ≤ y108.toInt) → (y108.toInt ≤ 4) → (SL m109 (pn m109) (v25.toInt - y50.toInt - 1)) → (∀ q : Nat, (q : Int) < y108.toInt → (m109 158 q).toInt = (m109 159 q).toInt) → IV BB m109 → fr (wl [(123, 123, some 50), (157, 157, none), (158, 158, none), (159, 159, none), (163, 163, none)]) m m109 → ((4 - y108.toInt) : Int).toNat < fuel113 → PV none g mX12_shortest (sqI T BB (wl [(123, 123, some 50), (157, 157, none), (158, 158, none), (159, 159, none), (163, 163, none)]) r m (-2147483648) 2147483647 (fun m' v => True)) 5 0 0 129 [.ref 123, .int x0, .int x1, .int v25, .int y50, .int y64, .int y108] [] (mk T m109 n110 r) := by
                                  intro fuel113
                                  induction fuel113 with
                                  | zero => intro y108 m109 n110 b116 b117 b118 b119 I111 K112 z120; omega
                                  | succ fuel113 ih115 =>
                                    intro y108 m109 n110 b116 b117 b118 b119 I111 K112 z120
                                    have kg129 := (show SL m109 (pn m109) (v25.toInt - y50.toInt - 1) by assumption)
                                    have kgc := (show ∀ q : Nat, (q : Int) < y108.toInt → (m109 158 q).toInt = (m109 159 q).toInt by assumption)
                                    refine pv_iload (M := mX12_shortest) dX12_shortest_129 131 rfl rfl ?_
                                    refine pv_iconst (M := mX12_shortest) (v := 4) dX12_shortest_131 132 rfl (by decide) ?_
                                    refine pv_icmp_ge (M := mX12_shortest) (tgt := 155) dX12_shortest_132 135 rfl (by decide) (fun c123 => ?_) (fun c123 => ?_)
                                    · have c123 := iv_le (X := 4) (Y := y108.toInt) c123 (by decide) rfl
                                      refine iv_inc (M := mX12_shortest) (C := 1) dX12_shortest_155 158 rfl rfl (by decide) rfl rfl (by decide) (by omega) (by omega) (fun v124 ev124 => ?_)
                                      show PV _ _ _ _ _ _ _ 158 [.ref 123, .int x0, .int x1, .int v25, .int v124, .int y64, .int y108] [] _
                                      refine pv_goto (M := mX12_shortest) (tgt := 78) dX12_shortest_158 (by decide) ?_
                                      refine pv_fg (lo2 := [.ref 123, .int x0, .int x1, .int v25, .int v124, pv_U, pv_U]) ⟨Or.inr rfl, ⟨Or.inr rfl, ⟨Or.inr rfl, ⟨Or.inr rfl, ⟨Or.inr rfl, ⟨Or.inl rfl, ⟨Or.inl rfl, trivial⟩⟩⟩⟩⟩⟩⟩ ?_
                                      have kb78 : SL m109 (pa m109) (v25.toInt - v124.toInt) := by rw [show v25.toInt - v124.toInt = v25.toInt - y50.toInt - 1 by omega]; exact SL_p kg129 (fun q hq => kgc q (by omega))
                                      exact ih57 v124 m109 n110 (by first | omega | assumption | exact (iv_rng _).2 | exact (iv_rng _).1 | decide) (by first | omega | assumption | exact (iv_rng _).2 | exact (iv_rng _).1 | decide) (by first | omega | assumption | (show v124.toInt ≤ x1.toInt; omega) | decide) kb78 I111 K112 (by omega)
                                    · have c123 := iv_nle (X := 4) (Y := y108.toInt) c123 (by decide) rfl
                                      refine pv_aload_n (M := mX12_shortest) 0 dX12_shortest_135 136 rfl rfl rfl ?_
                                      refine mv_get (M := mX12_shortest) (v := .ref 158) dX12_shortest_136 FX12 52 wd1225 (by decide) (tl123 hT) rfl rfl 139 rfl ?_
                                      refine pv_iload (M := mX12_shortest) dX12_shortest_139 141 rfl rfl ?_
                                      refine pv_aload_n (M := mX12_shortest) 0 dX12_shortest_141 142 rfl rfl rfl ?_
                                      refine mv_get (M := mX12_shortest) (v := .ref 159) dX12_shortest_142 FX12 53 wd1226 (by decide) (tl123 hT) rfl rfl 145 rfl ?_
                                      refine pv_iload (M := mX12_shortest) dX12_shortest_145 147 rfl rfl ?_
                                      refine iv_iald (M := mX12_shortest) (X := y108.toInt) (l1 := 0) (l2 := 17) dX12_shortest_147 (tl159 hT) rfl (by omega) (by omega) I111 (fun _ => rfl) 148 rfl (fun v126 ev126 pv126 qv126 => ?_)
                                      have k148 : v126.toInt = pn m109 y108.toInt.toNat := congrArg Int32.toInt ev126
                                      have k148b := OK12 kg129.2.2.1 kg129.1 y108.toInt.toNat (by omega)
                                      refine iv_iast (M := mX12_shortest) (X := y108.toInt) (l1 := 0) (l2 := 16) dX12_shortest_148 (tl158 hT) rfl (by omega) (by omega) I111 (fun _ => rfl) (by omega) (by omega) 149 rfl (fun m129 e132 I130 => ?_)
                                      have K131 := K112.set e132 rfl
                                      have k149 := (e132).trans (up2_ix (j := y108.toInt.toNat) (by omega))
                                      have kpn : pn m129 = pn m109 := funext fun q => by unfold pn; rw [e132, up2_ne (by omega)]
                                      have kb129 : SL m129 (pn m129) (v25.toInt - y50.toInt - 1) := by rw [kpn]; exact SL_st kg129 e132 (by omega) (by omega)
                                      have kcs := P_set kgc k149 k148 (by omega)
                                      refine iv_inc (M := mX12_shortest) (C := 1) dX12_shortest_149 152 rfl rfl (by decide) rfl rfl (by decide) (by omega) (by omega) (fun v137 ev137 => ?_)
                                      show PV _ _ _ _ _ _ _ 152 [.ref 123, .int x0, .int x1, .int v25, .int y50, .int y64, .int v137] [] _
                                      refine pv_goto (M := mX12_shortest) (tgt := 129) dX12_shortest_152 (by decide) ?_
                                      have kc129 : ∀ q : Nat, (q : Int) < v137.toInt → (m129 158 q).toInt = (m129 159 q).toInt := by rw [show v137.toInt = y108.toInt + 1 by omega]; exact kcs
                                      exact ih115 v137 m129 n110 (by first | omega | assumption | exact (iv_rng _).2 | exact (iv_rng _).1 | decide) (by first | omega | assumption | exact (iv_rng _).2 | exact (iv_rng _).1 | decide) kb129 kc129 I130 K131 (by omega)
                                have z139 : (0 : Int32).toInt = 0 := by decide
                                exact lp114 (((4 - 0) : Int).toNat + 1) 0 m80 n81 (by first | omega | assumption | exact (iv_rng _).2 | exact (iv_rng _).1 | decide) (by first | omega | assumption | exact (iv_rng _).2 | exact (iv_rng _).1 | decide) kN (fun q a => by rw [Int32.toInt_zero] at a; omega) I82 K83 (by omega)
                              · have c107 := iv_eq (X := y50.toInt) (Y := x1.toInt) c107 rfl rfl
                                refine pv_iload (M := mX12_shortest) dX12_shortest_123 125 rfl rfl ?_
                                exact pv_iret (M := mX12_shortest) dX12_shortest_125 rfl rfl ⟨_, _, _, rfl, rfl, I82, K83, (iv_rng y64).1, (iv_rng y64).2, trivial⟩
                            · have c105 := iv_ne (X := v101.toInt) (Y := v104.toInt) c105 rfl rfl
                              refine pv_iload (M := mX12_shortest) dX12_shortest_108 110 rfl rfl ?_
                              refine pv_iconst (M := mX12_shortest) (v := 1) dX12_shortest_110 111 rfl (by decide) ?_
                              refine iv_iadd (M := mX12_shortest) (X := y64.toInt) (Y := 1) dX12_shortest_111 112 rfl rfl (by decide) (by omega) (by omega) (fun v140 ev140 => ?_)
                              refine pv_istore (M := mX12_shortest) (lo2 := [.ref 123, .int x0, .int x1, .int v25, .int y50, .int v140, pv_U]) dX12_shortest_112 114 rfl (by decide) rfl rfl ?_
                              refine pv_goto (M := mX12_shortest) (tgt := 81) dX12_shortest_114 (by decide) ?_
                              have kwb : SW1 m80 (pa m80) v140.toInt (v25.toInt - y50.toInt) := by rw [kpa, show v140.toInt = y64.toInt + 1 by omega]; exact SW1_eq kS k163 (SW1.step kgW (by first | exact Or.inl (by omega) | exact Or.inr (by omega)))
                              have kx : v140.toInt ≤ 25 := kwb.le
                              exact ih71 v140 m80 n81 (by first | omega | assumption | exact (iv_rng _).2 | exact (iv_rng _).1 | decide) (by first | omega | assumption | exact (iv_rng _).2 | exact (iv_rng _).1 | decide) kb81 kwb I82 K83 (by omega)
                      have z143 : (0 : Int32).toInt = 0 := by decide
                      have kw0 : SW1 m51 (pa m51) (0 : Int32).toInt (v25.toInt - y50.toInt) := by rw [Int32.toInt_zero]; exact SW1.start kgS (by omega)
                      exact lp70 (((25 - 0) : Int).toNat + 1) 0 m51 n52 (by first | omega | assumption | exact (iv_rng _).2 | exact (iv_rng _).1 | decide) (by first | omega | assumption | exact (iv_rng _).2 | exact (iv_rng _).1 | decide) kgS kw0 I53 K54 (by omega)
                  have z145 : (0 : Int32).toInt = 0 := by decide
                  have kin78 : SL m30 (pa m30) (v25.toInt - (0 : Int32).toInt) := by rw [Int32.toInt_zero]; exact SL_start kgL kgF kZ4 (by omega)
                  exact lp56 (((x1.toInt - 0) : Int).toNat + 1) 0 m30 n31 (by first | omega | assumption | exact (iv_rng _).2 | exact (iv_rng _).1 | decide) (by first | omega | assumption | exact (iv_rng _).2 | exact (iv_rng _).1 | decide) (by first | omega | assumption | (show 0 ≤ x1.toInt; omega) | decide) kin78 I32 K33 (by omega)
                · have c48 := iv_nle (X := 4) (Y := y29.toInt) c48 (by decide) rfl
                  refine pv_aload_n (M := mX12_shortest) 0 dX12_shortest_61 62 rfl rfl rfl ?_
                  refine mv_get (M := mX12_shortest) (v := .ref 158) dX12_shortest_62 FX12 52 wd1225 (by decide) (tl123 hT) rfl rfl 65 rfl ?_
                  refine pv_iload (M := mX12_shortest) dX12_shortest_65 67 rfl rfl ?_
                  refine pv_iconst (M := mX12_shortest) (v := 0) dX12_shortest_67 68 rfl (by decide) ?_
                  refine iv_iast (M := mX12_shortest) (X := y29.toInt) (l1 := 0) (l2 := 16) dX12_shortest_68 (tl158 hT) rfl (by omega) (by omega) I32 (fun _ => rfl) (by decide) (by decide) 69 rfl (fun m147 e150 I148 => ?_)
                  have K149 := K33.set e150 rfl
                  have k69 := (e150).trans (up2_ix (j := y29.toInt.toNat) (by omega))
                  have kf55 := SHp_st kgF e150 (by omega) (by omega)
                  have kl55 := LO12_eq (HSAME.set e150 (by omega)) kgL
                  have kz69 := Z_set kgZ k69 Int32.toInt_zero (by omega)
                  have k163b : (m147 163 0).toInt = v25.toInt := by rw [e150, up2_ne (by omega)]; exact kg163
                  refine iv_inc (M := mX12_shortest) (C := 1) dX12_shortest_69 72 rfl rfl (by decide) rfl rfl (by decide) (by omega) (by omega) (fun v156 ev156 => ?_)
                  show PV _ _ _ _ _ _ _ 72 [.ref 123, .int x0, .int x1, .int v25, .int v156, pv_U, pv_U] [] _
                  refine pv_goto (M := mX12_shortest) (tgt := 55) dX12_shortest_72 (by decide) ?_
                  have kz55 : ∀ q : Nat, (q : Int) < v156.toInt → (m147 158 q).toInt = 0 := by rw [show v156.toInt = y29.toInt + 1 by omega]; exact kz69
                  exact ih36 v156 m147 n31 (by first | omega | assumption | exact (iv_rng _).2 | exact (iv_rng _).1 | decide) (by first | omega | assumption | exact (iv_rng _).2 | exact (iv_rng _).1 | decide) kf55 kl55 kz55 k163b I148 K149 (by omega)
            have z158 : (0 : Int32).toInt = 0 := by decide
            exact lp35 (((4 - 0) : Int).toNat + 1) 0 m18 n19 (by first | omega | assumption | exact (iv_rng _).2 | exact (iv_rng _).1 | decide) (by first | omega | assumption | exact (iv_rng _).2 | exact (iv_rng _).1 | decide) kF kl1 (fun q a => by rw [Int32.toInt_zero] at a; omega) k37 I20 K21 (by omega)
          · have c28 := iv_nlt (X := x1.toInt) (Y := v25.toInt) c28 rfl rfl
            refine pv_iconst (M := mX12_shortest) (v := (-1)) dX12_shortest_50 51 rfl (by decide) ?_
            exact pv_iret (M := mX12_shortest) dX12_shortest_51 rfl rfl ⟨_, _, _, rfl, rfl, I20, K21, by decide, by decide, trivial⟩
        · have c27 := iv_eq (X := x1.toInt) (Y := (-1)) c27 rfl (by decide)
          refine pv_iload_n (M := mX12_shortest) 3 dX12_shortest_43 44 rfl rfl rfl ?_
          exact pv_iret (M := mX12_shortest) dX12_shortest_44 rfl rfl ⟨_, _, _, rfl, rfl, I20, K21, (iv_rng v25).1, (iv_rng v25).2, trivial⟩
      · have c14 := iv_ne (X := v12.toInt) (Y := 0) c14 rfl (by decide)
        refine pv_bipush (M := mX12_shortest) (v := (-2)) dX12_shortest_24 26 rfl (by decide) ?_
        exact pv_iret (M := mX12_shortest) dX12_shortest_26 rfl rfl ⟨_, _, _, rfl, rfl, I6, K7, by decide, by decide, trivial⟩
    · have c10 := iv_nle (X := (-1)) (Y := x1.toInt) c10 (by decide) rfl
      refine pv_iconst (M := mX12_shortest) (v := (-1)) dX12_shortest_15 16 rfl (by decide) ?_
      exact pv_iret (M := mX12_shortest) dX12_shortest_16 rfl rfl ⟨_, _, _, rfl, rfl, I6, K7, by decide, by decide, trivial⟩

set_option maxHeartbeats 2000000 in
set_option maxRecDepth 20000 in
theorem s_X12_shortestMany (g : pv_G) {T : List mv_T} {m : Nat → Nat → Int32} {n : Nat → Nat → Int64} {r : Nat → Value} (hT : TX T) (I : IV BB m) (x0 : Int32) : PM g mX12_shortestMany yX12_shortestMany (sqJ T BB (wl [(123, 123, some 50), (157, 157, none), (158, 158, none), (159, 159, none), (163, 163, none)]) r m (fun m' => True)) 5 0 0 [.ref 123, .int x0] (mk T m n r) := by
  have Kp : fr (wl [(123, 123, some 50), (157, 157, none), (158, 158, none), (159, 159, none), (163, 163, none)]) m m := fr.rf
  refine PM.of 0 (lo := [.ref 123, .int x0]) rfl (by decide) rfl rfl (Nat.le_of_ble_eq_true rfl) ?_
  refine pv_aload_n (M := mX12_shortestMany) 0 dX12_shortestMany_0 1 rfl rfl rfl ?_
  refine pv_iload_n (M := mX12_shortestMany) 1 dX12_shortestMany_1 2 rfl rfl rfl ?_
  refine pv_iconst (M := mX12_shortestMany) (v := 2) dX12_shortestMany_2 3 rfl (by decide) ?_
  refine pv_iconst (M := mX12_shortestMany) (v := 4) dX12_shortestMany_3 4 rfl (by decide) ?_
  have z1 : (2 : Int32).toInt = 2 := by decide
  have z2 : (4 : Int32).toInt = 4 := by decide
  refine pv_callv (M := mX12_shortestMany) (as := [.int x0, .int 2, .int 4]) (st := []) (kc2 := 0) (ks2 := 0) dX12_shortestMany_4 wd1622 YX12_spreads ⟨wd1624, wd96⟩ (mk_get (tl123 hT)) rfl rfl (s_X12_spreads g hT I x0 2 (by decide) (by decide) 4 (by decide) (by decide)) rfl rfl (Nat.le_of_ble_eq_true rfl) (by decide) rfl rfl 7 rfl (fun rv h1 q3 => ?_)
  obtain ⟨m4, n5, v8, rfl, rfl, I6, K7, pv8, qv8, rv8⟩ := q3
  replace rv8 : (v8.toInt = 0 ∧ m4 = m) ∨ (v8.toInt = 1 ∧ CHI m4 x0 8 ∧ CHA m4 x0 8 ∧ (2 : Int) ≤ (m4 123 50).toInt ∧ (m4 123 50).toInt ≤ (4 : Int)) := by have q_ := rv8; (try rw [z1] at q_); (try rw [z2] at q_); exact q_
  have K7c := K7
  have K7 := Kp.trans (K7.sub (wl_sub (by decide)))
  show PV _ _ _ _ _ _ _ 7 [.ref 123, .int x0] [.int v8] _
  refine pv_if_ne (M := mX12_shortestMany) (tgt := 14) dX12_shortestMany_7 10 rfl (by decide) (fun c9 => ?_) (fun c9 => ?_)
  · have c9 := iv_ne (X := v8.toInt) (Y := 0) c9 rfl (by decide)
    refine pv_aload_n (M := mX12_shortestMany) 0 dX12_shortestMany_14 15 rfl rfl rfl ?_
    refine pv_callv (M := mX12_shortestMany) (as := []) (st := []) (kc2 := 0) (ks2 := 0) dX12_shortestMany_15 wd1660 YX12_isTooLong ⟨wd1662, wd103⟩ (mk_get (tl123 hT)) rfl rfl (s_X12_isTooLong g hT I6) rfl rfl (Nat.le_of_ble_eq_true rfl) (by decide) rfl rfl 18 rfl (fun rv h1 q10 => ?_)
    obtain ⟨v11, rfl, rfl, pv11, qv11, rv11⟩ := q10
    replace rv11 : v11.toInt = 1 ∨ LO12 m4 := rv11
    show PV _ _ _ _ _ _ _ 18 [.ref 123, .int x0] [.int v11] _
    have k18 := rv11
    refine pv_if_eq (M := mX12_shortestMany) (tgt := 25) dX12_shortestMany_18 21 rfl (by decide) (fun c13 => ?_) (fun c13 => ?_)
    · have c13 := iv_eq (X := v11.toInt) (Y := 0) c13 rfl (by decide)
      have kl := k18.resolve_left (fun q => by omega)
      clear k18
      refine pv_aload_n (M := mX12_shortestMany) 0 dX12_shortestMany_25 26 rfl rfl rfl ?_
      refine pv_callv (M := mX12_shortestMany) (as := []) (st := []) (kc2 := 0) (ks2 := 0) dX12_shortestMany_26 wd1664 YX12_laysShort ⟨wd1666, wd104⟩ (mk_get (tl123 hT)) rfl rfl (s_X12_laysShort g hT I6 kl) rfl rfl (Nat.le_of_ble_eq_true rfl) (by decide) rfl rfl 29 rfl (fun rv h1 q16 => ?_)
      obtain ⟨m17, n18, rfl, rfl, I19, K20, rm17⟩ := q16
      replace rm17 : SHp m17 (-1) 16 16 16 := rm17
      have K20c := K20
      have K20 := K7.trans (K20.sub (wl_sub (by decide)))
      show PV _ _ _ _ _ _ _ 29 [.ref 123, .int x0] [] _
      refine pv_aload_n (M := mX12_shortestMany) 0 dX12_shortestMany_29 30 rfl rfl rfl ?_
      refine mv_get (M := mX12_shortestMany) (v := .ref 164) dX12_shortestMany_30 FX12 58 wd1231 (by decide) (tl123 hT) rfl rfl 33 rfl ?_
      refine pv_iconst (M := mX12_shortestMany) (v := 0) dX12_shortestMany_33 34 rfl (by decide) ?_
      refine iv_lald (M := mX12_shortestMany) (X := 0) dX12_shortestMany_34 (tl164 hT) (by decide) (by omega) (by omega) 35 rfl (fun v21 ev21 => ?_)
      exact pv_lret (M := mX12_shortestMany) dX12_shortestMany_35 rfl ⟨_, _, _, rfl, rfl, I19, K20, trivial⟩
    · have c13 := iv_ne (X := v11.toInt) (Y := 0) c13 rfl (by decide)
      refine pv_ldc2 (M := mX12_shortestMany) (v := (-2)) dX12_shortestMany_21 24 rfl wd1687 ?_
      exact pv_lret (M := mX12_shortestMany) dX12_shortestMany_24 rfl ⟨_, _, _, rfl, rfl, I6, K7, trivial⟩
  · have c9 := iv_eq (X := v8.toInt) (Y := 0) c9 rfl (by decide)
    refine pv_ldc2 (M := mX12_shortestMany) (v := (-1)) dX12_shortestMany_10 13 rfl wd1562 ?_
    exact pv_lret (M := mX12_shortestMany) dX12_shortestMany_13 rfl ⟨_, _, _, rfl, rfl, I6, K7, trivial⟩

set_option maxHeartbeats 2000000 in
set_option maxRecDepth 20000 in
theorem s_X12_bound (g : pv_G) {T : List mv_T} {m : Nat → Nat → Int32} {n : Nat → Nat → Int64} {r : Nat → Value} (hT : TX T) (I : IV BB m) (x0 : Int32) : PM g mX12_bound yX12_bound (sqI T BB (wl [(123, 123, some 50), (157, 157, none), (158, 158, none), (159, 159, none), (163, 163, none)]) r m (-2147483648) 2147483647 (fun m' v => True)) 5 0 0 [.ref 123, .int x0] (mk T m n r) := by
  have Kp : fr (wl [(123, 123, some 50), (157, 157, none), (158, 158, none), (159, 159, none), (163, 163, none)]) m m := fr.rf
  refine PM.of 3 (lo := [.ref 123, .int x0, pv_U, pv_U, pv_U]) rfl (by decide) rfl rfl (Nat.le_of_ble_eq_true rfl) ?_
  refine pv_aload_n (M := mX12_bound) 0 dX12_bound_0 1 rfl rfl rfl ?_
  refine pv_iload_n (M := mX12_bound) 1 dX12_bound_1 2 rfl rfl rfl ?_
  refine pv_iconst (M := mX12_bound) (v := 2) dX12_bound_2 3 rfl (by decide) ?_
  refine pv_iconst (M := mX12_bound) (v := 4) dX12_bound_3 4 rfl (by decide) ?_
  have z1 : (2 : Int32).toInt = 2 := by decide
  have z2 : (4 : Int32).toInt = 4 := by decide
  refine pv_callv (M := mX12_bound) (as := [.int x0, .int 2, .int 4]) (st := []) (kc2 := 0) (ks2 := 0) dX12_bound_4 wd1622 YX12_spreads ⟨wd1624, wd96⟩ (mk_get (tl123 hT)) rfl rfl (s_X12_spreads g hT I x0 2 (by decide) (by decide) 4 (by decide) (by decide)) rfl rfl (Nat.le_of_ble_eq_true rfl) (by decide) rfl rfl 7 rfl (fun rv h1 q3 => ?_)
  obtain ⟨m4, n5, v8, rfl, rfl, I6, K7, pv8, qv8, rv8⟩ := q3
  replace rv8 : (v8.toInt = 0 ∧ m4 = m) ∨ (v8.toInt = 1 ∧ CHI m4 x0 8 ∧ CHA m4 x0 8 ∧ (2 : Int) ≤ (m4 123 50).toInt ∧ (m4 123 50).toInt ≤ (4 : Int)) := by have q_ := rv8; (try rw [z1] at q_); (try rw [z2] at q_); exact q_
  have K7c := K7
  have K7 := Kp.trans (K7.sub (wl_sub (by decide)))
  show PV _ _ _ _ _ _ _ 7 [.ref 123, .int x0, pv_U, pv_U, pv_U] [.int v8] _
  have k7 := rv8
  refine pv_if_ne (M := mX12_bound) (tgt := 12) dX12_bound_7 10 rfl (by decide) (fun c10 => ?_) (fun c10 => ?_)
  · have c10 := iv_ne (X := v8.toInt) (Y := 0) c10 rfl (by decide)
    have k12 := k7.resolve_left (fun q => by omega)
    clear k7
    refine pv_aload_n (M := mX12_bound) 0 dX12_bound_12 13 rfl rfl rfl ?_
    refine pv_callv (M := mX12_bound) (as := []) (st := []) (kc2 := 0) (ks2 := 0) dX12_bound_13 wd1660 YX12_isTooLong ⟨wd1662, wd103⟩ (mk_get (tl123 hT)) rfl rfl (s_X12_isTooLong g hT I6) rfl rfl (Nat.le_of_ble_eq_true rfl) (by decide) rfl rfl 16 rfl (fun rv h1 q13 => ?_)
    obtain ⟨v14, rfl, rfl, pv14, qv14, rv14⟩ := q13
    replace rv14 : v14.toInt = 1 ∨ LO12 m4 := rv14
    show PV _ _ _ _ _ _ _ 16 [.ref 123, .int x0, pv_U, pv_U, pv_U] [.int v14] _
    have k16 := rv14
    refine pv_if_eq (M := mX12_bound) (tgt := 22) dX12_bound_16 19 rfl (by decide) (fun c16 => ?_) (fun c16 => ?_)
    · have c16 := iv_eq (X := v14.toInt) (Y := 0) c16 rfl (by decide)
      have kl := k16.resolve_left (fun q => by omega)
      have kD0 := D12_of k12.2.2.1 kl
      have kD : D12 m x0 := fun k a b c => by rw [← K7 126 k.toNat rfl]; exact kD0 k a b c
      have kC0 := k12.2.1
      clear k12 k16
      refine pv_iconst (M := mX12_bound) (v := 0) dX12_bound_22 23 rfl (by decide) ?_
      refine pv_istore_n (M := mX12_bound) 2 (lo2 := [.ref 123, .int x0, .int 0, pv_U, pv_U]) dX12_bound_23 24 rfl rfl (by decide) rfl rfl ?_
      refine pv_iconst (M := mX12_bound) (v := 0) dX12_bound_24 25 rfl (by decide) ?_
      refine pv_istore_n (M := mX12_bound) 3 (lo2 := [.ref 123, .int x0, .int 0, .int 0, pv_U]) dX12_bound_25 26 rfl rfl (by decide) rfl rfl ?_
      have lp29 : ∀ (fuel28 : Nat) (y22 : Int32) (y23 : Int32) (m24 : Nat → Nat → Int32) (n25 : Nat → Nat → Int64), (0 ≤ y22.toInt) → (y22.toInt ≤ 1000000000) → (0 ≤ y23.toInt) → (y23.toInt ≤ 8) → (CHI m24 x0 8) → IV BB m24 → fr (wl [(123, 123, some 50), (157, 157, none), (158, 158, none), (159, 159, none), (163, 163, none)]) m m24 → ((8 - y23.toInt) : Int).toNat < fuel28 → PV none g mX12_bound (sqI T BB (wl [(123, 123, some 50), (157, 157, none), (158, 158, none), (159, 159, none), (163, 163, none)]) r m (-2147483648) 2147483647 (fun m' v => True)) 5 0 0 26 [.ref 123, .int x0, .int y22, .int y23, pv_U] [] (mk T m24 n25 r) := by
        intro fuel28
        induction fuel28 with
        | zero => intro y22 y23 m24 n25 b31 b32 b33 b34 b35 I26 K27 z36; omega
        | succ fuel28 ih30 =>
          intro y22 y23 m24 n25 b31 b32 b33 b34 b35 I26 K27 z36
          have kg26 := (show CHI m24 x0 8 by assumption)
          refine pv_iload_n (M := mX12_bound) 3 dX12_bound_26 27 rfl rfl rfl ?_
          refine pv_bipush (M := mX12_bound) (v := 8) dX12_bound_27 29 rfl (by decide) ?_
          refine pv_icmp_ge (M := mX12_bound) (tgt := 116) dX12_bound_29 32 rfl (by decide) (fun c38 => ?_) (fun c38 => ?_)
          · have c38 := iv_le (X := 8) (Y := y23.toInt) c38 (by decide) rfl
            refine pv_iload_n (M := mX12_bound) 2 dX12_bound_116 117 rfl rfl rfl ?_
            exact pv_iret (M := mX12_bound) dX12_bound_117 rfl rfl ⟨_, _, _, rfl, rfl, I26, K27, (iv_rng y22).1, (iv_rng y22).2, trivial⟩
          · have c38 := iv_nle (X := 8) (Y := y23.toInt) c38 (by decide) rfl
            refine pv_iload_n (M := mX12_bound) 3 dX12_bound_32 33 rfl rfl rfl ?_
            refine pv_iconst (M := mX12_bound) (v := 1) dX12_bound_33 34 rfl (by decide) ?_
            refine iv_iadd (M := mX12_bound) (X := y23.toInt) (Y := 1) dX12_bound_34 35 rfl rfl (by decide) (by omega) (by omega) (fun v39 ev39 => ?_)
            refine pv_istore (M := mX12_bound) (lo2 := [.ref 123, .int x0, .int y22, .int y23, .int v39]) dX12_bound_35 37 rfl (by decide) rfl rfl ?_
            have lp47 : ∀ (fuel46 : Nat) (y40 : Int32) (y41 : Int32) (m42 : Nat → Nat → Int32) (n43 : Nat → Nat → Int64), (0 ≤ y40.toInt) → (y40.toInt ≤ 1000000000) → (1 ≤ y41.toInt) → (y41.toInt ≤ 8) → (CHI m42 x0 8) → IV BB m42 → fr (wl [(123, 123, some 50), (157, 157, none), (158, 158, none), (159, 159, none), (163, 163, none)]) m m42 → ((8 - y41.toInt) : Int).toNat < fuel46 → PV none g mX12_bound (sqI T BB (wl [(123, 123, some 50), (157, 157, none), (158, 158, none), (159, 159, none), (163, 163, none)]) r m (-2147483648) 2147483647 (fun m' v => True)) 5 0 0 37 [.ref 123, .int x0, .int y40, .int y23, .int y41] [] (mk T m42 n43 r) := by
              intro fuel46
              induction fuel46 with
              | zero => intro y40 y41 m42 n43 b49 b50 b51 b52 b53 I44 K45 z54; omega
              | succ fuel46 ih48 =>
                intro y40 y41 m42 n43 b49 b50 b51 b52 b53 I44 K45 z54
                have kg37 := (show CHI m42 x0 8 by assumption)
                refine pv_iload (M := mX12_bound) dX12_bound_37 39 rfl rfl ?_
                refine pv_bipush (M := mX12_bound) (v := 8) dX12_bound_39 41 rfl (by decide) ?_
                refine pv_icmp_ge (M := mX12_bound) (tgt := 110) dX12_bound_41 44 rfl (by decide) (fun c56 => ?_) (fun c56 => ?_)
                · have c56 := iv_le (X := 8) (Y := y41.toInt) c56 (by decide) rfl
                  refine iv_inc (M := mX12_bound) (C := 1) dX12_bound_110 113 rfl rfl (by decide) rfl rfl (by decide) (by omega) (by omega) (fun v57 ev57 => ?_)
                  show PV _ _ _ _ _ _ _ 113 [.ref 123, .int x0, .int y40, .int v57, .int y41] [] _
                  refine pv_goto (M := mX12_bound) (tgt := 26) dX12_bound_113 (by decide) ?_
                  refine pv_fg (lo2 := [.ref 123, .int x0, .int y40, .int v57, pv_U]) ⟨Or.inr rfl, ⟨Or.inr rfl, ⟨Or.inr rfl, ⟨Or.inr rfl, ⟨Or.inl rfl, trivial⟩⟩⟩⟩⟩ ?_
                  have kb26 := kg37
                  exact ih30 y40 v57 m42 n43 (by first | omega | assumption | exact (iv_rng _).2 | exact (iv_rng _).1 | decide) (by first | omega | assumption | exact (iv_rng _).2 | exact (iv_rng _).1 | decide) (by first | omega | assumption | exact (iv_rng _).2 | exact (iv_rng _).1 | decide) (by first | omega | assumption | exact (iv_rng _).2 | exact (iv_rng _).1 | decide) kb26 I44 K45 (by omega)
                · have c56 := iv_nle (X := 8) (Y := y41.toInt) c56 (by decide) rfl
                  refine pv_iload_n (M := mX12_bound) 1 dX12_bound_44 45 rfl rfl rfl ?_
                  refine pv_iload_n (M := mX12_bound) 3 dX12_bound_45 46 rfl rfl rfl ?_
                  refine iv_shrU (M := mX12_bound) dX12_bound_46 47 rfl (fun v59 ev59 => ?_)
                  have k47 := ev59
                  refine pv_iconst (M := mX12_bound) (v := 1) dX12_bound_47 48 rfl (by decide) ?_
                  refine iv_iandm (M := mX12_bound) dX12_bound_48 49 rfl 1 (by decide) (by decide) (fun v61 ev61 pv61 qv61 => ?_)
                  have qv61 : v61.toInt < 2 := qv61
                  have k49 := bt_of k47 ev61
                  refine pv_if_eq (M := mX12_bound) (tgt := 104) dX12_bound_49 52 rfl (by decide) (fun c63 => ?_) (fun c63 => ?_)
                  · have c63 := iv_eq (X := v61.toInt) (Y := 0) c63 rfl (by decide)
                    refine iv_inc (M := mX12_bound) (C := 1) dX12_bound_104 107 rfl rfl (by decide) rfl rfl (by decide) (by omega) (by omega) (fun v64 ev64 => ?_)
                    show PV _ _ _ _ _ _ _ 107 [.ref 123, .int x0, .int y40, .int y23, .int v64] [] _
                    refine pv_goto (M := mX12_bound) (tgt := 37) dX12_bound_107 (by decide) ?_
                    have kb37 : CHI m42 x0 8 := by first | exact kC2 | exact kg37
                    exact ih48 y40 v64 m42 n43 (by first | omega | assumption | exact (iv_rng _).2 | exact (iv_rng _).1 | decide) (by first | omega | assumption | exact (iv_rng _).2 | exact (iv_rng _).1 | decide) (by first | omega | assumption | exact (iv_rng _).2 | exact (iv_rng _).1 | decide) (by first | omega | assumption | exact (iv_rng _).2 | exact (iv_rng _).1 | decide) kb37 I44 K45 (by omega)
                  · have c63 := iv_ne (X := v61.toInt) (Y := 0) c63 rfl (by decide)
                    refine pv_iload_n (M := mX12_bound) 1 dX12_bound_52 53 rfl rfl rfl ?_
                    refine pv_iload (M := mX12_bound) dX12_bound_53 55 rfl rfl ?_
                    refine iv_shrU (M := mX12_bound) dX12_bound_55 56 rfl (fun v66 ev66 => ?_)
                    have k56 := ev66
                    refine pv_iconst (M := mX12_bound) (v := 1) dX12_bound_56 57 rfl (by decide) ?_
                    refine iv_iandm (M := mX12_bound) dX12_bound_57 58 rfl 1 (by decide) (by decide) (fun v68 ev68 pv68 qv68 => ?_)
                    have qv68 : v68.toInt < 2 := qv68
                    have k58 := bt_of k56 ev68
                    refine pv_if_ne (M := mX12_bound) (tgt := 64) dX12_bound_58 61 rfl (by decide) (fun c70 => ?_) (fun c70 => ?_)
                    · have c70 := iv_ne (X := v68.toInt) (Y := 0) c70 rfl (by decide)
                      refine pv_aload_n (M := mX12_bound) 0 dX12_bound_64 65 rfl rfl rfl ?_
                      refine pv_iconst (M := mX12_bound) (v := 1) dX12_bound_65 66 rfl (by decide) ?_
                      refine pv_iload_n (M := mX12_bound) 3 dX12_bound_66 67 rfl rfl rfl ?_
                      refine iv_shlU (M := mX12_bound) dX12_bound_67 68 rfl (fun v71 ev71 => ?_)
                      have pv71 : 1 ≤ v71.toInt ∧ v71.toInt ≤ 128 := by rw [ev71]; exact iv_sh17 (by omega) (by omega)
                      have k68 := ev71
                      refine pv_iconst (M := mX12_bound) (v := 1) dX12_bound_68 69 rfl (by decide) ?_
                      refine pv_iload (M := mX12_bound) dX12_bound_69 71 rfl rfl ?_
                      refine iv_shlU (M := mX12_bound) dX12_bound_71 72 rfl (fun v73 ev73 => ?_)
                      have pv73 : 1 ≤ v73.toInt ∧ v73.toInt ≤ 128 := by rw [ev73]; exact iv_sh17 (by omega) (by omega)
                      have k72 := ev73
                      refine iv_orU (M := mX12_bound) dX12_bound_72 73 rfl (fun v75 ev75 => ?_)
                      have pv75 : 0 ≤ v75.toInt ∧ v75.toInt ≤ 255 := by rw [ev75]; exact iv_or8 (by omega) (by omega) (by omega) (by omega)
                      have k73 := ev75
                      refine pv_iconst (M := mX12_bound) (v := 2) dX12_bound_73 74 rfl (by decide) ?_
                      refine pv_iconst (M := mX12_bound) (v := 2) dX12_bound_74 75 rfl (by decide) ?_
                      have z77 : (2 : Int32).toInt = 2 := by decide
                      have z78 : (2 : Int32).toInt = 2 := by decide
                      refine pv_callv (M := mX12_bound) (as := [.int v75, .int 2, .int 2]) (st := []) (kc2 := 0) (ks2 := 0) dX12_bound_75 wd1622 YX12_spreads ⟨wd1624, wd96⟩ (mk_get (tl123 hT)) rfl rfl (s_X12_spreads g hT I44 v75 2 (by decide) (by decide) 2 (by decide) (by decide)) rfl rfl (Nat.le_of_ble_eq_true rfl) (by decide) rfl rfl 78 rfl (fun rv h1 q79 => ?_)
                      obtain ⟨m80, n81, v84, rfl, rfl, I82, K83, pv84, qv84, rv84⟩ := q79
                      replace rv84 : (v84.toInt = 0 ∧ m80 = m42) ∨ (v84.toInt = 1 ∧ CHI m80 v75 8 ∧ CHA m80 v75 8 ∧ (2 : Int) ≤ (m80 123 50).toInt ∧ (m80 123 50).toInt ≤ (2 : Int)) := by have q_ := rv84; (try rw [z77] at q_); (try rw [z78] at q_); exact q_
                      have K83c := K83
                      have K83 := K45.trans (K83.sub (wl_sub (by decide)))
                      show PV _ _ _ _ _ _ _ 78 [.ref 123, .int x0, .int y40, .int y23, .int y41] [.int v84] _
                      have k78 := rv84
                      have kC : CHI m80 x0 8 := k78.elim (fun z => by rw [z.2]; exact kg37) (fun z => CHI_pair k68 k72 k73 z.2.1 ⟨by omega, by omega⟩ ⟨by omega, by omega⟩ (by omega) (by omega))
                      have kl2 : LO12 m80 := LO12_of kC kD (fun j => K83 126 j rfl) (fun j => (I82 126 j).1)
                      refine pv_pop (M := mX12_bound) dX12_bound_78 79 rfl rfl ?_
                      refine pv_aload_n (M := mX12_bound) 0 dX12_bound_79 80 rfl rfl rfl ?_
                      refine pv_callv (M := mX12_bound) (as := []) (st := []) (kc2 := 0) (ks2 := 0) dX12_bound_80 wd1664 YX12_laysShort ⟨wd1666, wd104⟩ (mk_get (tl123 hT)) rfl rfl (s_X12_laysShort g hT I82 kl2) rfl rfl (Nat.le_of_ble_eq_true rfl) (by decide) rfl rfl 83 rfl (fun rv h1 q88 => ?_)
                      obtain ⟨m89, n90, rfl, rfl, I91, K92, rm89⟩ := q88
                      replace rm89 : SHp m89 (-1) 16 16 16 := rm89
                      have K92c := K92
                      have K92 := K83.trans (K92.sub (wl_sub (by decide)))
                      show PV _ _ _ _ _ _ _ 83 [.ref 123, .int x0, .int y40, .int y23, .int y41] [] _
                      have kC2 : CHI m89 x0 8 := CHI_eq kC (K92c 123 50 rfl) (fun j => K92c 157 j rfl)
                      refine pv_aload_n (M := mX12_bound) 0 dX12_bound_83 84 rfl rfl rfl ?_
                      refine mv_get (M := mX12_bound) (v := .ref 163) dX12_bound_84 FX12 57 wd1230 (by decide) (tl123 hT) rfl rfl 87 rfl ?_
                      refine pv_iconst (M := mX12_bound) (v := 0) dX12_bound_87 88 rfl (by decide) ?_
                      refine iv_iald (M := mX12_bound) (X := 0) (l1 := 0) (l2 := 1000000000) dX12_bound_88 (tl163 hT) (by decide) (by omega) (by omega) I91 (fun _ => rfl) 89 rfl (fun v94 ev94 pv94 qv94 => ?_)
                      refine pv_iload_n (M := mX12_bound) 2 dX12_bound_89 90 rfl rfl rfl ?_
                      refine pv_icmp_le (M := mX12_bound) (tgt := 102) dX12_bound_90 93 rfl (by decide) (fun c95 => ?_) (fun c95 => ?_)
                      · have c95 := iv_le (X := v94.toInt) (Y := y40.toInt) c95 rfl rfl
                        refine pv_iload_n (M := mX12_bound) 2 dX12_bound_102 103 rfl rfl rfl ?_
                        refine pv_istore_n (M := mX12_bound) 2 (lo2 := [.ref 123, .int x0, .int y40, .int y23, .int y41]) dX12_bound_103 104 rfl rfl (by decide) rfl rfl ?_
                        refine iv_inc (M := mX12_bound) (C := 1) dX12_bound_104 107 rfl rfl (by decide) rfl rfl (by decide) (by omega) (by omega) (fun v96 ev96 => ?_)
                        show PV _ _ _ _ _ _ _ 107 [.ref 123, .int x0, .int y40, .int y23, .int v96] [] _
                        refine pv_goto (M := mX12_bound) (tgt := 37) dX12_bound_107 (by decide) ?_
                        have kb37 : CHI m89 x0 8 := by first | exact kC2 | exact kg37
                        exact ih48 y40 v96 m89 n90 (by first | omega | assumption | exact (iv_rng _).2 | exact (iv_rng _).1 | decide) (by first | omega | assumption | exact (iv_rng _).2 | exact (iv_rng _).1 | decide) (by first | omega | assumption | exact (iv_rng _).2 | exact (iv_rng _).1 | decide) (by first | omega | assumption | exact (iv_rng _).2 | exact (iv_rng _).1 | decide) kb37 I91 K92 (by omega)
                      · have c95 := iv_nle (X := v94.toInt) (Y := y40.toInt) c95 rfl rfl
                        refine pv_aload_n (M := mX12_bound) 0 dX12_bound_93 94 rfl rfl rfl ?_
                        refine mv_get (M := mX12_bound) (v := .ref 163) dX12_bound_94 FX12 57 wd1230 (by decide) (tl123 hT) rfl rfl 97 rfl ?_
                        refine pv_iconst (M := mX12_bound) (v := 0) dX12_bound_97 98 rfl (by decide) ?_
                        refine iv_iald (M := mX12_bound) (X := 0) (l1 := 0) (l2 := 1000000000) dX12_bound_98 (tl163 hT) (by decide) (by omega) (by omega) I91 (fun _ => rfl) 99 rfl (fun v98 ev98 pv98 qv98 => ?_)
                        refine pv_goto (M := mX12_bound) (tgt := 103) dX12_bound_99 (by decide) ?_
                        refine pv_istore_n (M := mX12_bound) 2 (lo2 := [.ref 123, .int x0, .int v98, .int y23, .int y41]) dX12_bound_103 104 rfl rfl (by decide) rfl rfl ?_
                        refine iv_inc (M := mX12_bound) (C := 1) dX12_bound_104 107 rfl rfl (by decide) rfl rfl (by decide) (by omega) (by omega) (fun v99 ev99 => ?_)
                        show PV _ _ _ _ _ _ _ 107 [.ref 123, .int x0, .int v98, .int y23, .int v99] [] _
                        refine pv_goto (M := mX12_bound) (tgt := 37) dX12_bound_107 (by decide) ?_
                        have kb37 : CHI m89 x0 8 := by first | exact kC2 | exact kg37
                        exact ih48 v98 v99 m89 n90 (by first | omega | assumption | exact (iv_rng _).2 | exact (iv_rng _).1 | decide) (by first | omega | assumption | exact (iv_rng _).2 | exact (iv_rng _).1 | decide) (by first | omega | assumption | exact (iv_rng _).2 | exact (iv_rng _).1 | decide) (by first | omega | assumption | exact (iv_rng _).2 | exact (iv_rng _).1 | decide) kb37 I91 K92 (by omega)
                    · have c70 := iv_eq (X := v68.toInt) (Y := 0) c70 rfl (by decide)
                      refine pv_goto (M := mX12_bound) (tgt := 104) dX12_bound_61 (by decide) ?_
                      refine iv_inc (M := mX12_bound) (C := 1) dX12_bound_104 107 rfl rfl (by decide) rfl rfl (by decide) (by omega) (by omega) (fun v101 ev101 => ?_)
                      show PV _ _ _ _ _ _ _ 107 [.ref 123, .int x0, .int y40, .int y23, .int v101] [] _
                      refine pv_goto (M := mX12_bound) (tgt := 37) dX12_bound_107 (by decide) ?_
                      have kb37 : CHI m42 x0 8 := by first | exact kC2 | exact kg37
                      exact ih48 y40 v101 m42 n43 (by first | omega | assumption | exact (iv_rng _).2 | exact (iv_rng _).1 | decide) (by first | omega | assumption | exact (iv_rng _).2 | exact (iv_rng _).1 | decide) (by first | omega | assumption | exact (iv_rng _).2 | exact (iv_rng _).1 | decide) (by first | omega | assumption | exact (iv_rng _).2 | exact (iv_rng _).1 | decide) kb37 I44 K45 (by omega)
            exact lp47 (((8 - v39.toInt) : Int).toNat + 1) y22 v39 m24 n25 (by first | omega | assumption | exact (iv_rng _).2 | exact (iv_rng _).1 | decide) (by first | omega | assumption | exact (iv_rng _).2 | exact (iv_rng _).1 | decide) (by first | omega | assumption | exact (iv_rng _).2 | exact (iv_rng _).1 | decide) (by first | omega | assumption | exact (iv_rng _).2 | exact (iv_rng _).1 | decide) kg26 I26 K27 (by omega)
      have z103 : (0 : Int32).toInt = 0 := by decide
      have z104 : (0 : Int32).toInt = 0 := by decide
      exact lp29 (((8 - 0) : Int).toNat + 1) 0 0 m4 n5 (by first | omega | assumption | exact (iv_rng _).2 | exact (iv_rng _).1 | decide) (by first | omega | assumption | exact (iv_rng _).2 | exact (iv_rng _).1 | decide) (by first | omega | assumption | exact (iv_rng _).2 | exact (iv_rng _).1 | decide) (by first | omega | assumption | exact (iv_rng _).2 | exact (iv_rng _).1 | decide) kC0 I6 K7 (by omega)
    · have c16 := iv_ne (X := v14.toInt) (Y := 0) c16 rfl (by decide)
      refine pv_bipush (M := mX12_bound) (v := (-2)) dX12_bound_19 21 rfl (by decide) ?_
      exact pv_iret (M := mX12_bound) dX12_bound_21 rfl rfl ⟨_, _, _, rfl, rfl, I6, K7, by decide, by decide, trivial⟩
  · have c10 := iv_eq (X := v8.toInt) (Y := 0) c10 rfl (by decide)
    refine pv_iconst (M := mX12_bound) (v := (-1)) dX12_bound_10 11 rfl (by decide) ?_
    exact pv_iret (M := mX12_bound) dX12_bound_11 rfl rfl ⟨_, _, _, rfl, rfl, I6, K7, by decide, by decide, trivial⟩
