set_option maxHeartbeats 2000000 in
set_option maxRecDepth 20000 in
theorem s_X12_even_va (g : pv_G) {T : List mv_T} {m : Nat → Nat → Int32} {n : Nat → Nat → Int64} {r : Nat → Value} (hT : TX T) (I : IV BB m) (x0 : Int32) (x1 : Int32) (x2 : Int32) : PM g mX12_even yX12_even (sqJn T BB (wl [(123, 123, some 40), (123, 123, some 41), (149, 149, none), (150, 150, none)]) r m (fun m' n' v => EWRr ((0 ≤ x0.toInt ∧ x0.toInt < (m 123 0).toInt) ∧ (idr m x1).toInt = 1 ∧ (1 ≤ x2.toInt ∧ x2.toInt ≤ 9)) m x0.toInt.toNat x1.toInt.toNat x2.toInt (nu m x0.toInt 0).toNat (m 126 x1.toInt.toNat).toInt.toNat v)) 3 0 0 [.ref 123, .int x0, .int x1, .int x2] (mk T m n r) := by
  have Kp : fr (wl [(123, 123, some 40), (123, 123, some 41), (149, 149, none), (150, 150, none)]) m m := fr.rf
  have z213 : 0 ≤ (m 123 0).toInt ∧ (m 123 0).toInt ≤ 8 := I 123 0
  have z214 : 0 ≤ (m 123 40).toInt ∧ (m 123 40).toInt ≤ 40 := I 123 40
  have z215 : 0 ≤ (m 123 41).toInt ∧ (m 123 41).toInt ≤ 16 := I 123 41
  refine PM.of 5 (lo := [.ref 123, .int x0, .int x1, .int x2, pv_U, pv_U, pv_U, pv_U, pv_U]) rfl (by decide) rfl rfl (Nat.le_of_ble_eq_true rfl) ?_
  refine pv_aload_n (M := mX12_even) 0 dX12_even_0 1 rfl rfl rfl ?_
  refine pv_iload_n (M := mX12_even) 1 dX12_even_1 2 rfl rfl rfl ?_
  refine pv_iload_n (M := mX12_even) 2 dX12_even_2 3 rfl rfl rfl ?_
  refine pv_callv (M := mX12_even) (as := [.int x0, .int x1]) (st := []) (kc2 := 0) (ks2 := 0) dX12_even_3 wd1554 YX12_isAsked ⟨wd1556, wd86⟩ (mk_get (tl123 hT)) rfl rfl (s_X12_isAsked_va g hT I x0 x1) rfl rfl (Nat.le_of_ble_eq_true rfl) (by decide) rfl rfl 6 rfl (fun rv h1 q1 => ?_)
  obtain ⟨v2, rfl, rfl, pv2, qv2, rv2⟩ := q1
  replace rv2 : (v2 = 0 ∨ ((0 ≤ x0.toInt ∧ x0.toInt ≤ 7) ∧ (0 ≤ x1.toInt ∧ x1.toInt ≤ 7))) ∧ ((v2.toInt = 1 ∧ (0 ≤ x0.toInt ∧ x0.toInt < (m 123 0).toInt) ∧ (idr m x1).toInt = 1) ∨ (v2.toInt = 0 ∧ ¬ ((0 ≤ x0.toInt ∧ x0.toInt < (m 123 0).toInt) ∧ (idr m x1).toInt = 1))) := rv2
  show PV _ _ _ _ _ _ _ 6 [.ref 123, .int x0, .int x1, .int x2, pv_U, pv_U, pv_U, pv_U, pv_U] [.int v2] _
  have k6 := rv2.2
  refine pv_if_eq (M := mX12_even) (tgt := 19) dX12_even_6 9 rfl (by decide) (fun c4 => ?_) (fun c4 => ?_)
  · have c4 := iv_eq (X := v2.toInt) (Y := 0) c4 rfl (by decide)
    refine pv_ldc2 (M := mX12_even) (v := (-1)) dX12_even_19 22 rfl wd1562 ?_
    exact pv_lret (M := mX12_even) dX12_even_22 rfl ⟨_, _, _, rfl, rfl, I, Kp, (Or.inl ⟨fun q => by have q1 := q.1; have q2 := q.2.1; have q3 := q.2.2; omega, rfl⟩)⟩
  · have pc4 := rv2.1.resolve_left c4
    have c4 := iv_ne (X := v2.toInt) (Y := 0) c4 rfl (by decide)
    refine pv_iload_n (M := mX12_even) 3 dX12_even_9 10 rfl rfl rfl ?_
    refine pv_iconst (M := mX12_even) (v := 1) dX12_even_10 11 rfl (by decide) ?_
    refine pv_bipush (M := mX12_even) (v := 9) dX12_even_11 13 rfl (by decide) ?_
    have z5 : (1 : Int32).toInt = 1 := by decide
    have z6 : (9 : Int32).toInt = 9 := by decide
    refine pv_calls (M := mX12_even) (as := [.int x2, .int 1, .int 9]) (st := []) (kc2 := 0) (ks2 := 0) dX12_even_13 wd1370 YX12_in wd1371 (s_X12_in_vx g hT I x2 1 9) rfl rfl (Nat.le_of_ble_eq_true rfl) (by decide) rfl rfl 16 rfl (fun rv h1 q7 => ?_)
    obtain ⟨v8, rfl, rfl, pv8, qv8, rv8⟩ := q7
    replace rv8 : (v8 = 0 ∨ ((1 : Int) ≤ x2.toInt ∧ x2.toInt ≤ (9 : Int))) ∧ ((v8.toInt = 1 ∧ (1 : Int) ≤ x2.toInt ∧ x2.toInt ≤ (9 : Int)) ∨ (v8.toInt = 0 ∧ (x2.toInt < (1 : Int) ∨ (9 : Int) < x2.toInt))) := by have q_ := rv8; (try rw [z5] at q_); (try rw [z6] at q_); exact q_
    show PV _ _ _ _ _ _ _ 16 [.ref 123, .int x0, .int x1, .int x2, pv_U, pv_U, pv_U, pv_U, pv_U] [.int v8] _
    have k16 := rv8.2
    refine pv_if_ne (M := mX12_even) (tgt := 23) dX12_even_16 19 rfl (by decide) (fun c10 => ?_) (fun c10 => ?_)
    · have pc10 := rv8.1.resolve_left c10
      have c10 := iv_ne (X := v8.toInt) (Y := 0) c10 rfl (by decide)
      refine pv_aload_n (M := mX12_even) 0 dX12_even_23 24 rfl rfl rfl ?_
      refine pv_iload_n (M := mX12_even) 1 dX12_even_24 25 rfl rfl rfl ?_
      refine pv_iconst (M := mX12_even) (v := 0) dX12_even_25 26 rfl (by decide) ?_
      have z11 : (0 : Int32).toInt = 0 := by decide
      refine pv_callv (M := mX12_even) (as := [.int x0, .int 0]) (st := []) (kc2 := 0) (ks2 := 0) dX12_even_26 wd1563 YX12_laysBlank ⟨wd1565, wd88⟩ (mk_get (tl123 hT)) rfl rfl (s_X12_laysBlank_vn g hT I x0 (by omega) (by omega)) rfl rfl (Nat.le_of_ble_eq_true rfl) (by decide) rfl rfl 29 rfl (fun rv h1 q12 => ?_)
      obtain ⟨m13, n14, rfl, rfl, I15, K16, rm13⟩ := q12
      replace rm13 : (m13 123 40).toInt = nu m x0.toInt 0 ∧ ∀ p, p < (nu m x0.toInt 0).toNat → ∃ v, IsN (m 128) (40 * x0.toInt.toNat) (m 124 x0.toInt.toNat).toInt.toNat p v ∧ m13 149 p = m 125 (40 * x0.toInt.toNat + v) := by have q_ := rm13; (try rw [z11] at q_); exact q_
      have K16c := K16
      have w17 : (m13 123 0).toInt = (m 123 0).toInt := congrArg Int32.toInt (K16 123 0 rfl)
      have w18 : (m13 123 41).toInt = (m 123 41).toInt := congrArg Int32.toInt (K16 123 41 rfl)
      have K16 := Kp.trans (K16.sub (wl_sub (by decide)))
      show PV _ _ _ _ _ _ _ 29 [.ref 123, .int x0, .int x1, .int x2, pv_U, pv_U, pv_U, pv_U, pv_U] [] _
      have ka := rm13
      have ka6 : m13 126 = m 126 := funext fun j => K16 126 j rfl
      have ka7 : m13 127 = m 127 := funext fun j => K16 127 j rfl
      refine pv_aload_n (M := mX12_even) 0 dX12_even_29 30 rfl rfl rfl ?_
      refine pv_iload_n (M := mX12_even) 2 dX12_even_30 31 rfl rfl rfl ?_
      refine pv_callv (M := mX12_even) (as := [.int x1]) (st := []) (kc2 := 0) (ks2 := 0) dX12_even_31 wd1567 YX12_laysDeed ⟨wd1569, wd89⟩ (mk_get (tl123 hT)) rfl rfl (s_X12_laysDeed_vy g hT I15 x1 (by omega) (by omega)) rfl rfl (Nat.le_of_ble_eq_true rfl) (by decide) rfl rfl 34 rfl (fun rv h1 q22 => ?_)
      obtain ⟨m23, n24, rfl, rfl, I25, K26, rm23⟩ := q22
      replace rm23 : (m23 123 41).toInt = (m13 126 x1.toInt.toNat).toInt ∧ ∀ k : Nat, (k : Int) < (m13 126 x1.toInt.toNat).toInt → m23 150 k = m13 127 (16 * x1.toInt.toNat + k) := rm23
      have K26c := K26
      have w27 : (m23 123 0).toInt = (m13 123 0).toInt := congrArg Int32.toInt (K26 123 0 rfl)
      have w28 : (m23 123 40).toInt = (m13 123 40).toInt := congrArg Int32.toInt (K26 123 40 rfl)
      have K26 := K16.trans (K26.sub (wl_sub (by decide)))
      show PV _ _ _ _ _ _ _ 34 [.ref 123, .int x0, .int x1, .int x2, pv_U, pv_U, pv_U, pv_U, pv_U] [] _
      have kc := rm23
      rw [ka6, ka7] at kc
      have kcc : (m23 123 40).toInt = nu m x0.toInt 0 := (congrArg Int32.toInt (K26c 123 40 rfl)).trans ka.1
      have kcr : ∀ j, m23 149 j = m13 149 j := fun j => K26c 149 j rfl
      have kb0 : 0 ≤ (m23 123 40).toInt ∧ (m23 123 40).toInt ≤ 40 := I25 123 40
      have kb1 : 0 ≤ (m23 123 41).toInt ∧ (m23 123 41).toInt ≤ 16 := I25 123 41
      have kROW : ∀ p, p < (nu m x0.toInt 0).toNat → ∃ q, IsN (m 128) (40 * x0.toInt.toNat) (m 124 x0.toInt.toNat).toInt.toNat p q ∧ m23 149 p = m 125 (40 * x0.toInt.toNat + q) := fun p hp => by obtain ⟨w, w1, w2⟩ := ka.2 p hp; exact ⟨w, w1, (kcr p).trans w2⟩
      have kDED : ∀ k, k < (m 126 x1.toInt.toNat).toInt.toNat → m23 150 k = m 127 (16 * x1.toInt.toNat + k) := fun k hk => kc.2 k (by omega)
      refine pv_iconst (M := mX12_even) (v := 0) dX12_even_34 35 rfl (by decide) ?_
      refine pv_istore (M := mX12_even) (lo2 := [.ref 123, .int x0, .int x1, .int x2, .int 0, pv_U, pv_U, pv_U, pv_U]) dX12_even_35 37 rfl (by decide) rfl rfl ?_
      have lp43 : ∀ (fuel42 : Nat) (y37 : Int32) (m38 : Nat → Nat → Int32) (n39 : Nat → Nat → Int64), (0 ≤ y37.toInt) → (y37.toInt ≤ 17) → (y37.toInt ≤ (m23 123 41).toInt + 1) → (m38 = m23) → (EWR n39 (mgF (m23 149) (m23 150) x2.toInt) (m23 123 40).toInt.toNat y37.toInt.toNat 0) → IV BB m38 → fr (wl [(123, 123, some 40), (123, 123, some 41), (149, 149, none), (150, 150, none)]) m m38 → ((17 - y37.toInt) : Int).toNat < fuel42 → PV none g mX12_even (sqJn T BB (wl [(123, 123, some 40), (123, 123, some 41), (149, 149, none), (150, 150, none)]) r m (fun m' n' v => EWRr ((0 ≤ x0.toInt ∧ x0.toInt < (m 123 0).toInt) ∧ (idr m x1).toInt = 1 ∧ (1 ≤ x2.toInt ∧ x2.toInt ≤ 9)) m x0.toInt.toNat x1.toInt.toNat x2.toInt (nu m x0.toInt 0).toNat (m 126 x1.toInt.toNat).toInt.toNat v)) 3 0 0 37 [.ref 123, .int x0, .int x1, .int x2, .int y37, pv_U, pv_U, pv_U, pv_U] [] (mk T m38 n39 r) := by
        intro fuel42
        induction fuel42 with
        | zero => intro y37 m38 n39 b45 b46 b47 b48 b49 I40 K41 z50; omega
        | succ fuel42 ih44 =>
          intro y37 m38 n39 b45 b46 b47 b48 b49 I40 K41 z50
          have z51 : 0 ≤ (m38 123 0).toInt ∧ (m38 123 0).toInt ≤ 8 := I40 123 0
          have z52 : 0 ≤ (m38 123 40).toInt ∧ (m38 123 40).toInt ≤ 40 := I40 123 40
          have z53 : 0 ≤ (m38 123 41).toInt ∧ (m38 123 41).toInt ≤ 16 := I40 123 41
          have kg37 := (show EWR n39 (mgF (m23 149) (m23 150) x2.toInt) (m23 123 40).toInt.toNat y37.toInt.toNat 0 by assumption)
          have kgM := (show m38 = m23 by assumption)
          have ks0 : (m38 123 40).toInt = (m23 123 40).toInt := by rw [kgM]
          have ks1 : (m38 123 41).toInt = (m23 123 41).toInt := by rw [kgM]
          refine pv_iload (M := mX12_even) dX12_even_37 39 rfl rfl ?_
          refine pv_aload_n (M := mX12_even) 0 dX12_even_39 40 rfl rfl rfl ?_
          refine iv_get (M := mX12_even) (l1 := 0) (l2 := 16) dX12_even_40 FX12 41 wd1214 (by decide) (tl123 hT) rfl I40 rfl 43 rfl (fun v58 ev58 pv58 qv58 => ?_)
          have wv58 : v58.toInt = (m38 123 41).toInt := congrArg Int32.toInt ev58
          refine pv_icmp_gt (M := mX12_even) (tgt := 185) dX12_even_43 46 rfl (by decide) (fun c59 => ?_) (fun c59 => ?_)
          · have c59 := iv_lt (X := v58.toInt) (Y := y37.toInt) c59 rfl rfl
            have k185 : EWR n39 (mgF (m23 149) (m23 150) x2.toInt) (m23 123 40).toInt.toNat ((m23 123 41).toInt.toNat + 1) 0 := by have q := kg37; rw [show y37.toInt.toNat = (m23 123 41).toInt.toNat + 1 by omega] at q; exact q
            refine pv_lconst (M := mX12_even) (v := 0) dX12_even_185 186 rfl (by decide) ?_
            refine pv_lstore (M := mX12_even) (lo2 := [.ref 123, .int x0, .int x1, .int x2, .long 0, pv_U, pv_U, pv_U, pv_U]) dX12_even_186 188 rfl (by decide) rfl rfl ?_
            refine pv_iconst (M := mX12_even) (v := 0) dX12_even_188 189 rfl (by decide) ?_
            refine pv_istore (M := mX12_even) (lo2 := [.ref 123, .int x0, .int x1, .int x2, .long 0, pv_U, .int 0, pv_U, pv_U]) dX12_even_189 191 rfl (by decide) rfl rfl ?_
            have lp68 : ∀ (fuel67 : Nat) (y61 : Int64) (y62 : Int32), (0 ≤ y62.toInt) → (y62.toInt ≤ 41) → (y62.toInt ≤ (m23 123 40).toInt + 1) → ((y61 : Int64) = sumS (mgF (m23 149) (m23 150) x2.toInt (m23 123 41).toInt.toNat) x2.toInt (m23 123 40).toInt.toNat y62.toInt.toNat) → ((41 - y62.toInt) : Int).toNat < fuel67 → PV none g mX12_even (sqJn T BB (wl [(123, 123, some 40), (123, 123, some 41), (149, 149, none), (150, 150, none)]) r m (fun m' n' v => EWRr ((0 ≤ x0.toInt ∧ x0.toInt < (m 123 0).toInt) ∧ (idr m x1).toInt = 1 ∧ (1 ≤ x2.toInt ∧ x2.toInt ≤ 9)) m x0.toInt.toNat x1.toInt.toNat x2.toInt (nu m x0.toInt 0).toNat (m 126 x1.toInt.toNat).toInt.toNat v)) 3 0 0 191 [.ref 123, .int x0, .int x1, .int x2, .long y61, pv_U, .int y62, pv_U, pv_U] [] (mk T m38 n39 r) := by
              intro fuel67
              induction fuel67 with
              | zero => intro y61 y62 b70 b71 b72 b73 z74; omega
              | succ fuel67 ih69 =>
                intro y61 y62 b70 b71 b72 b73 z74
                have kg191 := (show (y61 : Int64) = sumS (mgF (m23 149) (m23 150) x2.toInt (m23 123 41).toInt.toNat) x2.toInt (m23 123 40).toInt.toNat y62.toInt.toNat by assumption)
                refine pv_iload (M := mX12_even) dX12_even_191 193 rfl rfl ?_
                refine pv_aload_n (M := mX12_even) 0 dX12_even_193 194 rfl rfl rfl ?_
                refine iv_get (M := mX12_even) (l1 := 0) (l2 := 40) dX12_even_194 FX12 40 wd1213 (by decide) (tl123 hT) rfl I40 rfl 197 rfl (fun v76 ev76 pv76 qv76 => ?_)
                have wv76 : v76.toInt = (m38 123 40).toInt := congrArg Int32.toInt ev76
                refine pv_icmp_gt (M := mX12_even) (tgt := 242) dX12_even_197 200 rfl (by decide) (fun c77 => ?_) (fun c77 => ?_)
                · have c77 := iv_lt (X := v76.toInt) (Y := y62.toInt) c77 rfl rfl
                  have k242 : (y61 : Int64) = evT (m23 149) (m23 150) x2.toInt (nu m x0.toInt 0).toNat (m 126 x1.toInt.toNat).toInt.toNat := by have q := kg191; rw [show y62.toInt.toNat = (m23 123 40).toInt.toNat + 1 by omega] at q; rw [show (m23 123 40).toInt.toNat = (nu m x0.toInt 0).toNat by rw [kcc], show (m23 123 41).toInt.toNat = (m 126 x1.toInt.toNat).toInt.toNat by rw [kc.1]] at q; exact q
                  refine pv_lload (M := mX12_even) dX12_even_242 244 rfl rfl ?_
                  exact pv_lret (M := mX12_even) dX12_even_244 rfl ⟨_, _, _, rfl, rfl, I40, K41, (Or.inr ⟨by (try dsimp only); exact ⟨by omega, by omega, by omega, by omega⟩, EWRx_i kROW kDED k242⟩)⟩
                · have c77 := iv_nlt (X := v76.toInt) (Y := y62.toInt) c77 rfl rfl
                  refine pv_lload (M := mX12_even) dX12_even_200 202 rfl rfl ?_
                  refine pv_aload_n (M := mX12_even) 0 dX12_even_202 203 rfl rfl rfl ?_
                  refine iv_get (M := mX12_even) (l1 := 0) (l2 := 40) dX12_even_203 FX12 40 wd1213 (by decide) (tl123 hT) rfl I40 rfl 206 rfl (fun v79 ev79 pv79 qv79 => ?_)
                  have wv79 : v79.toInt = (m38 123 40).toInt := congrArg Int32.toInt ev79
                  refine pv_iload (M := mX12_even) dX12_even_206 208 rfl rfl ?_
                  refine iv_isub (M := mX12_even) (X := v79.toInt) (Y := y62.toInt) dX12_even_208 209 rfl rfl rfl (by omega) (by omega) (fun v80 ev80 => ?_)
                  refine pv_iload_n (M := mX12_even) 3 dX12_even_209 210 rfl rfl rfl ?_
                  refine iv_irem (M := mX12_even) (X := v80.toInt) (Y := x2.toInt) dX12_even_210 211 rfl rfl rfl (by omega) (by omega) (fun v81 ev81 => ?_)
                  have bv81 : 0 ≤ v81.toInt ∧ v81.toInt < x2.toInt := ⟨by rw [ev81]; exact Int.emod_nonneg _ (by omega), by rw [ev81]; exact Int.emod_lt_of_pos _ (by omega)⟩
                  have k211 : v81.toInt = ((((m23 123 40).toInt.toNat : Nat) : Int) - ((y62.toInt.toNat : Nat) : Int)) % x2.toInt := by rw [ev81]; congr 1; omega
                  refine pv_if_ne (M := mX12_even) (tgt := 232) dX12_even_211 214 rfl (by decide) (fun c83 => ?_) (fun c83 => ?_)
                  · have c83 := iv_ne (X := v81.toInt) (Y := 0) c83 rfl (by decide)
                    refine pv_lconst (M := mX12_even) (v := 0) dX12_even_232 233 rfl (by decide) ?_
                    refine iv_addJ (M := mX12_even) dX12_even_233 234 rfl (fun v84 ev84 => ?_)
                    have k234 := ev84
                    refine pv_lstore (M := mX12_even) (lo2 := [.ref 123, .int x0, .int x1, .int x2, .long v84, pv_U, .int y62, pv_U, pv_U]) dX12_even_234 236 rfl (by decide) rfl rfl ?_
                    refine iv_inc (M := mX12_even) (C := 1) dX12_even_236 239 rfl rfl (by decide) rfl rfl (by decide) (by omega) (by omega) (fun v86 ev86 => ?_)
                    show PV _ _ _ _ _ _ _ 239 [.ref 123, .int x0, .int x1, .int x2, .long v84, pv_U, .int v86, pv_U, pv_U] [] _
                    refine pv_goto (M := mX12_even) (tgt := 191) dX12_even_239 (by decide) ?_
                    have kb191 : (v84 : Int64) = sumS (mgF (m23 149) (m23 150) x2.toInt (m23 123 41).toInt.toNat) x2.toInt (m23 123 40).toInt.toNat v86.toInt.toNat := by rw [show v86.toInt.toNat = (y62.toInt).toNat + 1 by omega]; first | exact sumS_r kg191 k234 (Or.inl ⟨by rw [← k211]; omega, k229⟩) | exact sumS_r kg191 k234 (Or.inr ⟨by rw [← k211]; omega, rfl⟩)
                    exact ih69 v84 v86 (by first | omega | assumption | exact (iv_rng _).2 | exact (iv_rng _).1 | decide) (by first | omega | assumption | exact (iv_rng _).2 | exact (iv_rng _).1 | decide) (by first | omega | assumption | (show v86.toInt ≤ (m23 123 40).toInt + 1; omega) | decide) kb191 (by omega)
                  · have c83 := iv_eq (X := v81.toInt) (Y := 0) c83 rfl (by decide)
                    refine pv_aload_n (M := mX12_even) 0 dX12_even_214 215 rfl rfl rfl ?_
                    refine mv_get (M := mX12_even) (v := .ref 156) dX12_even_215 FX12 49 wd1222 (by decide) (tl123 hT) rfl rfl 218 rfl ?_
                    refine pv_bipush (M := mX12_even) (v := 17) dX12_even_218 220 rfl (by decide) ?_
                    refine pv_iload (M := mX12_even) dX12_even_220 222 rfl rfl ?_
                    refine iv_imul (M := mX12_even) (X := 17) (Y := y62.toInt) dX12_even_222 223 rfl (by decide) rfl (by omega) (by omega) (fun v88 ev88 => ?_)
                    refine pv_aload_n (M := mX12_even) 0 dX12_even_223 224 rfl rfl rfl ?_
                    refine iv_get (M := mX12_even) (l1 := 0) (l2 := 16) dX12_even_224 FX12 41 wd1214 (by decide) (tl123 hT) rfl I40 rfl 227 rfl (fun v89 ev89 pv89 qv89 => ?_)
                    have wv89 : v89.toInt = (m38 123 41).toInt := congrArg Int32.toInt ev89
                    refine iv_iadd (M := mX12_even) (X := v88.toInt) (Y := v89.toInt) dX12_even_227 228 rfl rfl rfl (by omega) (by omega) (fun v90 ev90 => ?_)
                    refine iv_lald (M := mX12_even) (X := v90.toInt) dX12_even_228 (tl156 hT) rfl (by omega) (by omega) 229 rfl (fun v91 ev91 => ?_)
                    have k229 : v91 = mgF (m23 149) (m23 150) x2.toInt (m23 123 41).toInt.toNat y62.toInt.toNat := by rw [ev91]; have q := k185 (m23 123 41).toInt.toNat y62.toInt.toNat (by omega) (Or.inl (by omega)); rw [← q]; congr 1; omega
                    refine pv_goto (M := mX12_even) (tgt := 233) dX12_even_229 (by decide) ?_
                    refine iv_addJ (M := mX12_even) dX12_even_233 234 rfl (fun v93 ev93 => ?_)
                    have k234 := ev93
                    refine pv_lstore (M := mX12_even) (lo2 := [.ref 123, .int x0, .int x1, .int x2, .long v93, pv_U, .int y62, pv_U, pv_U]) dX12_even_234 236 rfl (by decide) rfl rfl ?_
                    refine iv_inc (M := mX12_even) (C := 1) dX12_even_236 239 rfl rfl (by decide) rfl rfl (by decide) (by omega) (by omega) (fun v95 ev95 => ?_)
                    show PV _ _ _ _ _ _ _ 239 [.ref 123, .int x0, .int x1, .int x2, .long v93, pv_U, .int v95, pv_U, pv_U] [] _
                    refine pv_goto (M := mX12_even) (tgt := 191) dX12_even_239 (by decide) ?_
                    have kb191 : (v93 : Int64) = sumS (mgF (m23 149) (m23 150) x2.toInt (m23 123 41).toInt.toNat) x2.toInt (m23 123 40).toInt.toNat v95.toInt.toNat := by rw [show v95.toInt.toNat = (y62.toInt).toNat + 1 by omega]; first | exact sumS_r kg191 k234 (Or.inl ⟨by rw [← k211]; omega, k229⟩) | exact sumS_r kg191 k234 (Or.inr ⟨by rw [← k211]; omega, rfl⟩)
                    exact ih69 v93 v95 (by first | omega | assumption | exact (iv_rng _).2 | exact (iv_rng _).1 | decide) (by first | omega | assumption | exact (iv_rng _).2 | exact (iv_rng _).1 | decide) (by first | omega | assumption | (show v95.toInt ≤ (m23 123 40).toInt + 1; omega) | decide) kb191 (by omega)
            have z97 : (0 : Int32).toInt = 0 := by decide
            have kin191 : (0 : Int64) = sumS (mgF (m23 149) (m23 150) x2.toInt (m23 123 41).toInt.toNat) x2.toInt (m23 123 40).toInt.toNat (0 : Int32).toInt.toNat := by rw [show (0 : Int32).toInt.toNat = 0 from (by decide)]; rfl
            exact lp68 (((41 - 0) : Int).toNat + 1) 0 0 (by first | omega | assumption | exact (iv_rng _).2 | exact (iv_rng _).1 | decide) (by first | omega | assumption | exact (iv_rng _).2 | exact (iv_rng _).1 | decide) (by first | omega | assumption | (show 0 ≤ (m23 123 40).toInt + 1; omega) | decide) kin191 (by omega)
          · have c59 := iv_nlt (X := v58.toInt) (Y := y37.toInt) c59 rfl rfl
            refine pv_iconst (M := mX12_even) (v := 0) dX12_even_46 47 rfl (by decide) ?_
            refine pv_istore (M := mX12_even) (lo2 := [.ref 123, .int x0, .int x1, .int x2, .int y37, .int 0, pv_U, pv_U, pv_U]) dX12_even_47 49 rfl (by decide) rfl rfl ?_
            have lp105 : ∀ (fuel104 : Nat) (y99 : Int32) (m100 : Nat → Nat → Int32) (n101 : Nat → Nat → Int64), (0 ≤ y99.toInt) → (y99.toInt ≤ 41) → (y99.toInt ≤ (m23 123 40).toInt + 1) → (m100 = m23) → (EWR n101 (mgF (m23 149) (m23 150) x2.toInt) (m23 123 40).toInt.toNat y37.toInt.toNat y99.toInt.toNat) → IV BB m100 → fr (wl [(123, 123, some 40), (123, 123, some 41), (149, 149, none), (150, 150, none)]) m m100 → ((41 - y99.toInt) : Int).toNat < fuel104 → PV none g mX12_even (sqJn T BB (wl [(123, 123, some 40), (123, 123, some 41), (149, 149, none), (150, 150, none)]) r m (fun m' n' v => EWRr ((0 ≤ x0.toInt ∧ x0.toInt < (m 123 0).toInt) ∧ (idr m x1).toInt = 1 ∧ (1 ≤ x2.toInt ∧ x2.toInt ≤ 9)) m x0.toInt.toNat x1.toInt.toNat x2.toInt (nu m x0.toInt 0).toNat (m 126 x1.toInt.toNat).toInt.toNat v)) 3 0 0 49 [.ref 123, .int x0, .int x1, .int x2, .int y37, .int y99, pv_U, pv_U, pv_U] [] (mk T m100 n101 r) := by
              intro fuel104
              induction fuel104 with
              | zero => intro y99 m100 n101 b107 b108 b109 b110 b111 I102 K103 z112; omega
              | succ fuel104 ih106 =>
                intro y99 m100 n101 b107 b108 b109 b110 b111 I102 K103 z112
                have z113 : 0 ≤ (m100 123 0).toInt ∧ (m100 123 0).toInt ≤ 8 := I102 123 0
                have z114 : 0 ≤ (m100 123 40).toInt ∧ (m100 123 40).toInt ≤ 40 := I102 123 40
                have z115 : 0 ≤ (m100 123 41).toInt ∧ (m100 123 41).toInt ≤ 16 := I102 123 41
                have kg49 := (show EWR n101 (mgF (m23 149) (m23 150) x2.toInt) (m23 123 40).toInt.toNat y37.toInt.toNat y99.toInt.toNat by assumption)
                have kgM := (show m100 = m23 by assumption)
                have ks0 : (m100 123 40).toInt = (m23 123 40).toInt := by rw [kgM]
                have ks1 : (m100 123 41).toInt = (m23 123 41).toInt := by rw [kgM]
                refine pv_iload (M := mX12_even) dX12_even_49 51 rfl rfl ?_
                refine pv_aload_n (M := mX12_even) 0 dX12_even_51 52 rfl rfl rfl ?_
                refine iv_get (M := mX12_even) (l1 := 0) (l2 := 40) dX12_even_52 FX12 40 wd1213 (by decide) (tl123 hT) rfl I102 rfl 55 rfl (fun v120 ev120 pv120 qv120 => ?_)
                have wv120 : v120.toInt = (m100 123 40).toInt := congrArg Int32.toInt ev120
                refine pv_icmp_gt (M := mX12_even) (tgt := 179) dX12_even_55 58 rfl (by decide) (fun c121 => ?_) (fun c121 => ?_)
                · have c121 := iv_lt (X := v120.toInt) (Y := y99.toInt) c121 rfl rfl
                  have k179 := EWR_n kg49 (by omega)
                  refine iv_inc (M := mX12_even) (C := 1) dX12_even_179 182 rfl rfl (by decide) rfl rfl (by decide) (by omega) (by omega) (fun v123 ev123 => ?_)
                  show PV _ _ _ _ _ _ _ 182 [.ref 123, .int x0, .int x1, .int x2, .int v123, .int y99, pv_U, pv_U, pv_U] [] _
                  refine pv_goto (M := mX12_even) (tgt := 37) dX12_even_182 (by decide) ?_
                  refine pv_fg (lo2 := [.ref 123, .int x0, .int x1, .int x2, .int v123, pv_U, pv_U, pv_U, pv_U]) ⟨Or.inr rfl, ⟨Or.inr rfl, ⟨Or.inr rfl, ⟨Or.inr rfl, ⟨Or.inr rfl, ⟨Or.inl rfl, ⟨Or.inl rfl, ⟨Or.inl rfl, ⟨Or.inl rfl, trivial⟩⟩⟩⟩⟩⟩⟩⟩⟩ ?_
                  have kb37 : EWR n101 (mgF (m23 149) (m23 150) x2.toInt) (m23 123 40).toInt.toNat v123.toInt.toNat 0 := by rw [show v123.toInt.toNat = (y37.toInt).toNat + 1 by omega]; exact k179
                  exact ih44 v123 m100 n101 (by first | omega | assumption | exact (iv_rng _).2 | exact (iv_rng _).1 | decide) (by first | omega | assumption | exact (iv_rng _).2 | exact (iv_rng _).1 | decide) (by first | omega | assumption | (show v123.toInt ≤ (m23 123 41).toInt + 1; omega) | decide) kgM kb37 I102 K103 (by omega)
                · have c121 := iv_nlt (X := v120.toInt) (Y := y99.toInt) c121 rfl rfl
                  refine pv_iload (M := mX12_even) dX12_even_58 60 rfl rfl ?_
                  refine pv_if_ne (M := mX12_even) (tgt := 72) dX12_even_60 63 rfl (by decide) (fun c125 => ?_) (fun c125 => ?_)
                  · have c125 := iv_ne (X := y37.toInt) (Y := 0) c125 rfl (by decide)
                    refine pv_lconst (M := mX12_even) (v := 0) dX12_even_72 73 rfl (by decide) ?_
                    refine pv_lstore (M := mX12_even) (lo2 := [.ref 123, .int x0, .int x1, .int x2, .int y37, .int y99, .long 0, pv_U, pv_U]) dX12_even_73 75 rfl (by decide) rfl rfl ?_
                    refine pv_iload (M := mX12_even) dX12_even_75 77 rfl rfl ?_
                    refine pv_if_le (M := mX12_even) (tgt := 158) dX12_even_77 80 rfl (by decide) (fun c126 => ?_) (fun c126 => ?_)
                    · have c126 := iv_le (X := y37.toInt) (Y := 0) c126 rfl (by decide)
                      omega
                    · have c126 := iv_nle (X := y37.toInt) (Y := 0) c126 rfl (by decide)
                      refine pv_iload (M := mX12_even) dX12_even_80 82 rfl rfl ?_
                      refine pv_if_le (M := mX12_even) (tgt := 158) dX12_even_82 85 rfl (by decide) (fun c127 => ?_) (fun c127 => ?_)
                      · have c127 := iv_le (X := y99.toInt) (Y := 0) c127 rfl (by decide)
                        have kV : (0 : Int64) = mgF (m23 149) (m23 150) x2.toInt y37.toInt.toNat y99.toInt.toNat := by first | exact mgF_00 (by omega) (by omega) | exact mgF_0n (by omega) (by omega) | exact mgF_zz (j := y37.toInt.toNat - 1) (by omega) (by omega) | exact mgF_nn (j := y37.toInt.toNat - 1) (k := y99.toInt.toNat - 1) (by omega) (by omega) (fun q => by rw [← k94, ← k103] at q; have q1 := congrArg Int32.toInt q; omega) | exact mgF_yy (j := y37.toInt.toNat - 1) (k := y99.toInt.toNat - 1) (by omega) (by omega) (by omega) k106 kg109
                        refine pv_aload_n (M := mX12_even) 0 dX12_even_158 159 rfl rfl rfl ?_
                        refine mv_get (M := mX12_even) (v := .ref 156) dX12_even_159 FX12 49 wd1222 (by decide) (tl123 hT) rfl rfl 162 rfl ?_
                        refine pv_bipush (M := mX12_even) (v := 17) dX12_even_162 164 rfl (by decide) ?_
                        refine pv_iload (M := mX12_even) dX12_even_164 166 rfl rfl ?_
                        refine iv_imul (M := mX12_even) (X := 17) (Y := y99.toInt) dX12_even_166 167 rfl (by decide) rfl (by omega) (by omega) (fun v129 ev129 => ?_)
                        refine pv_iload (M := mX12_even) dX12_even_167 169 rfl rfl ?_
                        refine iv_iadd (M := mX12_even) (X := v129.toInt) (Y := y37.toInt) dX12_even_169 170 rfl rfl rfl (by omega) (by omega) (fun v130 ev130 => ?_)
                        refine pv_lload (M := mX12_even) dX12_even_170 172 rfl rfl ?_
                        refine iv_last (M := mX12_even) (X := v130.toInt) dX12_even_172 (tl156 hT) rfl (by omega) (by omega) 173 rfl (fun n131 en131 => ?_)
                        have k173 := (en131).trans (upg_ix (j := 17 * y99.toInt.toNat + y37.toInt.toNat) (by omega))
                        refine iv_inc (M := mX12_even) (C := 1) dX12_even_173 176 rfl rfl (by decide) rfl rfl (by decide) (by omega) (by omega) (fun v133 ev133 => ?_)
                        show PV _ _ _ _ _ _ _ 176 [.ref 123, .int x0, .int x1, .int x2, .int y37, .int v133, .long 0, pv_U, pv_U] [] _
                        refine pv_goto (M := mX12_even) (tgt := 49) dX12_even_176 (by decide) ?_
                        refine pv_fg (lo2 := [.ref 123, .int x0, .int x1, .int x2, .int y37, .int v133, pv_U, pv_U, pv_U]) ⟨Or.inr rfl, ⟨Or.inr rfl, ⟨Or.inr rfl, ⟨Or.inr rfl, ⟨Or.inr rfl, ⟨Or.inr rfl, ⟨Or.inl rfl, ⟨Or.inl rfl, ⟨Or.inl rfl, trivial⟩⟩⟩⟩⟩⟩⟩⟩⟩ ?_
                        have kb49 : EWR n131 (mgF (m23 149) (m23 150) x2.toInt) (m23 123 40).toInt.toNat y37.toInt.toNat v133.toInt.toNat := by rw [show v133.toInt.toNat = (y99.toInt).toNat + 1 by omega]; exact EWR_s kg49 k173 (by omega) (by omega) kV
                        exact ih106 v133 m100 n131 (by first | omega | assumption | exact (iv_rng _).2 | exact (iv_rng _).1 | decide) (by first | omega | assumption | exact (iv_rng _).2 | exact (iv_rng _).1 | decide) (by first | omega | assumption | (show v133.toInt ≤ (m23 123 40).toInt + 1; omega) | decide) kgM kb49 I102 K103 (by omega)
                      · have c127 := iv_nle (X := y99.toInt) (Y := 0) c127 rfl (by decide)
                        refine pv_aload_n (M := mX12_even) 0 dX12_even_85 86 rfl rfl rfl ?_
                        refine mv_get (M := mX12_even) (v := .ref 149) dX12_even_86 FX12 42 wd1215 (by decide) (tl123 hT) rfl rfl 89 rfl ?_
                        refine pv_iload (M := mX12_even) dX12_even_89 91 rfl rfl ?_
                        refine pv_iconst (M := mX12_even) (v := 1) dX12_even_91 92 rfl (by decide) ?_
                        refine iv_isub (M := mX12_even) (X := y99.toInt) (Y := 1) dX12_even_92 93 rfl rfl (by decide) (by omega) (by omega) (fun v135 ev135 => ?_)
                        refine iv_iald (M := mX12_even) (X := v135.toInt) (l1 := 0) (l2 := 25) dX12_even_93 (tl149 hT) rfl (by omega) (by omega) I102 (fun _ => rfl) 94 rfl (fun v136 ev136 pv136 qv136 => ?_)
                        have k94 : v136 = m23 149 (y99.toInt.toNat - 1) := ev136.trans ((congrFun (congrFun kgM 149) _).trans (congrArg (m23 149) (by omega)))
                        refine pv_aload_n (M := mX12_even) 0 dX12_even_94 95 rfl rfl rfl ?_
                        refine mv_get (M := mX12_even) (v := .ref 150) dX12_even_95 FX12 43 wd1216 (by decide) (tl123 hT) rfl rfl 98 rfl ?_
                        refine pv_iload (M := mX12_even) dX12_even_98 100 rfl rfl ?_
                        refine pv_iconst (M := mX12_even) (v := 1) dX12_even_100 101 rfl (by decide) ?_
                        refine iv_isub (M := mX12_even) (X := y37.toInt) (Y := 1) dX12_even_101 102 rfl rfl (by decide) (by omega) (by omega) (fun v138 ev138 => ?_)
                        refine iv_iald (M := mX12_even) (X := v138.toInt) (l1 := 0) (l2 := 25) dX12_even_102 (tl150 hT) rfl (by omega) (by omega) I102 (fun _ => rfl) 103 rfl (fun v139 ev139 pv139 qv139 => ?_)
                        have k103 : v139 = m23 150 (y37.toInt.toNat - 1) := ev139.trans ((congrFun (congrFun kgM 150) _).trans (congrArg (m23 150) (by omega)))
                        refine pv_icmp_ne (M := mX12_even) (tgt := 158) dX12_even_103 106 rfl (by decide) (fun c141 => ?_) (fun c141 => ?_)
                        · have c141 := iv_ne (X := v136.toInt) (Y := v139.toInt) c141 rfl rfl
                          have kV : (0 : Int64) = mgF (m23 149) (m23 150) x2.toInt y37.toInt.toNat y99.toInt.toNat := by first | exact mgF_00 (by omega) (by omega) | exact mgF_0n (by omega) (by omega) | exact mgF_zz (j := y37.toInt.toNat - 1) (by omega) (by omega) | exact mgF_nn (j := y37.toInt.toNat - 1) (k := y99.toInt.toNat - 1) (by omega) (by omega) (fun q => by rw [← k94, ← k103] at q; have q1 := congrArg Int32.toInt q; omega) | exact mgF_yy (j := y37.toInt.toNat - 1) (k := y99.toInt.toNat - 1) (by omega) (by omega) (by omega) k106 kg109
                          refine pv_aload_n (M := mX12_even) 0 dX12_even_158 159 rfl rfl rfl ?_
                          refine mv_get (M := mX12_even) (v := .ref 156) dX12_even_159 FX12 49 wd1222 (by decide) (tl123 hT) rfl rfl 162 rfl ?_
                          refine pv_bipush (M := mX12_even) (v := 17) dX12_even_162 164 rfl (by decide) ?_
                          refine pv_iload (M := mX12_even) dX12_even_164 166 rfl rfl ?_
                          refine iv_imul (M := mX12_even) (X := 17) (Y := y99.toInt) dX12_even_166 167 rfl (by decide) rfl (by omega) (by omega) (fun v143 ev143 => ?_)
                          refine pv_iload (M := mX12_even) dX12_even_167 169 rfl rfl ?_
                          refine iv_iadd (M := mX12_even) (X := v143.toInt) (Y := y37.toInt) dX12_even_169 170 rfl rfl rfl (by omega) (by omega) (fun v144 ev144 => ?_)
                          refine pv_lload (M := mX12_even) dX12_even_170 172 rfl rfl ?_
                          refine iv_last (M := mX12_even) (X := v144.toInt) dX12_even_172 (tl156 hT) rfl (by omega) (by omega) 173 rfl (fun n145 en145 => ?_)
                          have k173 := (en145).trans (upg_ix (j := 17 * y99.toInt.toNat + y37.toInt.toNat) (by omega))
                          refine iv_inc (M := mX12_even) (C := 1) dX12_even_173 176 rfl rfl (by decide) rfl rfl (by decide) (by omega) (by omega) (fun v147 ev147 => ?_)
                          show PV _ _ _ _ _ _ _ 176 [.ref 123, .int x0, .int x1, .int x2, .int y37, .int v147, .long 0, pv_U, pv_U] [] _
                          refine pv_goto (M := mX12_even) (tgt := 49) dX12_even_176 (by decide) ?_
                          refine pv_fg (lo2 := [.ref 123, .int x0, .int x1, .int x2, .int y37, .int v147, pv_U, pv_U, pv_U]) ⟨Or.inr rfl, ⟨Or.inr rfl, ⟨Or.inr rfl, ⟨Or.inr rfl, ⟨Or.inr rfl, ⟨Or.inr rfl, ⟨Or.inl rfl, ⟨Or.inl rfl, ⟨Or.inl rfl, trivial⟩⟩⟩⟩⟩⟩⟩⟩⟩ ?_
                          have kb49 : EWR n145 (mgF (m23 149) (m23 150) x2.toInt) (m23 123 40).toInt.toNat y37.toInt.toNat v147.toInt.toNat := by rw [show v147.toInt.toNat = (y99.toInt).toNat + 1 by omega]; exact EWR_s kg49 k173 (by omega) (by omega) kV
                          exact ih106 v147 m100 n145 (by first | omega | assumption | exact (iv_rng _).2 | exact (iv_rng _).1 | decide) (by first | omega | assumption | exact (iv_rng _).2 | exact (iv_rng _).1 | decide) (by first | omega | assumption | (show v147.toInt ≤ (m23 123 40).toInt + 1; omega) | decide) kgM kb49 I102 K103 (by omega)
                        · have c141 := iv_eq (X := v136.toInt) (Y := v139.toInt) c141 rfl rfl
                          have k106 : m23 149 (y99.toInt.toNat - 1) = m23 150 (y37.toInt.toNat - 1) := by rw [← k94, ← k103]; exact i_eq (by omega)
                          refine pv_iconst (M := mX12_even) (v := 0) dX12_even_106 107 rfl (by decide) ?_
                          refine pv_istore (M := mX12_even) (lo2 := [.ref 123, .int x0, .int x1, .int x2, .int y37, .int y99, .long 0, pv_U, .int 0]) dX12_even_107 109 rfl (by decide) rfl rfl ?_
                          have lp157 : ∀ (fuel156 : Nat) (y150 : Int64) (y151 : Int32), (0 ≤ y151.toInt) → (y151.toInt ≤ 40) → (y151.toInt ≤ y99.toInt) → ((y150 : Int64) = sumS (mgF (m23 149) (m23 150) x2.toInt (y37.toInt.toNat - 1)) x2.toInt (y99.toInt.toNat - 1) y151.toInt.toNat) → ((y99.toInt - y151.toInt) : Int).toNat < fuel156 → PV none g mX12_even (sqJn T BB (wl [(123, 123, some 40), (123, 123, some 41), (149, 149, none), (150, 150, none)]) r m (fun m' n' v => EWRr ((0 ≤ x0.toInt ∧ x0.toInt < (m 123 0).toInt) ∧ (idr m x1).toInt = 1 ∧ (1 ≤ x2.toInt ∧ x2.toInt ≤ 9)) m x0.toInt.toNat x1.toInt.toNat x2.toInt (nu m x0.toInt 0).toNat (m 126 x1.toInt.toNat).toInt.toNat v)) 3 0 0 109 [.ref 123, .int x0, .int x1, .int x2, .int y37, .int y99, .long y150, pv_U, .int y151] [] (mk T m100 n101 r) := by
                            intro fuel156
                            induction fuel156 with
                            | zero => intro y150 y151 b159 b160 b161 b162 z163; omega
                            | succ fuel156 ih158 =>
                              intro y150 y151 b159 b160 b161 b162 z163
                              have kg109 := (show (y150 : Int64) = sumS (mgF (m23 149) (m23 150) x2.toInt (y37.toInt.toNat - 1)) x2.toInt (y99.toInt.toNat - 1) y151.toInt.toNat by assumption)
                              refine pv_iload (M := mX12_even) dX12_even_109 111 rfl rfl ?_
                              refine pv_iload (M := mX12_even) dX12_even_111 113 rfl rfl ?_
                              refine pv_icmp_ge (M := mX12_even) (tgt := 158) dX12_even_113 116 rfl (by decide) (fun c165 => ?_) (fun c165 => ?_)
                              · have c165 := iv_le (X := y99.toInt) (Y := y151.toInt) c165 rfl rfl
                                have kV : (y150 : Int64) = mgF (m23 149) (m23 150) x2.toInt y37.toInt.toNat y99.toInt.toNat := by first | exact mgF_00 (by omega) (by omega) | exact mgF_0n (by omega) (by omega) | exact mgF_zz (j := y37.toInt.toNat - 1) (by omega) (by omega) | exact mgF_nn (j := y37.toInt.toNat - 1) (k := y99.toInt.toNat - 1) (by omega) (by omega) (fun q => by rw [← k94, ← k103] at q; have q1 := congrArg Int32.toInt q; omega) | exact mgF_yy (j := y37.toInt.toNat - 1) (k := y99.toInt.toNat - 1) (by omega) (by omega) (by omega) k106 kg109
                                refine pv_aload_n (M := mX12_even) 0 dX12_even_158 159 rfl rfl rfl ?_
                                refine mv_get (M := mX12_even) (v := .ref 156) dX12_even_159 FX12 49 wd1222 (by decide) (tl123 hT) rfl rfl 162 rfl ?_
                                refine pv_bipush (M := mX12_even) (v := 17) dX12_even_162 164 rfl (by decide) ?_
                                refine pv_iload (M := mX12_even) dX12_even_164 166 rfl rfl ?_
                                refine iv_imul (M := mX12_even) (X := 17) (Y := y99.toInt) dX12_even_166 167 rfl (by decide) rfl (by omega) (by omega) (fun v167 ev167 => ?_)
                                refine pv_iload (M := mX12_even) dX12_even_167 169 rfl rfl ?_
                                refine iv_iadd (M := mX12_even) (X := v167.toInt) (Y := y37.toInt) dX12_even_169 170 rfl rfl rfl (by omega) (by omega) (fun v168 ev168 => ?_)
                                refine pv_lload (M := mX12_even) dX12_even_170 172 rfl rfl ?_
                                refine iv_last (M := mX12_even) (X := v168.toInt) dX12_even_172 (tl156 hT) rfl (by omega) (by omega) 173 rfl (fun n169 en169 => ?_)
                                have k173 := (en169).trans (upg_ix (j := 17 * y99.toInt.toNat + y37.toInt.toNat) (by omega))
                                refine iv_inc (M := mX12_even) (C := 1) dX12_even_173 176 rfl rfl (by decide) rfl rfl (by decide) (by omega) (by omega) (fun v171 ev171 => ?_)
                                show PV _ _ _ _ _ _ _ 176 [.ref 123, .int x0, .int x1, .int x2, .int y37, .int v171, .long y150, pv_U, .int y151] [] _
                                refine pv_goto (M := mX12_even) (tgt := 49) dX12_even_176 (by decide) ?_
                                refine pv_fg (lo2 := [.ref 123, .int x0, .int x1, .int x2, .int y37, .int v171, pv_U, pv_U, pv_U]) ⟨Or.inr rfl, ⟨Or.inr rfl, ⟨Or.inr rfl, ⟨Or.inr rfl, ⟨Or.inr rfl, ⟨Or.inr rfl, ⟨Or.inl rfl, ⟨Or.inl rfl, ⟨Or.inl rfl, trivial⟩⟩⟩⟩⟩⟩⟩⟩⟩ ?_
                                have kb49 : EWR n169 (mgF (m23 149) (m23 150) x2.toInt) (m23 123 40).toInt.toNat y37.toInt.toNat v171.toInt.toNat := by rw [show v171.toInt.toNat = (y99.toInt).toNat + 1 by omega]; exact EWR_s kg49 k173 (by omega) (by omega) kV
                                exact ih106 v171 m100 n169 (by first | omega | assumption | exact (iv_rng _).2 | exact (iv_rng _).1 | decide) (by first | omega | assumption | exact (iv_rng _).2 | exact (iv_rng _).1 | decide) (by first | omega | assumption | (show v171.toInt ≤ (m23 123 40).toInt + 1; omega) | decide) kgM kb49 I102 K103 (by omega)
                              · have c165 := iv_nle (X := y99.toInt) (Y := y151.toInt) c165 rfl rfl
                                refine pv_lload (M := mX12_even) dX12_even_116 118 rfl rfl ?_
                                refine pv_iload (M := mX12_even) dX12_even_118 120 rfl rfl ?_
                                refine pv_iconst (M := mX12_even) (v := 1) dX12_even_120 121 rfl (by decide) ?_
                                refine iv_isub (M := mX12_even) (X := y99.toInt) (Y := 1) dX12_even_121 122 rfl rfl (by decide) (by omega) (by omega) (fun v173 ev173 => ?_)
                                refine pv_iload (M := mX12_even) dX12_even_122 124 rfl rfl ?_
                                refine iv_isub (M := mX12_even) (X := v173.toInt) (Y := y151.toInt) dX12_even_124 125 rfl rfl rfl (by omega) (by omega) (fun v174 ev174 => ?_)
                                refine pv_iload_n (M := mX12_even) 3 dX12_even_125 126 rfl rfl rfl ?_
                                refine iv_irem (M := mX12_even) (X := v174.toInt) (Y := x2.toInt) dX12_even_126 127 rfl rfl rfl (by omega) (by omega) (fun v175 ev175 => ?_)
                                have bv175 : 0 ≤ v175.toInt ∧ v175.toInt < x2.toInt := ⟨by rw [ev175]; exact Int.emod_nonneg _ (by omega), by rw [ev175]; exact Int.emod_lt_of_pos _ (by omega)⟩
                                have k127 : v175.toInt = (((y99.toInt.toNat - 1 : Nat) : Int) - ((y151.toInt.toNat : Nat) : Int)) % x2.toInt := by rw [ev175]; congr 1; omega
                                refine pv_if_ne (M := mX12_even) (tgt := 148) dX12_even_127 130 rfl (by decide) (fun c177 => ?_) (fun c177 => ?_)
                                · have c177 := iv_ne (X := v175.toInt) (Y := 0) c177 rfl (by decide)
                                  refine pv_lconst (M := mX12_even) (v := 0) dX12_even_148 149 rfl (by decide) ?_
                                  refine iv_addJ (M := mX12_even) dX12_even_149 150 rfl (fun v178 ev178 => ?_)
                                  have k150 := ev178
                                  refine pv_lstore (M := mX12_even) (lo2 := [.ref 123, .int x0, .int x1, .int x2, .int y37, .int y99, .long v178, pv_U, .int y151]) dX12_even_150 152 rfl (by decide) rfl rfl ?_
                                  refine iv_inc (M := mX12_even) (C := 1) dX12_even_152 155 rfl rfl (by decide) rfl rfl (by decide) (by omega) (by omega) (fun v180 ev180 => ?_)
                                  show PV _ _ _ _ _ _ _ 155 [.ref 123, .int x0, .int x1, .int x2, .int y37, .int y99, .long v178, pv_U, .int v180] [] _
                                  refine pv_goto (M := mX12_even) (tgt := 109) dX12_even_155 (by decide) ?_
                                  have kb109 : (v178 : Int64) = sumS (mgF (m23 149) (m23 150) x2.toInt (y37.toInt.toNat - 1)) x2.toInt (y99.toInt.toNat - 1) v180.toInt.toNat := by rw [show v180.toInt.toNat = (y151.toInt).toNat + 1 by omega]; first | exact sumS_r kg109 k150 (Or.inl ⟨by rw [← k127]; omega, k145⟩) | exact sumS_r kg109 k150 (Or.inr ⟨by rw [← k127]; omega, rfl⟩)
                                  exact ih158 v178 v180 (by first | omega | assumption | exact (iv_rng _).2 | exact (iv_rng _).1 | decide) (by first | omega | assumption | exact (iv_rng _).2 | exact (iv_rng _).1 | decide) (by first | omega | assumption | (show v180.toInt ≤ y99.toInt; omega) | decide) kb109 (by omega)
                                · have c177 := iv_eq (X := v175.toInt) (Y := 0) c177 rfl (by decide)
                                  refine pv_aload_n (M := mX12_even) 0 dX12_even_130 131 rfl rfl rfl ?_
                                  refine mv_get (M := mX12_even) (v := .ref 156) dX12_even_131 FX12 49 wd1222 (by decide) (tl123 hT) rfl rfl 134 rfl ?_
                                  refine pv_bipush (M := mX12_even) (v := 17) dX12_even_134 136 rfl (by decide) ?_
                                  refine pv_iload (M := mX12_even) dX12_even_136 138 rfl rfl ?_
                                  refine iv_imul (M := mX12_even) (X := 17) (Y := y151.toInt) dX12_even_138 139 rfl (by decide) rfl (by omega) (by omega) (fun v182 ev182 => ?_)
                                  refine pv_iload (M := mX12_even) dX12_even_139 141 rfl rfl ?_
                                  refine iv_iadd (M := mX12_even) (X := v182.toInt) (Y := y37.toInt) dX12_even_141 142 rfl rfl rfl (by omega) (by omega) (fun v183 ev183 => ?_)
                                  refine pv_iconst (M := mX12_even) (v := 1) dX12_even_142 143 rfl (by decide) ?_
                                  refine iv_isub (M := mX12_even) (X := v183.toInt) (Y := 1) dX12_even_143 144 rfl rfl (by decide) (by omega) (by omega) (fun v184 ev184 => ?_)
                                  refine iv_lald (M := mX12_even) (X := v184.toInt) dX12_even_144 (tl156 hT) rfl (by omega) (by omega) 145 rfl (fun v185 ev185 => ?_)
                                  have k145 : v185 = mgF (m23 149) (m23 150) x2.toInt (y37.toInt.toNat - 1) y151.toInt.toNat := by rw [ev185]; have q := kg49 (y37.toInt.toNat - 1) y151.toInt.toNat (by omega) (Or.inl (by omega)); rw [← q]; congr 1; omega
                                  refine pv_goto (M := mX12_even) (tgt := 149) dX12_even_145 (by decide) ?_
                                  refine iv_addJ (M := mX12_even) dX12_even_149 150 rfl (fun v187 ev187 => ?_)
                                  have k150 := ev187
                                  refine pv_lstore (M := mX12_even) (lo2 := [.ref 123, .int x0, .int x1, .int x2, .int y37, .int y99, .long v187, pv_U, .int y151]) dX12_even_150 152 rfl (by decide) rfl rfl ?_
                                  refine iv_inc (M := mX12_even) (C := 1) dX12_even_152 155 rfl rfl (by decide) rfl rfl (by decide) (by omega) (by omega) (fun v189 ev189 => ?_)
                                  show PV _ _ _ _ _ _ _ 155 [.ref 123, .int x0, .int x1, .int x2, .int y37, .int y99, .long v187, pv_U, .int v189] [] _
                                  refine pv_goto (M := mX12_even) (tgt := 109) dX12_even_155 (by decide) ?_
                                  have kb109 : (v187 : Int64) = sumS (mgF (m23 149) (m23 150) x2.toInt (y37.toInt.toNat - 1)) x2.toInt (y99.toInt.toNat - 1) v189.toInt.toNat := by rw [show v189.toInt.toNat = (y151.toInt).toNat + 1 by omega]; first | exact sumS_r kg109 k150 (Or.inl ⟨by rw [← k127]; omega, k145⟩) | exact sumS_r kg109 k150 (Or.inr ⟨by rw [← k127]; omega, rfl⟩)
                                  exact ih158 v187 v189 (by first | omega | assumption | exact (iv_rng _).2 | exact (iv_rng _).1 | decide) (by first | omega | assumption | exact (iv_rng _).2 | exact (iv_rng _).1 | decide) (by first | omega | assumption | (show v189.toInt ≤ y99.toInt; omega) | decide) kb109 (by omega)
                          have z191 : (0 : Int32).toInt = 0 := by decide
                          have kin109 : (0 : Int64) = sumS (mgF (m23 149) (m23 150) x2.toInt (y37.toInt.toNat - 1)) x2.toInt (y99.toInt.toNat - 1) (0 : Int32).toInt.toNat := by rw [show (0 : Int32).toInt.toNat = 0 from (by decide)]; rfl
                          exact lp157 (((y99.toInt - 0) : Int).toNat + 1) 0 0 (by first | omega | assumption | exact (iv_rng _).2 | exact (iv_rng _).1 | decide) (by first | omega | assumption | exact (iv_rng _).2 | exact (iv_rng _).1 | decide) (by first | omega | assumption | (show 0 ≤ y99.toInt; omega) | decide) kin109 (by omega)
                  · have c125 := iv_eq (X := y37.toInt) (Y := 0) c125 rfl (by decide)
                    refine pv_iload (M := mX12_even) dX12_even_63 65 rfl rfl ?_
                    refine pv_if_ne (M := mX12_even) (tgt := 72) dX12_even_65 68 rfl (by decide) (fun c193 => ?_) (fun c193 => ?_)
                    · have c193 := iv_ne (X := y99.toInt) (Y := 0) c193 rfl (by decide)
                      refine pv_lconst (M := mX12_even) (v := 0) dX12_even_72 73 rfl (by decide) ?_
                      refine pv_lstore (M := mX12_even) (lo2 := [.ref 123, .int x0, .int x1, .int x2, .int y37, .int y99, .long 0, pv_U, pv_U]) dX12_even_73 75 rfl (by decide) rfl rfl ?_
                      refine pv_iload (M := mX12_even) dX12_even_75 77 rfl rfl ?_
                      refine pv_if_le (M := mX12_even) (tgt := 158) dX12_even_77 80 rfl (by decide) (fun c194 => ?_) (fun c194 => ?_)
                      · have c194 := iv_le (X := y37.toInt) (Y := 0) c194 rfl (by decide)
                        have kV : (0 : Int64) = mgF (m23 149) (m23 150) x2.toInt y37.toInt.toNat y99.toInt.toNat := by first | exact mgF_00 (by omega) (by omega) | exact mgF_0n (by omega) (by omega) | exact mgF_zz (j := y37.toInt.toNat - 1) (by omega) (by omega) | exact mgF_nn (j := y37.toInt.toNat - 1) (k := y99.toInt.toNat - 1) (by omega) (by omega) (fun q => by rw [← k94, ← k103] at q; have q1 := congrArg Int32.toInt q; omega) | exact mgF_yy (j := y37.toInt.toNat - 1) (k := y99.toInt.toNat - 1) (by omega) (by omega) (by omega) k106 kg109
                        refine pv_aload_n (M := mX12_even) 0 dX12_even_158 159 rfl rfl rfl ?_
                        refine mv_get (M := mX12_even) (v := .ref 156) dX12_even_159 FX12 49 wd1222 (by decide) (tl123 hT) rfl rfl 162 rfl ?_
                        refine pv_bipush (M := mX12_even) (v := 17) dX12_even_162 164 rfl (by decide) ?_
                        refine pv_iload (M := mX12_even) dX12_even_164 166 rfl rfl ?_
                        refine iv_imul (M := mX12_even) (X := 17) (Y := y99.toInt) dX12_even_166 167 rfl (by decide) rfl (by omega) (by omega) (fun v196 ev196 => ?_)
                        refine pv_iload (M := mX12_even) dX12_even_167 169 rfl rfl ?_
                        refine iv_iadd (M := mX12_even) (X := v196.toInt) (Y := y37.toInt) dX12_even_169 170 rfl rfl rfl (by omega) (by omega) (fun v197 ev197 => ?_)
                        refine pv_lload (M := mX12_even) dX12_even_170 172 rfl rfl ?_
                        refine iv_last (M := mX12_even) (X := v197.toInt) dX12_even_172 (tl156 hT) rfl (by omega) (by omega) 173 rfl (fun n198 en198 => ?_)
                        have k173 := (en198).trans (upg_ix (j := 17 * y99.toInt.toNat + y37.toInt.toNat) (by omega))
                        refine iv_inc (M := mX12_even) (C := 1) dX12_even_173 176 rfl rfl (by decide) rfl rfl (by decide) (by omega) (by omega) (fun v200 ev200 => ?_)
                        show PV _ _ _ _ _ _ _ 176 [.ref 123, .int x0, .int x1, .int x2, .int y37, .int v200, .long 0, pv_U, pv_U] [] _
                        refine pv_goto (M := mX12_even) (tgt := 49) dX12_even_176 (by decide) ?_
                        refine pv_fg (lo2 := [.ref 123, .int x0, .int x1, .int x2, .int y37, .int v200, pv_U, pv_U, pv_U]) ⟨Or.inr rfl, ⟨Or.inr rfl, ⟨Or.inr rfl, ⟨Or.inr rfl, ⟨Or.inr rfl, ⟨Or.inr rfl, ⟨Or.inl rfl, ⟨Or.inl rfl, ⟨Or.inl rfl, trivial⟩⟩⟩⟩⟩⟩⟩⟩⟩ ?_
                        have kb49 : EWR n198 (mgF (m23 149) (m23 150) x2.toInt) (m23 123 40).toInt.toNat y37.toInt.toNat v200.toInt.toNat := by rw [show v200.toInt.toNat = (y99.toInt).toNat + 1 by omega]; exact EWR_s kg49 k173 (by omega) (by omega) kV
                        exact ih106 v200 m100 n198 (by first | omega | assumption | exact (iv_rng _).2 | exact (iv_rng _).1 | decide) (by first | omega | assumption | exact (iv_rng _).2 | exact (iv_rng _).1 | decide) (by first | omega | assumption | (show v200.toInt ≤ (m23 123 40).toInt + 1; omega) | decide) kgM kb49 I102 K103 (by omega)
                      · have c194 := iv_nle (X := y37.toInt) (Y := 0) c194 rfl (by decide)
                        omega
                    · have c193 := iv_eq (X := y99.toInt) (Y := 0) c193 rfl (by decide)
                      refine pv_lconst (M := mX12_even) (v := 1) dX12_even_68 69 rfl (by decide) ?_
                      refine pv_goto (M := mX12_even) (tgt := 73) dX12_even_69 (by decide) ?_
                      refine pv_lstore (M := mX12_even) (lo2 := [.ref 123, .int x0, .int x1, .int x2, .int y37, .int y99, .long 1, pv_U, pv_U]) dX12_even_73 75 rfl (by decide) rfl rfl ?_
                      refine pv_iload (M := mX12_even) dX12_even_75 77 rfl rfl ?_
                      refine pv_if_le (M := mX12_even) (tgt := 158) dX12_even_77 80 rfl (by decide) (fun c202 => ?_) (fun c202 => ?_)
                      · have c202 := iv_le (X := y37.toInt) (Y := 0) c202 rfl (by decide)
                        have kV : (1 : Int64) = mgF (m23 149) (m23 150) x2.toInt y37.toInt.toNat y99.toInt.toNat := by first | exact mgF_00 (by omega) (by omega) | exact mgF_0n (by omega) (by omega) | exact mgF_zz (j := y37.toInt.toNat - 1) (by omega) (by omega) | exact mgF_nn (j := y37.toInt.toNat - 1) (k := y99.toInt.toNat - 1) (by omega) (by omega) (fun q => by rw [← k94, ← k103] at q; have q1 := congrArg Int32.toInt q; omega) | exact mgF_yy (j := y37.toInt.toNat - 1) (k := y99.toInt.toNat - 1) (by omega) (by omega) (by omega) k106 kg109
                        refine pv_aload_n (M := mX12_even) 0 dX12_even_158 159 rfl rfl rfl ?_
                        refine mv_get (M := mX12_even) (v := .ref 156) dX12_even_159 FX12 49 wd1222 (by decide) (tl123 hT) rfl rfl 162 rfl ?_
                        refine pv_bipush (M := mX12_even) (v := 17) dX12_even_162 164 rfl (by decide) ?_
                        refine pv_iload (M := mX12_even) dX12_even_164 166 rfl rfl ?_
                        refine iv_imul (M := mX12_even) (X := 17) (Y := y99.toInt) dX12_even_166 167 rfl (by decide) rfl (by omega) (by omega) (fun v204 ev204 => ?_)
                        refine pv_iload (M := mX12_even) dX12_even_167 169 rfl rfl ?_
                        refine iv_iadd (M := mX12_even) (X := v204.toInt) (Y := y37.toInt) dX12_even_169 170 rfl rfl rfl (by omega) (by omega) (fun v205 ev205 => ?_)
                        refine pv_lload (M := mX12_even) dX12_even_170 172 rfl rfl ?_
                        refine iv_last (M := mX12_even) (X := v205.toInt) dX12_even_172 (tl156 hT) rfl (by omega) (by omega) 173 rfl (fun n206 en206 => ?_)
                        have k173 := (en206).trans (upg_ix (j := 17 * y99.toInt.toNat + y37.toInt.toNat) (by omega))
                        refine iv_inc (M := mX12_even) (C := 1) dX12_even_173 176 rfl rfl (by decide) rfl rfl (by decide) (by omega) (by omega) (fun v208 ev208 => ?_)
                        show PV _ _ _ _ _ _ _ 176 [.ref 123, .int x0, .int x1, .int x2, .int y37, .int v208, .long 1, pv_U, pv_U] [] _
                        refine pv_goto (M := mX12_even) (tgt := 49) dX12_even_176 (by decide) ?_
                        refine pv_fg (lo2 := [.ref 123, .int x0, .int x1, .int x2, .int y37, .int v208, pv_U, pv_U, pv_U]) ⟨Or.inr rfl, ⟨Or.inr rfl, ⟨Or.inr rfl, ⟨Or.inr rfl, ⟨Or.inr rfl, ⟨Or.inr rfl, ⟨Or.inl rfl, ⟨Or.inl rfl, ⟨Or.inl rfl, trivial⟩⟩⟩⟩⟩⟩⟩⟩⟩ ?_
                        have kb49 : EWR n206 (mgF (m23 149) (m23 150) x2.toInt) (m23 123 40).toInt.toNat y37.toInt.toNat v208.toInt.toNat := by rw [show v208.toInt.toNat = (y99.toInt).toNat + 1 by omega]; exact EWR_s kg49 k173 (by omega) (by omega) kV
                        exact ih106 v208 m100 n206 (by first | omega | assumption | exact (iv_rng _).2 | exact (iv_rng _).1 | decide) (by first | omega | assumption | exact (iv_rng _).2 | exact (iv_rng _).1 | decide) (by first | omega | assumption | (show v208.toInt ≤ (m23 123 40).toInt + 1; omega) | decide) kgM kb49 I102 K103 (by omega)
                      · have c202 := iv_nle (X := y37.toInt) (Y := 0) c202 rfl (by decide)
                        omega
            have z210 : (0 : Int32).toInt = 0 := by decide
            have kin49 : EWR n39 (mgF (m23 149) (m23 150) x2.toInt) (m23 123 40).toInt.toNat y37.toInt.toNat (0 : Int32).toInt.toNat := by rw [show (0 : Int32).toInt.toNat = 0 from (by decide)]; exact kg37
            exact lp105 (((41 - 0) : Int).toNat + 1) 0 m38 n39 (by first | omega | assumption | exact (iv_rng _).2 | exact (iv_rng _).1 | decide) (by first | omega | assumption | exact (iv_rng _).2 | exact (iv_rng _).1 | decide) (by first | omega | assumption | (show 0 ≤ (m23 123 40).toInt + 1; omega) | decide) kgM kin49 I40 K41 (by omega)
      have z212 : (0 : Int32).toInt = 0 := by decide
      exact lp43 (((17 - 0) : Int).toNat + 1) 0 m23 n24 (by first | omega | assumption | exact (iv_rng _).2 | exact (iv_rng _).1 | decide) (by first | omega | assumption | exact (iv_rng _).2 | exact (iv_rng _).1 | decide) (by first | omega | assumption | (show 0 ≤ (m23 123 41).toInt + 1; omega) | decide) rfl (by (try dsimp only); rw [show (0 : Int32).toInt.toNat = 0 from (by decide)]; exact EWR_0) I25 K26 (by omega)
    · have c10 := iv_eq (X := v8.toInt) (Y := 0) c10 rfl (by decide)
      refine pv_ldc2 (M := mX12_even) (v := (-1)) dX12_even_19 22 rfl wd1562 ?_
      exact pv_lret (M := mX12_even) dX12_even_22 rfl ⟨_, _, _, rfl, rfl, I, Kp, (Or.inl ⟨fun q => by have q1 := q.1; have q2 := q.2.1; have q3 := q.2.2; omega, rfl⟩)⟩

set_option maxHeartbeats 2000000 in
set_option maxRecDepth 20000 in
theorem s_X12_ways_va (g : pv_G) {T : List mv_T} {m : Nat → Nat → Int32} {n : Nat → Nat → Int64} {r : Nat → Value} (hT : TX T) (I : IV BB m) (x0 : Int32) (x1 : Int32) : PM g mX12_ways yX12_ways (sqJn T BB (wl [(123, 123, some 40), (123, 123, some 41), (149, 149, none), (150, 150, none)]) r m (fun m' n' v => EWRr ((0 ≤ x0.toInt ∧ x0.toInt < (m 123 0).toInt) ∧ (idr m x1).toInt = 1 ∧ True) m x0.toInt.toNat x1.toInt.toNat (1 : Int) (nu m x0.toInt 0).toNat (m 126 x1.toInt.toNat).toInt.toNat v)) 3 0 0 [.ref 123, .int x0, .int x1] (mk T m n r) := by
  have Kp : fr (wl [(123, 123, some 40), (123, 123, some 41), (149, 149, none), (150, 150, none)]) m m := fr.rf
  have z139 : 0 ≤ (m 123 0).toInt ∧ (m 123 0).toInt ≤ 8 := I 123 0
  have z140 : 0 ≤ (m 123 40).toInt ∧ (m 123 40).toInt ≤ 40 := I 123 40
  have z141 : 0 ≤ (m 123 41).toInt ∧ (m 123 41).toInt ≤ 16 := I 123 41
  refine PM.of 2 (lo := [.ref 123, .int x0, .int x1, pv_U, pv_U]) rfl (by decide) rfl rfl (Nat.le_of_ble_eq_true rfl) ?_
  refine pv_aload_n (M := mX12_ways) 0 dX12_ways_0 1 rfl rfl rfl ?_
  refine pv_iload_n (M := mX12_ways) 1 dX12_ways_1 2 rfl rfl rfl ?_
  refine pv_iload_n (M := mX12_ways) 2 dX12_ways_2 3 rfl rfl rfl ?_
  refine pv_callv (M := mX12_ways) (as := [.int x0, .int x1]) (st := []) (kc2 := 0) (ks2 := 0) dX12_ways_3 wd1554 YX12_isAsked ⟨wd1556, wd86⟩ (mk_get (tl123 hT)) rfl rfl (s_X12_isAsked_va g hT I x0 x1) rfl rfl (Nat.le_of_ble_eq_true rfl) (by decide) rfl rfl 6 rfl (fun rv h1 q1 => ?_)
  obtain ⟨v2, rfl, rfl, pv2, qv2, rv2⟩ := q1
  replace rv2 : (v2 = 0 ∨ ((0 ≤ x0.toInt ∧ x0.toInt ≤ 7) ∧ (0 ≤ x1.toInt ∧ x1.toInt ≤ 7))) ∧ ((v2.toInt = 1 ∧ (0 ≤ x0.toInt ∧ x0.toInt < (m 123 0).toInt) ∧ (idr m x1).toInt = 1) ∨ (v2.toInt = 0 ∧ ¬ ((0 ≤ x0.toInt ∧ x0.toInt < (m 123 0).toInt) ∧ (idr m x1).toInt = 1))) := rv2
  show PV _ _ _ _ _ _ _ 6 [.ref 123, .int x0, .int x1, pv_U, pv_U] [.int v2] _
  have k6 := rv2.2
  refine pv_if_ne (M := mX12_ways) (tgt := 13) dX12_ways_6 9 rfl (by decide) (fun c4 => ?_) (fun c4 => ?_)
  · have pc4 := rv2.1.resolve_left c4
    have c4 := iv_ne (X := v2.toInt) (Y := 0) c4 rfl (by decide)
    refine pv_aload_n (M := mX12_ways) 0 dX12_ways_13 14 rfl rfl rfl ?_
    refine pv_iload_n (M := mX12_ways) 1 dX12_ways_14 15 rfl rfl rfl ?_
    refine pv_iconst (M := mX12_ways) (v := 0) dX12_ways_15 16 rfl (by decide) ?_
    have z5 : (0 : Int32).toInt = 0 := by decide
    refine pv_callv (M := mX12_ways) (as := [.int x0, .int 0]) (st := []) (kc2 := 0) (ks2 := 0) dX12_ways_16 wd1563 YX12_laysBlank ⟨wd1565, wd88⟩ (mk_get (tl123 hT)) rfl rfl (s_X12_laysBlank_vn g hT I x0 (by omega) (by omega)) rfl rfl (Nat.le_of_ble_eq_true rfl) (by decide) rfl rfl 19 rfl (fun rv h1 q6 => ?_)
    obtain ⟨m7, n8, rfl, rfl, I9, K10, rm7⟩ := q6
    replace rm7 : (m7 123 40).toInt = nu m x0.toInt 0 ∧ ∀ p, p < (nu m x0.toInt 0).toNat → ∃ v, IsN (m 128) (40 * x0.toInt.toNat) (m 124 x0.toInt.toNat).toInt.toNat p v ∧ m7 149 p = m 125 (40 * x0.toInt.toNat + v) := by have q_ := rm7; (try rw [z5] at q_); exact q_
    have K10c := K10
    have w11 : (m7 123 0).toInt = (m 123 0).toInt := congrArg Int32.toInt (K10 123 0 rfl)
    have w12 : (m7 123 41).toInt = (m 123 41).toInt := congrArg Int32.toInt (K10 123 41 rfl)
    have K10 := Kp.trans (K10.sub (wl_sub (by decide)))
    show PV _ _ _ _ _ _ _ 19 [.ref 123, .int x0, .int x1, pv_U, pv_U] [] _
    have ka := rm7
    have ka6 : m7 126 = m 126 := funext fun j => K10 126 j rfl
    have ka7 : m7 127 = m 127 := funext fun j => K10 127 j rfl
    refine pv_aload_n (M := mX12_ways) 0 dX12_ways_19 20 rfl rfl rfl ?_
    refine pv_iload_n (M := mX12_ways) 2 dX12_ways_20 21 rfl rfl rfl ?_
    refine pv_callv (M := mX12_ways) (as := [.int x1]) (st := []) (kc2 := 0) (ks2 := 0) dX12_ways_21 wd1567 YX12_laysDeed ⟨wd1569, wd89⟩ (mk_get (tl123 hT)) rfl rfl (s_X12_laysDeed_vy g hT I9 x1 (by omega) (by omega)) rfl rfl (Nat.le_of_ble_eq_true rfl) (by decide) rfl rfl 24 rfl (fun rv h1 q16 => ?_)
    obtain ⟨m17, n18, rfl, rfl, I19, K20, rm17⟩ := q16
    replace rm17 : (m17 123 41).toInt = (m7 126 x1.toInt.toNat).toInt ∧ ∀ k : Nat, (k : Int) < (m7 126 x1.toInt.toNat).toInt → m17 150 k = m7 127 (16 * x1.toInt.toNat + k) := rm17
    have K20c := K20
    have w21 : (m17 123 0).toInt = (m7 123 0).toInt := congrArg Int32.toInt (K20 123 0 rfl)
    have w22 : (m17 123 40).toInt = (m7 123 40).toInt := congrArg Int32.toInt (K20 123 40 rfl)
    have K20 := K10.trans (K20.sub (wl_sub (by decide)))
    show PV _ _ _ _ _ _ _ 24 [.ref 123, .int x0, .int x1, pv_U, pv_U] [] _
    have kc := rm17
    rw [ka6, ka7] at kc
    have kcc : (m17 123 40).toInt = nu m x0.toInt 0 := (congrArg Int32.toInt (K20c 123 40 rfl)).trans ka.1
    have kcr : ∀ j, m17 149 j = m7 149 j := fun j => K20c 149 j rfl
    have kb0 : 0 ≤ (m17 123 40).toInt ∧ (m17 123 40).toInt ≤ 40 := I19 123 40
    have kb1 : 0 ≤ (m17 123 41).toInt ∧ (m17 123 41).toInt ≤ 16 := I19 123 41
    have kROW : ∀ p, p < (nu m x0.toInt 0).toNat → ∃ q, IsN (m 128) (40 * x0.toInt.toNat) (m 124 x0.toInt.toNat).toInt.toNat p q ∧ m17 149 p = m 125 (40 * x0.toInt.toNat + q) := fun p hp => by obtain ⟨w, w1, w2⟩ := ka.2 p hp; exact ⟨w, w1, (kcr p).trans w2⟩
    have kDED : ∀ k, k < (m 126 x1.toInt.toNat).toInt.toNat → m17 150 k = m 127 (16 * x1.toInt.toNat + k) := fun k hk => kc.2 k (by omega)
    refine pv_iconst (M := mX12_ways) (v := 0) dX12_ways_24 25 rfl (by decide) ?_
    refine pv_istore_n (M := mX12_ways) 3 (lo2 := [.ref 123, .int x0, .int x1, .int 0, pv_U]) dX12_ways_25 26 rfl rfl (by decide) rfl rfl ?_
    have lp37 : ∀ (fuel36 : Nat) (y31 : Int32) (m32 : Nat → Nat → Int32) (n33 : Nat → Nat → Int64), (0 ≤ y31.toInt) → (y31.toInt ≤ 17) → (y31.toInt ≤ (m17 123 41).toInt + 1) → (m32 = m17) → (WYS n33 y31.toInt) → IV BB m32 → fr (wl [(123, 123, some 40), (123, 123, some 41), (149, 149, none), (150, 150, none)]) m m32 → ((17 - y31.toInt) : Int).toNat < fuel36 → PV none g mX12_ways (sqJn T BB (wl [(123, 123, some 40), (123, 123, some 41), (149, 149, none), (150, 150, none)]) r m (fun m' n' v => EWRr ((0 ≤ x0.toInt ∧ x0.toInt < (m 123 0).toInt) ∧ (idr m x1).toInt = 1 ∧ True) m x0.toInt.toNat x1.toInt.toNat (1 : Int) (nu m x0.toInt 0).toNat (m 126 x1.toInt.toNat).toInt.toNat v)) 3 0 0 26 [.ref 123, .int x0, .int x1, .int y31, pv_U] [] (mk T m32 n33 r) := by
      intro fuel36
      induction fuel36 with
      | zero => intro y31 m32 n33 b39 b40 b41 b42 b43 I34 K35 z44; omega
      | succ fuel36 ih38 =>
        intro y31 m32 n33 b39 b40 b41 b42 b43 I34 K35 z44
        have z45 : 0 ≤ (m32 123 0).toInt ∧ (m32 123 0).toInt ≤ 8 := I34 123 0
        have z46 : 0 ≤ (m32 123 40).toInt ∧ (m32 123 40).toInt ≤ 40 := I34 123 40
        have z47 : 0 ≤ (m32 123 41).toInt ∧ (m32 123 41).toInt ≤ 16 := I34 123 41
        have kg26 := (show WYS n33 y31.toInt by assumption)
        have kgM := (show m32 = m17 by assumption)
        have ks0 : (m32 123 40).toInt = (m17 123 40).toInt := by rw [kgM]
        have ks1 : (m32 123 41).toInt = (m17 123 41).toInt := by rw [kgM]
        refine pv_iload_n (M := mX12_ways) 3 dX12_ways_26 27 rfl rfl rfl ?_
        refine pv_aload_n (M := mX12_ways) 0 dX12_ways_27 28 rfl rfl rfl ?_
        refine iv_get (M := mX12_ways) (l1 := 0) (l2 := 16) dX12_ways_28 FX12 41 wd1214 (by decide) (tl123 hT) rfl I34 rfl 31 rfl (fun v52 ev52 pv52 qv52 => ?_)
        have wv52 : v52.toInt = (m32 123 41).toInt := congrArg Int32.toInt ev52
        refine pv_icmp_gt (M := mX12_ways) (tgt := 55) dX12_ways_31 34 rfl (by decide) (fun c53 => ?_) (fun c53 => ?_)
        · have c53 := iv_lt (X := v52.toInt) (Y := y31.toInt) c53 rfl rfl
          have k55 : WYR n33 (m17 149) (m17 150) (m17 123 40).toInt.toNat (m17 123 41).toInt.toNat 0 := WYR_0 kg26 (by omega)
          refine pv_iconst (M := mX12_ways) (v := 0) dX12_ways_55 56 rfl (by decide) ?_
          refine pv_istore_n (M := mX12_ways) 3 (lo2 := [.ref 123, .int x0, .int x1, .int 0, pv_U]) dX12_ways_56 57 rfl rfl (by decide) rfl rfl ?_
          have lp61 : ∀ (fuel60 : Nat) (y55 : Int32) (m56 : Nat → Nat → Int32) (n57 : Nat → Nat → Int64), (0 ≤ y55.toInt) → (y55.toInt ≤ 40) → (y55.toInt ≤ (m17 123 40).toInt) → (m56 = m17) → (WYR n57 (m17 149) (m17 150) (m17 123 40).toInt.toNat (m17 123 41).toInt.toNat y55.toInt.toNat) → IV BB m56 → fr (wl [(123, 123, some 40), (123, 123, some 41), (149, 149, none), (150, 150, none)]) m m56 → ((40 - y55.toInt) : Int).toNat < fuel60 → PV none g mX12_ways (sqJn T BB (wl [(123, 123, some 40), (123, 123, some 41), (149, 149, none), (150, 150, none)]) r m (fun m' n' v => EWRr ((0 ≤ x0.toInt ∧ x0.toInt < (m 123 0).toInt) ∧ (idr m x1).toInt = 1 ∧ True) m x0.toInt.toNat x1.toInt.toNat (1 : Int) (nu m x0.toInt 0).toNat (m 126 x1.toInt.toNat).toInt.toNat v)) 3 0 0 57 [.ref 123, .int x0, .int x1, .int y55, pv_U] [] (mk T m56 n57 r) := by
            intro fuel60
            induction fuel60 with
            | zero => intro y55 m56 n57 b63 b64 b65 b66 b67 I58 K59 z68; omega
            | succ fuel60 ih62 =>
              intro y55 m56 n57 b63 b64 b65 b66 b67 I58 K59 z68
              have z69 : 0 ≤ (m56 123 0).toInt ∧ (m56 123 0).toInt ≤ 8 := I58 123 0
              have z70 : 0 ≤ (m56 123 40).toInt ∧ (m56 123 40).toInt ≤ 40 := I58 123 40
              have z71 : 0 ≤ (m56 123 41).toInt ∧ (m56 123 41).toInt ≤ 16 := I58 123 41
              have kg57 := (show WYR n57 (m17 149) (m17 150) (m17 123 40).toInt.toNat (m17 123 41).toInt.toNat y55.toInt.toNat by assumption)
              have kgM := (show m56 = m17 by assumption)
              have ks0 : (m56 123 40).toInt = (m17 123 40).toInt := by rw [kgM]
              have ks1 : (m56 123 41).toInt = (m17 123 41).toInt := by rw [kgM]
              refine pv_iload_n (M := mX12_ways) 3 dX12_ways_57 58 rfl rfl rfl ?_
              refine pv_aload_n (M := mX12_ways) 0 dX12_ways_58 59 rfl rfl rfl ?_
              refine iv_get (M := mX12_ways) (l1 := 0) (l2 := 40) dX12_ways_59 FX12 40 wd1213 (by decide) (tl123 hT) rfl I58 rfl 62 rfl (fun v76 ev76 pv76 qv76 => ?_)
              have wv76 : v76.toInt = (m56 123 40).toInt := congrArg Int32.toInt ev76
              refine pv_icmp_ge (M := mX12_ways) (tgt := 130) dX12_ways_62 65 rfl (by decide) (fun c77 => ?_) (fun c77 => ?_)
              · have c77 := iv_le (X := v76.toInt) (Y := y55.toInt) c77 rfl rfl
                refine pv_aload_n (M := mX12_ways) 0 dX12_ways_130 131 rfl rfl rfl ?_
                refine mv_get (M := mX12_ways) (v := .ref 151) dX12_ways_131 FX12 44 wd1217 (by decide) (tl123 hT) rfl rfl 134 rfl ?_
                refine pv_aload_n (M := mX12_ways) 0 dX12_ways_134 135 rfl rfl rfl ?_
                refine iv_get (M := mX12_ways) (l1 := 0) (l2 := 16) dX12_ways_135 FX12 41 wd1214 (by decide) (tl123 hT) rfl I58 rfl 138 rfl (fun v78 ev78 pv78 qv78 => ?_)
                have wv78 : v78.toInt = (m56 123 41).toInt := congrArg Int32.toInt ev78
                refine iv_lald (M := mX12_ways) (X := v78.toInt) dX12_ways_138 (tl151 hT) rfl (by omega) (by omega) 139 rfl (fun v79 ev79 => ?_)
                have k139 : v79 = evT (m17 149) (m17 150) (1 : Int) (nu m x0.toInt 0).toNat (m 126 x1.toInt.toNat).toInt.toNat := by have q := ev79.trans ((congrArg (n57 151) (by omega)).trans (kg57 (m17 123 41).toInt.toNat (Nat.le_refl _))); rw [show y55.toInt.toNat = (m17 123 40).toInt.toNat by omega] at q; rw [show (m17 123 40).toInt.toNat = (nu m x0.toInt 0).toNat by rw [kcc], show (m17 123 41).toInt.toNat = (m 126 x1.toInt.toNat).toInt.toNat by rw [kc.1]] at q; exact q
                exact pv_lret (M := mX12_ways) dX12_ways_139 rfl ⟨_, _, _, rfl, rfl, I58, K59, (Or.inr ⟨by (try dsimp only); exact ⟨by omega, by omega, trivial⟩, EWRx_i kROW kDED k139⟩)⟩
              · have c77 := iv_nle (X := v76.toInt) (Y := y55.toInt) c77 rfl rfl
                refine pv_aload_n (M := mX12_ways) 0 dX12_ways_65 66 rfl rfl rfl ?_
                refine iv_get (M := mX12_ways) (l1 := 0) (l2 := 16) dX12_ways_66 FX12 41 wd1214 (by decide) (tl123 hT) rfl I58 rfl 69 rfl (fun v81 ev81 pv81 qv81 => ?_)
                have wv81 : v81.toInt = (m56 123 41).toInt := congrArg Int32.toInt ev81
                refine pv_istore (M := mX12_ways) (lo2 := [.ref 123, .int x0, .int x1, .int y55, .int v81]) dX12_ways_69 71 rfl (by decide) rfl rfl ?_
                have lp88 : ∀ (fuel87 : Nat) (y82 : Int32) (m83 : Nat → Nat → Int32) (n84 : Nat → Nat → Int64), (0 ≤ y82.toInt) → (y82.toInt ≤ 16) → (y82.toInt ≤ (m17 123 41).toInt) → (m83 = m17) → (WYT n84 (m17 149) (m17 150) (m17 123 40).toInt.toNat (m17 123 41).toInt.toNat y55.toInt.toNat y82.toInt) → IV BB m83 → fr (wl [(123, 123, some 40), (123, 123, some 41), (149, 149, none), (150, 150, none)]) m m83 → ((y82.toInt) : Int).toNat < fuel87 → PV none g mX12_ways (sqJn T BB (wl [(123, 123, some 40), (123, 123, some 41), (149, 149, none), (150, 150, none)]) r m (fun m' n' v => EWRr ((0 ≤ x0.toInt ∧ x0.toInt < (m 123 0).toInt) ∧ (idr m x1).toInt = 1 ∧ True) m x0.toInt.toNat x1.toInt.toNat (1 : Int) (nu m x0.toInt 0).toNat (m 126 x1.toInt.toNat).toInt.toNat v)) 3 0 0 71 [.ref 123, .int x0, .int x1, .int y55, .int y82] [] (mk T m83 n84 r) := by
                  intro fuel87
                  induction fuel87 with
                  | zero => intro y82 m83 n84 b90 b91 b92 b93 b94 I85 K86 z95; omega
                  | succ fuel87 ih89 =>
                    intro y82 m83 n84 b90 b91 b92 b93 b94 I85 K86 z95
                    have z96 : 0 ≤ (m83 123 0).toInt ∧ (m83 123 0).toInt ≤ 8 := I85 123 0
                    have z97 : 0 ≤ (m83 123 40).toInt ∧ (m83 123 40).toInt ≤ 40 := I85 123 40
                    have z98 : 0 ≤ (m83 123 41).toInt ∧ (m83 123 41).toInt ≤ 16 := I85 123 41
                    have kg71 := (show WYT n84 (m17 149) (m17 150) (m17 123 40).toInt.toNat (m17 123 41).toInt.toNat y55.toInt.toNat y82.toInt by assumption)
                    have kgM := (show m83 = m17 by assumption)
                    have ks0 : (m83 123 40).toInt = (m17 123 40).toInt := by rw [kgM]
                    have ks1 : (m83 123 41).toInt = (m17 123 41).toInt := by rw [kgM]
                    refine pv_iload (M := mX12_ways) dX12_ways_71 73 rfl rfl ?_
                    refine pv_if_le (M := mX12_ways) (tgt := 124) dX12_ways_73 76 rfl (by decide) (fun c103 => ?_) (fun c103 => ?_)
                    · have c103 := iv_le (X := y82.toInt) (Y := 0) c103 rfl (by decide)
                      have k124 : WYR n84 (m17 149) (m17 150) (m17 123 40).toInt.toNat (m17 123 41).toInt.toNat (y55.toInt.toNat + 1) := WYT_e kg71 (by omega) rfl
                      refine iv_inc (M := mX12_ways) (C := 1) dX12_ways_124 127 rfl rfl (by decide) rfl rfl (by decide) (by omega) (by omega) (fun v105 ev105 => ?_)
                      show PV _ _ _ _ _ _ _ 127 [.ref 123, .int x0, .int x1, .int v105, .int y82] [] _
                      refine pv_goto (M := mX12_ways) (tgt := 57) dX12_ways_127 (by decide) ?_
                      refine pv_fg (lo2 := [.ref 123, .int x0, .int x1, .int v105, pv_U]) ⟨Or.inr rfl, ⟨Or.inr rfl, ⟨Or.inr rfl, ⟨Or.inr rfl, ⟨Or.inl rfl, trivial⟩⟩⟩⟩⟩ ?_
                      have kb57 : WYR n84 (m17 149) (m17 150) (m17 123 40).toInt.toNat (m17 123 41).toInt.toNat v105.toInt.toNat := by rw [show v105.toInt.toNat = (y55.toInt).toNat + 1 by omega]; exact k124
                      exact ih62 v105 m83 n84 (by first | omega | assumption | exact (iv_rng _).2 | exact (iv_rng _).1 | decide) (by first | omega | assumption | exact (iv_rng _).2 | exact (iv_rng _).1 | decide) (by first | omega | assumption | (show v105.toInt ≤ (m17 123 40).toInt; omega) | decide) kgM kb57 I85 K86 (by omega)
                    · have c103 := iv_nle (X := y82.toInt) (Y := 0) c103 rfl (by decide)
                      refine pv_aload_n (M := mX12_ways) 0 dX12_ways_76 77 rfl rfl rfl ?_
                      refine mv_get (M := mX12_ways) (v := .ref 149) dX12_ways_77 FX12 42 wd1215 (by decide) (tl123 hT) rfl rfl 80 rfl ?_
                      refine pv_iload_n (M := mX12_ways) 3 dX12_ways_80 81 rfl rfl rfl ?_
                      have k81 : y55 = m17 149 y55.toInt.toNat := ey55.trans ((congrFun (congrFun kgM 149) _).trans (congrArg (m17 149) (by omega)))
                      refine iv_iald (M := mX12_ways) (X := y55.toInt) (l1 := 0) (l2 := 25) dX12_ways_81 (tl149 hT) rfl (by omega) (by omega) I85 (fun _ => rfl) 82 rfl (fun v108 ev108 pv108 qv108 => ?_)
                      refine pv_aload_n (M := mX12_ways) 0 dX12_ways_82 83 rfl rfl rfl ?_
                      refine mv_get (M := mX12_ways) (v := .ref 150) dX12_ways_83 FX12 43 wd1216 (by decide) (tl123 hT) rfl rfl 86 rfl ?_
                      refine pv_iload (M := mX12_ways) dX12_ways_86 88 rfl rfl ?_
                      refine pv_iconst (M := mX12_ways) (v := 1) dX12_ways_88 89 rfl (by decide) ?_
                      refine iv_isub (M := mX12_ways) (X := y82.toInt) (Y := 1) dX12_ways_89 90 rfl rfl (by decide) (by omega) (by omega) (fun v109 ev109 => ?_)
                      refine iv_iald (M := mX12_ways) (X := v109.toInt) (l1 := 0) (l2 := 25) dX12_ways_90 (tl150 hT) rfl (by omega) (by omega) I85 (fun _ => rfl) 91 rfl (fun v110 ev110 pv110 qv110 => ?_)
                      have k91 : v110 = m17 150 (y82.toInt.toNat - 1) := ev110.trans ((congrFun (congrFun kgM 150) _).trans (congrArg (m17 150) (by omega)))
                      refine pv_icmp_ne (M := mX12_ways) (tgt := 118) dX12_ways_91 94 rfl (by decide) (fun c112 => ?_) (fun c112 => ?_)
                      · have c112 := iv_ne (X := v108.toInt) (Y := v110.toInt) c112 rfl rfl
                        refine iv_inc (M := mX12_ways) (C := (-1)) dX12_ways_118 121 rfl rfl (by decide) rfl rfl (by decide) (by omega) (by omega) (fun v113 ev113 => ?_)
                        show PV _ _ _ _ _ _ _ 121 [.ref 123, .int x0, .int x1, .int y55, .int v113] [] _
                        refine pv_goto (M := mX12_ways) (tgt := 71) dX12_ways_121 (by decide) ?_
                        have kb71 : WYT n84 (m17 149) (m17 150) (m17 123 40).toInt.toNat (m17 123 41).toInt.toNat y55.toInt.toNat v113.toInt := by first | exact WYT_n (i := (y82.toInt).toNat) kg71 (by omega) (by omega) (fun q => by rw [← k81, ← k91] at q; have q1 := congrArg Int32.toInt q; omega) (by omega) | exact WYT_s (i := (y82.toInt).toNat) kg71 ((en84).trans (upg_ix (by omega))) (by omega) (by omega) (by rw [← k81, ← k91]; exact i_eq (by omega)) k117 (by omega)
                        exact ih89 v113 m83 n84 (by first | omega | assumption | exact (iv_rng _).2 | exact (iv_rng _).1 | decide) (by first | omega | assumption | exact (iv_rng _).2 | exact (iv_rng _).1 | decide) (by first | omega | assumption | (show v113.toInt ≤ (m17 123 41).toInt; omega) | decide) kgM kb71 I85 K86 (by omega)
                      · have c112 := iv_eq (X := v108.toInt) (Y := v110.toInt) c112 rfl rfl
                        refine pv_aload_n (M := mX12_ways) 0 dX12_ways_94 95 rfl rfl rfl ?_
                        refine mv_get (M := mX12_ways) (v := .ref 151) dX12_ways_95 FX12 44 wd1217 (by decide) (tl123 hT) rfl rfl 98 rfl ?_
                        refine pv_iload (M := mX12_ways) dX12_ways_98 100 rfl rfl ?_
                        refine pv_aload_n (M := mX12_ways) 0 dX12_ways_100 101 rfl rfl rfl ?_
                        refine mv_get (M := mX12_ways) (v := .ref 151) dX12_ways_101 FX12 44 wd1217 (by decide) (tl123 hT) rfl rfl 104 rfl ?_
                        refine pv_iload (M := mX12_ways) dX12_ways_104 106 rfl rfl ?_
                        refine iv_lald (M := mX12_ways) (X := y82.toInt) dX12_ways_106 (tl151 hT) rfl (by omega) (by omega) 107 rfl (fun v115 ev115 => ?_)
                        have k107 : v115 = wyF (m17 149) (m17 150) (m17 123 40).toInt.toNat y55.toInt.toNat y82.toInt.toNat := ev115.trans ((congrArg (n84 151) (by omega)).trans ((kg71 y82.toInt.toNat (by omega)).2 (by omega)))
                        refine pv_aload_n (M := mX12_ways) 0 dX12_ways_107 108 rfl rfl rfl ?_
                        refine mv_get (M := mX12_ways) (v := .ref 151) dX12_ways_108 FX12 44 wd1217 (by decide) (tl123 hT) rfl rfl 111 rfl ?_
                        refine pv_iload (M := mX12_ways) dX12_ways_111 113 rfl rfl ?_
                        refine pv_iconst (M := mX12_ways) (v := 1) dX12_ways_113 114 rfl (by decide) ?_
                        refine iv_isub (M := mX12_ways) (X := y82.toInt) (Y := 1) dX12_ways_114 115 rfl rfl (by decide) (by omega) (by omega) (fun v117 ev117 => ?_)
                        refine iv_lald (M := mX12_ways) (X := v117.toInt) dX12_ways_115 (tl151 hT) rfl (by omega) (by omega) 116 rfl (fun v118 ev118 => ?_)
                        have k116 : v118 = wyF (m17 149) (m17 150) (m17 123 40).toInt.toNat y55.toInt.toNat (y82.toInt.toNat - 1) := ev118.trans ((congrArg (n84 151) (by omega)).trans ((kg71 (y82.toInt.toNat - 1) (by omega)).2 (by omega)))
                        refine iv_addJ (M := mX12_ways) dX12_ways_116 117 rfl (fun v120 ev120 => ?_)
                        have k117 := ev120
                        rw [k107, k116] at k117
                        refine iv_last (M := mX12_ways) (X := y82.toInt) dX12_ways_117 (tl151 hT) rfl (by omega) (by omega) 118 rfl (fun n123 en123 => ?_)
                        refine iv_inc (M := mX12_ways) (C := (-1)) dX12_ways_118 121 rfl rfl (by decide) rfl rfl (by decide) (by omega) (by omega) (fun v124 ev124 => ?_)
                        show PV _ _ _ _ _ _ _ 121 [.ref 123, .int x0, .int x1, .int y55, .int v124] [] _
                        refine pv_goto (M := mX12_ways) (tgt := 71) dX12_ways_121 (by decide) ?_
                        have kb71 : WYT n123 (m17 149) (m17 150) (m17 123 40).toInt.toNat (m17 123 41).toInt.toNat y55.toInt.toNat v124.toInt := by first | exact WYT_n (i := (y82.toInt).toNat) kg71 (by omega) (by omega) (fun q => by rw [← k81, ← k91] at q; have q1 := congrArg Int32.toInt q; omega) (by omega) | exact WYT_s (i := (y82.toInt).toNat) kg71 ((en123).trans (upg_ix (by omega))) (by omega) (by omega) (by rw [← k81, ← k91]; exact i_eq (by omega)) k117 (by omega)
                        exact ih89 v124 m83 n123 (by first | omega | assumption | exact (iv_rng _).2 | exact (iv_rng _).1 | decide) (by first | omega | assumption | exact (iv_rng _).2 | exact (iv_rng _).1 | decide) (by first | omega | assumption | (show v124.toInt ≤ (m17 123 41).toInt; omega) | decide) kgM kb71 I85 K86 (by omega)
                have kin71 : WYT n57 (m17 149) (m17 150) (m17 123 40).toInt.toNat (m17 123 41).toInt.toNat y55.toInt.toNat v81.toInt := WYT_0 kg57 (by omega)
                exact lp88 (((v81.toInt) : Int).toNat + 1) v81 m56 n57 (by first | omega | assumption | exact (iv_rng _).2 | exact (iv_rng _).1 | decide) (by first | omega | assumption | exact (iv_rng _).2 | exact (iv_rng _).1 | decide) (by first | omega | assumption | (show v81.toInt ≤ (m17 123 41).toInt; omega) | decide) kgM kin71 I58 K59 (by omega)
          have z127 : (0 : Int32).toInt = 0 := by decide
          have kin57 : WYR n33 (m17 149) (m17 150) (m17 123 40).toInt.toNat (m17 123 41).toInt.toNat (0 : Int32).toInt.toNat := by rw [show (0 : Int32).toInt.toNat = 0 from (by decide)]; exact k55
          exact lp61 (((40 - 0) : Int).toNat + 1) 0 m32 n33 (by first | omega | assumption | exact (iv_rng _).2 | exact (iv_rng _).1 | decide) (by first | omega | assumption | exact (iv_rng _).2 | exact (iv_rng _).1 | decide) (by first | omega | assumption | (show 0 ≤ (m17 123 40).toInt; omega) | decide) kgM kin57 I34 K35 (by omega)
        · have c53 := iv_nlt (X := v52.toInt) (Y := y31.toInt) c53 rfl rfl
          refine pv_aload_n (M := mX12_ways) 0 dX12_ways_34 35 rfl rfl rfl ?_
          refine mv_get (M := mX12_ways) (v := .ref 151) dX12_ways_35 FX12 44 wd1217 (by decide) (tl123 hT) rfl rfl 38 rfl ?_
          refine pv_iload_n (M := mX12_ways) 3 dX12_ways_38 39 rfl rfl rfl ?_
          refine pv_iload_n (M := mX12_ways) 3 dX12_ways_39 40 rfl rfl rfl ?_
          refine pv_if_ne (M := mX12_ways) (tgt := 47) dX12_ways_40 43 rfl (by decide) (fun c129 => ?_) (fun c129 => ?_)
          · have c129 := iv_ne (X := y31.toInt) (Y := 0) c129 rfl (by decide)
            refine pv_lconst (M := mX12_ways) (v := 0) dX12_ways_47 48 rfl (by decide) ?_
            have k48 : (0 : Int64) = if y31.toInt.toNat = 0 then 1 else 0 := by first | (rw [if_pos (by omega)]) | (rw [if_neg (by omega)])
            refine iv_last (M := mX12_ways) (X := y31.toInt) dX12_ways_48 (tl151 hT) rfl (by omega) (by omega) 49 rfl (fun n131 en131 => ?_)
            refine iv_inc (M := mX12_ways) (C := 1) dX12_ways_49 52 rfl rfl (by decide) rfl rfl (by decide) (by omega) (by omega) (fun v132 ev132 => ?_)
            show PV _ _ _ _ _ _ _ 52 [.ref 123, .int x0, .int x1, .int v132, pv_U] [] _
            refine pv_goto (M := mX12_ways) (tgt := 26) dX12_ways_52 (by decide) ?_
            have kb26 : WYS n131 v132.toInt := WYS_s (i := (y31.toInt).toNat) kg26 ((en131).trans (upg_ix (by omega))) (by omega) k48 (by omega)
            exact ih38 v132 m32 n131 (by first | omega | assumption | exact (iv_rng _).2 | exact (iv_rng _).1 | decide) (by first | omega | assumption | exact (iv_rng _).2 | exact (iv_rng _).1 | decide) (by first | omega | assumption | (show v132.toInt ≤ (m17 123 41).toInt + 1; omega) | decide) kgM kb26 I34 K35 (by omega)
          · have c129 := iv_eq (X := y31.toInt) (Y := 0) c129 rfl (by decide)
            refine pv_lconst (M := mX12_ways) (v := 1) dX12_ways_43 44 rfl (by decide) ?_
            refine pv_goto (M := mX12_ways) (tgt := 48) dX12_ways_44 (by decide) ?_
            have k48 : (1 : Int64) = if y31.toInt.toNat = 0 then 1 else 0 := by first | (rw [if_pos (by omega)]) | (rw [if_neg (by omega)])
            refine iv_last (M := mX12_ways) (X := y31.toInt) dX12_ways_48 (tl151 hT) rfl (by omega) (by omega) 49 rfl (fun n135 en135 => ?_)
            refine iv_inc (M := mX12_ways) (C := 1) dX12_ways_49 52 rfl rfl (by decide) rfl rfl (by decide) (by omega) (by omega) (fun v136 ev136 => ?_)
            show PV _ _ _ _ _ _ _ 52 [.ref 123, .int x0, .int x1, .int v136, pv_U] [] _
            refine pv_goto (M := mX12_ways) (tgt := 26) dX12_ways_52 (by decide) ?_
            have kb26 : WYS n135 v136.toInt := WYS_s (i := (y31.toInt).toNat) kg26 ((en135).trans (upg_ix (by omega))) (by omega) k48 (by omega)
            exact ih38 v136 m32 n135 (by first | omega | assumption | exact (iv_rng _).2 | exact (iv_rng _).1 | decide) (by first | omega | assumption | exact (iv_rng _).2 | exact (iv_rng _).1 | decide) (by first | omega | assumption | (show v136.toInt ≤ (m17 123 41).toInt + 1; omega) | decide) kgM kb26 I34 K35 (by omega)
    have z138 : (0 : Int32).toInt = 0 := by decide
    exact lp37 (((17 - 0) : Int).toNat + 1) 0 m17 n18 (by first | omega | assumption | exact (iv_rng _).2 | exact (iv_rng _).1 | decide) (by first | omega | assumption | exact (iv_rng _).2 | exact (iv_rng _).1 | decide) (by first | omega | assumption | (show 0 ≤ (m17 123 41).toInt + 1; omega) | decide) rfl (by (try dsimp only); exact WYS_0) I19 K20 (by omega)
  · have c4 := iv_eq (X := v2.toInt) (Y := 0) c4 rfl (by decide)
    refine pv_ldc2 (M := mX12_ways) (v := (-1)) dX12_ways_9 12 rfl wd1562 ?_
    exact pv_lret (M := mX12_ways) dX12_ways_12 rfl ⟨_, _, _, rfl, rfl, I, Kp, (Or.inl ⟨fun q => by have q1 := q.1; have q2 := q.2.1; have q3 := q.2.2; omega, rfl⟩)⟩
