set_option maxHeartbeats 2000000 in
set_option maxRecDepth 20000 in
theorem s_X8_add_vy (g : pv_G) {T : List mv_T} {m : Nat → Nat → Int32} {n : Nat → Nat → Int64} {r : Nat → Value} (hT : TX T) (I : IV BB m) (aT : Nat) (rmT : Nat) (haT : RowAt T aT rmT) (x0 : Int32) (hp0 : (m aT 1).toInt < (rmT : Int)) : PM g mX8_add yX8_add (sqV T BB (wl [(aT, (aT + 1), none)]) r m (fun m' => (m' aT 1).toInt = (m aT 1).toInt + 1 ∧ m' (aT + 1) (m aT 1).toInt.toNat = x0 ∧ ∀ j : Nat, j ≠ (m aT 1).toInt.toNat → m' (aT + 1) j = m (aT + 1) j)) 1 0 0 [.ref aT, .int x0] (mk T m n r) := by
  have Kp : fr (wl [(aT, (aT + 1), none)]) m m := fr.rf
  have zrT := haT.2.2.2.2
  refine PM.of 0 (lo := [.ref aT, .int x0]) rfl (by decide) rfl rfl (Nat.le_of_ble_eq_true rfl) ?_
  refine pv_aload_n (M := mX8_add) 0 dX8_add_0 1 rfl rfl rfl ?_
  refine iv_get (M := mX8_add) (l1 := 0) (l2 := (rmT : Int)) dX8_add_1 FX8 1 wd193 (by decide) haT.1 rfl I haT.2.2.1 4 rfl (fun v1 ev1 pv1 qv1 => ?_)
  have wv1 : v1.toInt = (m aT 1).toInt := congrArg Int32.toInt ev1
  refine pv_aload_n (M := mX8_add) 0 dX8_add_4 5 rfl rfl rfl ?_
  refine mv_get (M := mX8_add) (v := .ref (aT + 1)) dX8_add_5 FX8 0 wd187 (by decide) haT.1 rfl rfl 8 rfl ?_
  refine iv_alen0 (M := mX8_add) dX8_add_8 haT.2.1 (by omega) 9 rfl (fun v2 ev2 => ?_)
  refine pv_icmp_ge (M := mX8_add) (tgt := 32) dX8_add_9 12 rfl (by decide) (fun c3 => ?_) (fun c3 => ?_)
  · have c3 := iv_le (X := v2.toInt) (Y := v1.toInt) c3 rfl rfl
    exact pv_vret (M := mX8_add) dX8_add_32 rfl ⟨_, _, rfl, rfl, I, Kp, (by first | exact ⟨by omega, by rw [noE, up2_ne (by omega), k22, up2_eq], fun j h => by rw [noE, up2_ne (by omega), k22, up2_ne (by omega)]⟩ | (exfalso; omega))⟩
  · have c3 := iv_nle (X := v2.toInt) (Y := v1.toInt) c3 rfl rfl
    refine pv_aload_n (M := mX8_add) 0 dX8_add_12 13 rfl rfl rfl ?_
    refine mv_get (M := mX8_add) (v := .ref (aT + 1)) dX8_add_13 FX8 0 wd187 (by decide) haT.1 rfl rfl 16 rfl ?_
    refine pv_aload_n (M := mX8_add) 0 dX8_add_16 17 rfl rfl rfl ?_
    refine iv_get (M := mX8_add) (l1 := 0) (l2 := (rmT : Int)) dX8_add_17 FX8 1 wd193 (by decide) haT.1 rfl I haT.2.2.1 20 rfl (fun v4 ev4 pv4 qv4 => ?_)
    have wv4 : v4.toInt = (m aT 1).toInt := congrArg Int32.toInt ev4
    refine pv_iload_n (M := mX8_add) 1 dX8_add_20 21 rfl rfl rfl ?_
    refine iv_iast (M := mX8_add) (X := v4.toInt) (l1 := (-2147483648)) (l2 := 2147483647) dX8_add_21 haT.2.1 rfl (by omega) (by omega) I haT.2.2.2.1 (iv_rng x0).1 (iv_rng x0).2 22 rfl (fun m5 e8 I6 => ?_)
    have K7 := Kp.set e8 (wl_r (by omega) (by omega))
    have w9 : (m5 aT 1).toInt = (m aT 1).toInt := by rw [e8, up2_ne (by omega)]
    have k22 := (e8).trans (up2_ix (j := (m aT 1).toInt.toNat) (by omega))
    refine pv_aload_n (M := mX8_add) 0 dX8_add_22 23 rfl rfl rfl ?_
    refine pv_dup (M := mX8_add) dX8_add_23 24 rfl rfl ?_
    refine iv_get (M := mX8_add) (l1 := 0) (l2 := (rmT : Int)) dX8_add_24 FX8 1 wd193 (by decide) haT.1 rfl I6 haT.2.2.1 27 rfl (fun v11 ev11 pv11 qv11 => ?_)
    have wv11 : v11.toInt = (m5 aT 1).toInt := congrArg Int32.toInt ev11
    refine pv_iconst (M := mX8_add) (v := 1) dX8_add_27 28 rfl (by decide) ?_
    refine iv_iadd (M := mX8_add) (X := v11.toInt) (Y := 1) dX8_add_28 29 rfl rfl (by decide) (by omega) (by omega) (fun v12 ev12 => ?_)
    refine iv_put (M := mX8_add) (l1 := 0) (l2 := (rmT : Int)) dX8_add_29 FX8 1 wd193 (by decide) rfl haT.1 rfl rfl rfl I6 haT.2.2.1 (by omega) (by omega) 32 rfl (fun m13 e16 I14 => ?_)
    have K15 := K7.set e16 (wl_r (by omega) (by omega))
    have w17 : (m13 aT 1).toInt = v12.toInt := by rw [e16, up2_eq]
    exact pv_vret (M := mX8_add) dX8_add_32 rfl ⟨_, _, rfl, rfl, I14, K15, (by first | exact ⟨by omega, by rw [e16, up2_ne (by omega), k22, up2_eq], fun j h => by rw [e16, up2_ne (by omega), k22, up2_ne (by omega)]⟩ | (exfalso; omega))⟩

set_option maxHeartbeats 2000000 in
set_option maxRecDepth 20000 in
theorem s_X10_copyLetters_vy (g : pv_G) {T : List mv_T} {m : Nat → Nat → Int32} {n : Nat → Nat → Int64} {r : Nat → Value} (hT : TX T) (I : IV BB m) (x0 : Int32) (hl0 : 0 ≤ x0.toInt) (hh0 : x0.toInt ≤ 48) (a1 : Nat) (rm1 : Nat) (ha1 : RowAt T a1 rm1) (hp0 : x0.toInt ≤ (rm1 : Int)) : PM g mX10_copyLetters yX10_copyLetters (sqV T BB (wl [(a1, (a1 + 1), none)]) r m (fun m' => (m' a1 1).toInt = x0.toInt ∧ ∀ k : Nat, (k : Int) < x0.toInt → (m' (a1 + 1) k).toInt = (m 2 k).toInt - 97)) 2 0 0 [.ref 1, .int x0, .ref a1] (mk T m n r) := by
  have Kp : fr (wl [(a1, (a1 + 1), none)]) m m := fr.rf
  have zr1 := ha1.2.2.2.2
  refine PM.of 1 (lo := [.ref 1, .int x0, .ref a1, pv_U]) rfl (by decide) rfl rfl (Nat.le_of_ble_eq_true rfl) ?_
  refine pv_aload_n (M := mX10_copyLetters) 2 dX10_copyLetters_0 1 rfl rfl rfl ?_
  refine pv_iconst (M := mX10_copyLetters) (v := 0) dX10_copyLetters_1 2 rfl (by decide) ?_
  refine iv_put (M := mX10_copyLetters) (l1 := 0) (l2 := (rm1 : Int)) dX10_copyLetters_2 FX8 1 wd199 (by decide) rfl ha1.1 rfl rfl rfl I ha1.2.2.1 (by decide) (by have : ((0 : Int32).toInt) = 0 := (by decide); omega) 5 rfl (fun m1 e4 I2 => ?_)
  have K3 := Kp.set e4 (wl_r (by omega) (by omega))
  have w5 : (m1 a1 1).toInt = 0 := by rw [e4, up2_eq] <;> rfl
  refine pv_iconst (M := mX10_copyLetters) (v := 0) dX10_copyLetters_5 6 rfl (by decide) ?_
  refine pv_istore_n (M := mX10_copyLetters) 3 (lo2 := [.ref 1, .int x0, .ref a1, .int 0]) dX10_copyLetters_6 7 rfl rfl (by decide) rfl rfl ?_
  have lp12 : ∀ (fuel11 : Nat) (y6 : Int32) (m7 : Nat → Nat → Int32) (n8 : Nat → Nat → Int64), (0 ≤ y6.toInt) → (y6.toInt ≤ 48) → (y6.toInt ≤ x0.toInt) → ((m7 a1 1).toInt = y6.toInt) → (∀ k : Nat, (k : Int) < y6.toInt → (m7 (a1 + 1) k).toInt = (m 2 k).toInt - 97) → IV BB m7 → fr (wl [(a1, (a1 + 1), none)]) m m7 → ((48 - y6.toInt) : Int).toNat < fuel11 → PV none g mX10_copyLetters (sqV T BB (wl [(a1, (a1 + 1), none)]) r m (fun m' => (m' a1 1).toInt = x0.toInt ∧ ∀ k : Nat, (k : Int) < x0.toInt → (m' (a1 + 1) k).toInt = (m 2 k).toInt - 97)) 2 0 0 7 [.ref 1, .int x0, .ref a1, .int y6] [] (mk T m7 n8 r) := by
    intro fuel11
    induction fuel11 with
    | zero => intro y6 m7 n8 b14 b15 b16 b17 b18 I9 K10 z19; omega
    | succ fuel11 ih13 =>
      intro y6 m7 n8 b14 b15 b16 b17 b18 I9 K10 z19
      have kg := (show ∀ k : Nat, (k : Int) < y6.toInt → (m7 (a1 + 1) k).toInt = (m 2 k).toInt - 97 by assumption)
      refine pv_iload_n (M := mX10_copyLetters) 3 dX10_copyLetters_7 8 rfl rfl rfl ?_
      refine pv_iload_n (M := mX10_copyLetters) 1 dX10_copyLetters_8 9 rfl rfl rfl ?_
      refine pv_icmp_ge (M := mX10_copyLetters) (tgt := 38) dX10_copyLetters_9 12 rfl (by decide) (fun c21 => ?_) (fun c21 => ?_)
      · have c21 := iv_le (X := x0.toInt) (Y := y6.toInt) c21 rfl rfl
        exact pv_vret (M := mX10_copyLetters) dX10_copyLetters_38 rfl ⟨_, _, rfl, rfl, I9, K10, ⟨by omega, fun k a => kg k (by omega)⟩⟩
      · have c21 := iv_nle (X := x0.toInt) (Y := y6.toInt) c21 rfl rfl
        refine pv_iload_n (M := mX10_copyLetters) 3 dX10_copyLetters_12 13 rfl rfl rfl ?_
        refine pv_sipush (M := mX10_copyLetters) (v := 200) dX10_copyLetters_13 16 rfl (by decide) ?_
        refine pv_icmp_ge (M := mX10_copyLetters) (tgt := 38) dX10_copyLetters_16 19 rfl (by decide) (fun c22 => ?_) (fun c22 => ?_)
        · have c22 := iv_le (X := 200) (Y := y6.toInt) c22 (by decide) rfl
          omega
        · have c22 := iv_nle (X := 200) (Y := y6.toInt) c22 (by decide) rfl
          refine pv_aload_n (M := mX10_copyLetters) 2 dX10_copyLetters_19 20 rfl rfl rfl ?_
          refine pv_aload_n (M := mX10_copyLetters) 0 dX10_copyLetters_20 21 rfl rfl rfl ?_
          refine mv_get (M := mX10_copyLetters) (v := .ref 2) dX10_copyLetters_21 FX10 0 wd161 (by decide) (tl1 hT) rfl rfl 24 rfl ?_
          refine pv_iload_n (M := mX10_copyLetters) 3 dX10_copyLetters_24 25 rfl rfl rfl ?_
          refine iv_iald (M := mX10_copyLetters) (X := y6.toInt) (l1 := 0) (l2 := 255) dX10_copyLetters_25 (tl2 hT) rfl (by omega) (by omega) I9 (fun _ => rfl) 26 rfl (fun v23 ev23 pv23 qv23 => ?_)
          have k26 : v23.toInt = (m 2 y6.toInt.toNat).toInt := congrArg Int32.toInt (ev23.trans (K10 2 _ (wr_out (by omega))))
          refine pv_bipush (M := mX10_copyLetters) (v := 97) dX10_copyLetters_26 28 rfl (by decide) ?_
          refine iv_isub (M := mX10_copyLetters) (X := v23.toInt) (Y := 97) dX10_copyLetters_28 29 rfl rfl (by decide) (by omega) (by omega) (fun v25 ev25 => ?_)
          have k29 : v25.toInt = (m 2 y6.toInt.toNat).toInt - 97 := by omega
          refine pv_callv (M := mX10_copyLetters) (as := [.int v25]) (st := []) (kc2 := 0) (ks2 := 0) dX10_copyLetters_29 wd487 YX8_add ⟨wd488, wd489⟩ (mk_get ha1.1) rfl rfl (s_X8_add_vy g hT I9 a1 rm1 ha1 v25 (by omega)) rfl rfl (Nat.le_of_ble_eq_true rfl) (by decide) rfl rfl 32 rfl (fun rv h1 q27 => ?_)
          obtain ⟨m28, n29, rfl, rfl, I30, K31, rm28⟩ := q27
          replace rm28 : (m28 a1 1).toInt = (m7 a1 1).toInt + 1 ∧ m28 (a1 + 1) (m7 a1 1).toInt.toNat = v25 ∧ ∀ j : Nat, j ≠ (m7 a1 1).toInt.toNat → m28 (a1 + 1) j = m7 (a1 + 1) j := rm28
          have K31c := K31
          have K31 := K10.trans (K31.sub (fun _ _ q => q))
          show PV _ _ _ _ _ _ _ 32 [.ref 1, .int x0, .ref a1, .int y6] [] _
          have k32 := rm28
          refine iv_inc (M := mX10_copyLetters) (C := 1) dX10_copyLetters_32 35 rfl rfl (by decide) rfl rfl (by decide) (by omega) (by omega) (fun v33 ev33 => ?_)
          show PV _ _ _ _ _ _ _ 35 [.ref 1, .int x0, .ref a1, .int v33] [] _
          refine pv_goto (M := mX10_copyLetters) (tgt := 7) dX10_copyLetters_35 (by decide) ?_
          have kb : ∀ k : Nat, (k : Int) < v33.toInt → (m28 (a1 + 1) k).toInt = (m 2 k).toInt - 97 := fun k a => if z : (k : Int) = y6.toInt then (by have q := k32.2.1; rw [show (m7 a1 1).toInt.toNat = (y6.toInt).toNat by omega] at q; rw [show k = (y6.toInt).toNat by omega, q]; exact k29) else (by rw [k32.2.2 k (by omega)]; exact kg k (by omega))
          exact ih13 v33 m28 n29 (by first | omega | assumption | exact (iv_rng _).2 | exact (iv_rng _).1 | decide) (by first | omega | assumption | exact (iv_rng _).2 | exact (iv_rng _).1 | decide) (by first | omega | assumption | (show v33.toInt ≤ x0.toInt; omega) | decide) (by first | omega | assumption | (show (m28 a1 1).toInt = v33.toInt; omega) | decide) kb I30 K31 (by omega)
  have z35 : (0 : Int32).toInt = 0 := by decide
  exact lp12 (((48 - 0) : Int).toNat + 1) 0 m1 n (by first | omega | assumption | exact (iv_rng _).2 | exact (iv_rng _).1 | decide) (by first | omega | assumption | exact (iv_rng _).2 | exact (iv_rng _).1 | decide) (by first | omega | assumption | (show 0 ≤ x0.toInt; omega) | decide) (by first | omega | assumption | (show (m1 a1 1).toInt = 0; omega) | decide) (fun k a => by rw [Int32.toInt_zero] at a; omega) I2 K3 (by omega)

set_option maxHeartbeats 2000000 in
set_option maxRecDepth 20000 in
theorem s_X11_deed_v0y (g : pv_G) {T : List mv_T} {m : Nat → Nat → Int32} {n : Nat → Nat → Int64} {r : Nat → Value} {la lb : Nat} (hT : TX T) (I : IV BB m) (R : RX T r la lb) (hc0 : r 2 = .null) (x0 : Int32) (x1 : Int32) : PM g mX11_deed yX11_deed (sqI T BB wPd r m (-2147483648) 2147483647 (fun m' v => DDK x0.toInt x1.toInt (m 1 1).toInt (LET 2 m x1.toInt) v.toInt (m' 1 1).toInt ∧ DDWc m m' x0.toInt x1.toInt v.toInt)) 3 0 0 [.ref 0, .int x0, .int x1] (mk T m n r) := by
  have Kp : fr wPd m m := fr.rf
  have R0 := R
  have zR := R.2.2.2.2.1.1
  have zR2 := R.2.2.2.2.2.1
  have z47 : 0 ≤ (m 1 1).toInt ∧ (m 1 1).toInt ≤ 200 := I 1 1
  refine PM.of 1 (lo := [.ref 0, .int x0, .int x1, pv_U]) rfl (by decide) rfl rfl (Nat.le_of_ble_eq_true rfl) ?_
  refine pv_iload_n (M := mX11_deed) 1 dX11_deed_0 1 rfl rfl rfl ?_
  refine pv_if_lt (M := mX11_deed) (tgt := 32) dX11_deed_1 4 rfl (by decide) (fun c1 => ?_) (fun c1 => ?_)
  · have c1 := iv_lt (X := x0.toInt) (Y := 0) c1 rfl (by decide)
    refine pv_iconst (M := mX11_deed) (v := (-1)) dX11_deed_32 33 rfl (by decide) ?_
    have z2 : ((-1) : Int32).toInt = (-1) := by decide
    exact pv_iret (M := mX11_deed) dX11_deed_33 rfl rfl ⟨_, _, _, rfl, rfl, I, Kp, by decide, by decide, ⟨(by first | exact Or.inr ⟨by omega, (by first | omega | decide), (by first | omega | decide)⟩ | exact Or.inl ⟨by omega, by omega, by omega, by omega, by omega, (by first | omega | decide), (kf.elim (fun q => Or.inl ⟨q.2, (by first | omega | decide)⟩) (fun q => by exfalso; omega))⟩ | exact Or.inl ⟨by omega, by omega, by omega, by omega, by omega, (by first | omega | decide), (kf.elim (fun q => by exfalso; omega) (fun q => Or.inr ⟨q.2, (by first | omega | decide)⟩))⟩), (by first | exact ⟨fun _ _ _ _ => rfl, fun q => absurd q (by decide)⟩ | exact ⟨fun a j h _ => by have z := isW_b h; rw [noE, up2_ne (by omega)], fun q => absurd q (by decide)⟩ | exact ⟨fun a j h h1 => by have z := isW_b h; rw [noE, up2_ne (by omega), kgf a j (wN_isW h), kcf a j (wr_out (by omega))], fun q => ⟨by rw [noE, up2_ne (by omega), kgf _ _ (wN_isW (isW_i (by omega))), ← kbx]; exact kc.1, fun k hk => by rw [noE, up2_ne (by omega), kgf _ _ (wN_isW (isW_i (by omega))), ← kby]; exact kc.2 k hk⟩⟩)⟩⟩
  · have c1 := iv_nlt (X := x0.toInt) (Y := 0) c1 rfl (by decide)
    refine pv_iload_n (M := mX11_deed) 1 dX11_deed_4 5 rfl rfl rfl ?_
    refine pv_bipush (M := mX11_deed) (v := 8) dX11_deed_5 7 rfl (by decide) ?_
    refine pv_icmp_ge (M := mX11_deed) (tgt := 32) dX11_deed_7 10 rfl (by decide) (fun c3 => ?_) (fun c3 => ?_)
    · have c3 := iv_le (X := 8) (Y := x0.toInt) c3 (by decide) rfl
      refine pv_iconst (M := mX11_deed) (v := (-1)) dX11_deed_32 33 rfl (by decide) ?_
      have z4 : ((-1) : Int32).toInt = (-1) := by decide
      exact pv_iret (M := mX11_deed) dX11_deed_33 rfl rfl ⟨_, _, _, rfl, rfl, I, Kp, by decide, by decide, ⟨(by first | exact Or.inr ⟨by omega, (by first | omega | decide), (by first | omega | decide)⟩ | exact Or.inl ⟨by omega, by omega, by omega, by omega, by omega, (by first | omega | decide), (kf.elim (fun q => Or.inl ⟨q.2, (by first | omega | decide)⟩) (fun q => by exfalso; omega))⟩ | exact Or.inl ⟨by omega, by omega, by omega, by omega, by omega, (by first | omega | decide), (kf.elim (fun q => by exfalso; omega) (fun q => Or.inr ⟨q.2, (by first | omega | decide)⟩))⟩), (by first | exact ⟨fun _ _ _ _ => rfl, fun q => absurd q (by decide)⟩ | exact ⟨fun a j h _ => by have z := isW_b h; rw [noE, up2_ne (by omega)], fun q => absurd q (by decide)⟩ | exact ⟨fun a j h h1 => by have z := isW_b h; rw [noE, up2_ne (by omega), kgf a j (wN_isW h), kcf a j (wr_out (by omega))], fun q => ⟨by rw [noE, up2_ne (by omega), kgf _ _ (wN_isW (isW_i (by omega))), ← kbx]; exact kc.1, fun k hk => by rw [noE, up2_ne (by omega), kgf _ _ (wN_isW (isW_i (by omega))), ← kby]; exact kc.2 k hk⟩⟩)⟩⟩
    · have c3 := iv_nle (X := 8) (Y := x0.toInt) c3 (by decide) rfl
      refine pv_iload_n (M := mX11_deed) 2 dX11_deed_10 11 rfl rfl rfl ?_
      refine pv_iconst (M := mX11_deed) (v := 1) dX11_deed_11 12 rfl (by decide) ?_
      refine pv_icmp_lt (M := mX11_deed) (tgt := 32) dX11_deed_12 15 rfl (by decide) (fun c5 => ?_) (fun c5 => ?_)
      · have c5 := iv_lt (X := x1.toInt) (Y := 1) c5 rfl (by decide)
        refine pv_iconst (M := mX11_deed) (v := (-1)) dX11_deed_32 33 rfl (by decide) ?_
        have z6 : ((-1) : Int32).toInt = (-1) := by decide
        exact pv_iret (M := mX11_deed) dX11_deed_33 rfl rfl ⟨_, _, _, rfl, rfl, I, Kp, by decide, by decide, ⟨(by first | exact Or.inr ⟨by omega, (by first | omega | decide), (by first | omega | decide)⟩ | exact Or.inl ⟨by omega, by omega, by omega, by omega, by omega, (by first | omega | decide), (kf.elim (fun q => Or.inl ⟨q.2, (by first | omega | decide)⟩) (fun q => by exfalso; omega))⟩ | exact Or.inl ⟨by omega, by omega, by omega, by omega, by omega, (by first | omega | decide), (kf.elim (fun q => by exfalso; omega) (fun q => Or.inr ⟨q.2, (by first | omega | decide)⟩))⟩), (by first | exact ⟨fun _ _ _ _ => rfl, fun q => absurd q (by decide)⟩ | exact ⟨fun a j h _ => by have z := isW_b h; rw [noE, up2_ne (by omega)], fun q => absurd q (by decide)⟩ | exact ⟨fun a j h h1 => by have z := isW_b h; rw [noE, up2_ne (by omega), kgf a j (wN_isW h), kcf a j (wr_out (by omega))], fun q => ⟨by rw [noE, up2_ne (by omega), kgf _ _ (wN_isW (isW_i (by omega))), ← kbx]; exact kc.1, fun k hk => by rw [noE, up2_ne (by omega), kgf _ _ (wN_isW (isW_i (by omega))), ← kby]; exact kc.2 k hk⟩⟩)⟩⟩
      · have c5 := iv_nlt (X := x1.toInt) (Y := 1) c5 rfl (by decide)
        refine pv_iload_n (M := mX11_deed) 2 dX11_deed_15 16 rfl rfl rfl ?_
        refine pv_bipush (M := mX11_deed) (v := 16) dX11_deed_16 18 rfl (by decide) ?_
        refine pv_icmp_gt (M := mX11_deed) (tgt := 32) dX11_deed_18 21 rfl (by decide) (fun c7 => ?_) (fun c7 => ?_)
        · have c7 := iv_lt (X := 16) (Y := x1.toInt) c7 (by decide) rfl
          refine pv_iconst (M := mX11_deed) (v := (-1)) dX11_deed_32 33 rfl (by decide) ?_
          have z8 : ((-1) : Int32).toInt = (-1) := by decide
          exact pv_iret (M := mX11_deed) dX11_deed_33 rfl rfl ⟨_, _, _, rfl, rfl, I, Kp, by decide, by decide, ⟨(by first | exact Or.inr ⟨by omega, (by first | omega | decide), (by first | omega | decide)⟩ | exact Or.inl ⟨by omega, by omega, by omega, by omega, by omega, (by first | omega | decide), (kf.elim (fun q => Or.inl ⟨q.2, (by first | omega | decide)⟩) (fun q => by exfalso; omega))⟩ | exact Or.inl ⟨by omega, by omega, by omega, by omega, by omega, (by first | omega | decide), (kf.elim (fun q => by exfalso; omega) (fun q => Or.inr ⟨q.2, (by first | omega | decide)⟩))⟩), (by first | exact ⟨fun _ _ _ _ => rfl, fun q => absurd q (by decide)⟩ | exact ⟨fun a j h _ => by have z := isW_b h; rw [noE, up2_ne (by omega)], fun q => absurd q (by decide)⟩ | exact ⟨fun a j h h1 => by have z := isW_b h; rw [noE, up2_ne (by omega), kgf a j (wN_isW h), kcf a j (wr_out (by omega))], fun q => ⟨by rw [noE, up2_ne (by omega), kgf _ _ (wN_isW (isW_i (by omega))), ← kbx]; exact kc.1, fun k hk => by rw [noE, up2_ne (by omega), kgf _ _ (wN_isW (isW_i (by omega))), ← kby]; exact kc.2 k hk⟩⟩)⟩⟩
        · have c7 := iv_nlt (X := 16) (Y := x1.toInt) c7 (by decide) rfl
          refine pv_iload_n (M := mX11_deed) 2 dX11_deed_21 22 rfl rfl rfl ?_
          refine pv_aload_n (M := mX11_deed) 0 dX11_deed_22 23 rfl rfl rfl ?_
          refine mv_get (M := mX11_deed) (v := .ref 1) dX11_deed_23 FX11 0 wd407 (by decide) (tl0 hT) rfl rfl 26 rfl ?_
          refine iv_get (M := mX11_deed) (l1 := 0) (l2 := 200) dX11_deed_26 FX10 1 wd164 (by decide) (tl1 hT) rfl I rfl 29 rfl (fun v9 ev9 pv9 qv9 => ?_)
          have wv9 : v9.toInt = (m 1 1).toInt := congrArg Int32.toInt ev9
          refine pv_icmp_le (M := mX11_deed) (tgt := 34) dX11_deed_29 32 rfl (by decide) (fun c10 => ?_) (fun c10 => ?_)
          · have c10 := iv_le (X := x1.toInt) (Y := v9.toInt) c10 rfl rfl
            refine pv_aload_n (M := mX11_deed) 0 dX11_deed_34 35 rfl rfl rfl ?_
            refine mv_get (M := mX11_deed) (v := .ref 1) dX11_deed_35 FX11 0 wd407 (by decide) (tl0 hT) rfl rfl 38 rfl ?_
            refine pv_iload_n (M := mX11_deed) 2 dX11_deed_38 39 rfl rfl rfl ?_
            refine pv_callv (M := mX11_deed) (as := [.int x1]) (st := []) (kc2 := 0) (ks2 := 0) dX11_deed_39 wd479 YX10_holdsLetters ⟨wd480, wd481⟩ (mk_get (tl1 hT)) rfl rfl (s_X10_holdsLetters_vx g hT I x1 (by omega) (by omega)) rfl rfl (Nat.le_of_ble_eq_true rfl) (by decide) rfl rfl 42 rfl (fun rv h1 q11 => ?_)
            obtain ⟨v12, rfl, rfl, pv12, qv12, rv12⟩ := q11
            replace rv12 : (v12.toInt = 1 ∧ LET 2 m x1.toInt) ∨ (v12.toInt = 0 ∧ ¬ LET 2 m x1.toInt) := rv12
            show PV _ _ _ _ _ _ _ 42 [.ref 0, .int x0, .int x1, pv_U] [.int v12] _
            have kf := rv12
            refine pv_istore_n (M := mX11_deed) 3 (lo2 := [.ref 0, .int x0, .int x1, .int v12]) dX11_deed_42 43 rfl rfl (by decide) rfl rfl ?_
            refine pv_iload_n (M := mX11_deed) 3 dX11_deed_43 44 rfl rfl rfl ?_
            refine pv_if_eq (M := mX11_deed) (tgt := 65) dX11_deed_44 47 rfl (by decide) (fun c14 => ?_) (fun c14 => ?_)
            · have c14 := iv_eq (X := v12.toInt) (Y := 0) c14 rfl (by decide)
              try have kgf := noE
              refine pv_aload_n (M := mX11_deed) 0 dX11_deed_65 66 rfl rfl rfl ?_
              refine mv_get (M := mX11_deed) (v := .ref 1) dX11_deed_66 FX11 0 wd407 (by decide) (tl0 hT) rfl rfl 69 rfl ?_
              refine pv_iconst (M := mX11_deed) (v := 0) dX11_deed_69 70 rfl (by decide) ?_
              refine iv_put (M := mX11_deed) (l1 := 0) (l2 := 200) dX11_deed_70 FX10 1 wd164 (by decide) rfl (tl1 hT) rfl rfl rfl I rfl (by decide) (by decide) 73 rfl (fun m16 e19 I17 => ?_)
              have K18 := Kp.set e19 (by first | rfl | decide)
              have w20 : (m16 1 1).toInt = 0 := by rw [e19, up2_eq] <;> rfl
              refine pv_iload_n (M := mX11_deed) 3 dX11_deed_73 74 rfl rfl rfl ?_
              refine pv_if_eq (M := mX11_deed) (tgt := 81) dX11_deed_74 77 rfl (by decide) (fun c21 => ?_) (fun c21 => ?_)
              · have c21 := iv_eq (X := v12.toInt) (Y := 0) c21 rfl (by decide)
                refine pv_bipush (M := mX11_deed) (v := (-2)) dX11_deed_81 83 rfl (by decide) ?_
                have z22 : ((-2) : Int32).toInt = (-2) := by decide
                exact pv_iret (M := mX11_deed) dX11_deed_83 rfl rfl ⟨_, _, _, rfl, rfl, I17, K18, by decide, by decide, ⟨(by first | exact Or.inr ⟨by omega, (by first | omega | decide), (by first | omega | decide)⟩ | exact Or.inl ⟨by omega, by omega, by omega, by omega, by omega, (by first | omega | decide), (kf.elim (fun q => Or.inl ⟨q.2, (by first | omega | decide)⟩) (fun q => by exfalso; omega))⟩ | exact Or.inl ⟨by omega, by omega, by omega, by omega, by omega, (by first | omega | decide), (kf.elim (fun q => by exfalso; omega) (fun q => Or.inr ⟨q.2, (by first | omega | decide)⟩))⟩), (by first | exact ⟨fun _ _ _ _ => rfl, fun q => absurd q (by decide)⟩ | exact ⟨fun a j h _ => by have z := isW_b h; rw [e19, up2_ne (by omega)], fun q => absurd q (by decide)⟩ | exact ⟨fun a j h h1 => by have z := isW_b h; rw [e19, up2_ne (by omega), kgf a j (wN_isW h), kcf a j (wr_out (by omega))], fun q => ⟨by rw [e19, up2_ne (by omega), kgf _ _ (wN_isW (isW_i (by omega))), ← kbx]; exact kc.1, fun k hk => by rw [e19, up2_ne (by omega), kgf _ _ (wN_isW (isW_i (by omega))), ← kby]; exact kc.2 k hk⟩⟩)⟩⟩
              · have c21 := iv_ne (X := v12.toInt) (Y := 0) c21 rfl (by decide)
                omega
            · have c14 := iv_ne (X := v12.toInt) (Y := 0) c14 rfl (by decide)
              refine pv_aload_n (M := mX11_deed) 0 dX11_deed_47 48 rfl rfl rfl ?_
              refine mv_get (M := mX11_deed) (v := .ref 1) dX11_deed_48 FX11 0 wd407 (by decide) (tl0 hT) rfl rfl 51 rfl ?_
              refine pv_iload_n (M := mX11_deed) 2 dX11_deed_51 52 rfl rfl rfl ?_
              refine pv_aload_n (M := mX11_deed) 0 dX11_deed_52 53 rfl rfl rfl ?_
              refine mv_get (M := mX11_deed) (v := .ref 60) dX11_deed_53 FX11 3 wd410 (by decide) (tl0 hT) rfl rfl 56 rfl ?_
              refine pv_iload_n (M := mX11_deed) 1 dX11_deed_56 57 rfl rfl rfl ?_
              refine iv_qdeed (M := mX11_deed) (X := x0.toInt) dX11_deed_57 hT R rfl (by omega) (by omega) 58 rfl (fun b23 eb23 hb23 => ?_)
              have zb23 := hb23.2.2.2.2
              have kbx : b23 = 61 + 2 * x0.toInt.toNat := by omega
              have kby : b23 + 1 = 62 + 2 * x0.toInt.toNat := by omega
              refine pv_callv (M := mX11_deed) (as := [.int x1, .ref b23]) (st := []) (kc2 := 0) (ks2 := 0) dX11_deed_58 wd483 YX10_copyLetters ⟨wd484, wd485⟩ (mk_get (tl1 hT)) rfl rfl (s_X10_copyLetters_vy g hT I x1 (by omega) (by omega) b23 16 hb23 (by omega)) rfl rfl (Nat.le_of_ble_eq_true rfl) (by decide) rfl rfl 61 rfl (fun rv h1 q26 => ?_)
              obtain ⟨m27, n28, rfl, rfl, I29, K30, rm27⟩ := q26
              replace rm27 : (m27 b23 1).toInt = x1.toInt ∧ ∀ k : Nat, (k : Int) < x1.toInt → (m27 (b23 + 1) k).toInt = (m 2 k).toInt - 97 := rm27
              have K30c := K30
              have w31 : (m27 1 1).toInt = (m 1 1).toInt := congrArg Int32.toInt (K30 1 1 (wr_out (by omega)))
              have K30 := Kp.trans (K30.sub (by first | exact dd_wPd (by omega) (by omega) | first | exact wg_l (by decide) | exact wg_g (by decide) | exact WX_wg | exact la7_wg zR (by decide) | exact wsL_wg zR (by decide)))
              show PV _ _ _ _ _ _ _ 61 [.ref 0, .int x0, .int x1, .int v12] [] _
              have kc := rm27
              have kcf := K30c
              refine pv_aload_n (M := mX11_deed) 0 dX11_deed_61 62 rfl rfl rfl ?_
              refine pv_callv (M := mX11_deed) (as := []) (st := []) (kc2 := 0) (ks2 := 0) dX11_deed_62 wd500 YX11_forgetSolved ⟨wd502, wd0⟩ (mk_get (tl0 hT)) rfl rfl (s_X11_forgetSolved_v0 g hT I29 R hc0) rfl rfl (Nat.le_of_ble_eq_true rfl) (by decide) rfl rfl 65 rfl (fun rv h1 q34 => ?_)
              obtain ⟨m35, n36, rfl, rfl, I37, K38, rm35⟩ := q34
              have K38c := K38
              have K38 := K30.trans (K38.sub (by first | exact dd_wPd (by omega) (by omega) | first | exact wg_l (by decide) | exact wg_g (by decide) | exact WX_wg | exact la7_wg zR (by decide) | exact wsL_wg zR (by decide)))
              show PV _ _ _ _ _ _ _ 65 [.ref 0, .int x0, .int x1, .int v12] [] _
              try have kgf := K38c
              refine pv_aload_n (M := mX11_deed) 0 dX11_deed_65 66 rfl rfl rfl ?_
              refine mv_get (M := mX11_deed) (v := .ref 1) dX11_deed_66 FX11 0 wd407 (by decide) (tl0 hT) rfl rfl 69 rfl ?_
              refine pv_iconst (M := mX11_deed) (v := 0) dX11_deed_69 70 rfl (by decide) ?_
              refine iv_put (M := mX11_deed) (l1 := 0) (l2 := 200) dX11_deed_70 FX10 1 wd164 (by decide) rfl (tl1 hT) rfl rfl rfl I37 rfl (by decide) (by decide) 73 rfl (fun m40 e43 I41 => ?_)
              have K42 := K38.set e43 (by first | rfl | decide)
              have w44 : (m40 1 1).toInt = 0 := by rw [e43, up2_eq] <;> rfl
              refine pv_iload_n (M := mX11_deed) 3 dX11_deed_73 74 rfl rfl rfl ?_
              refine pv_if_eq (M := mX11_deed) (tgt := 81) dX11_deed_74 77 rfl (by decide) (fun c45 => ?_) (fun c45 => ?_)
              · have c45 := iv_eq (X := v12.toInt) (Y := 0) c45 rfl (by decide)
                omega
              · have c45 := iv_ne (X := v12.toInt) (Y := 0) c45 rfl (by decide)
                refine pv_iload_n (M := mX11_deed) 2 dX11_deed_77 78 rfl rfl rfl ?_
                refine pv_goto (M := mX11_deed) (tgt := 83) dX11_deed_78 (by decide) ?_
                exact pv_iret (M := mX11_deed) dX11_deed_83 rfl rfl ⟨_, _, _, rfl, rfl, I41, K42, (iv_rng x1).1, (iv_rng x1).2, ⟨(by first | exact Or.inr ⟨by omega, (by first | omega | decide), (by first | omega | decide)⟩ | exact Or.inl ⟨by omega, by omega, by omega, by omega, by omega, (by first | omega | decide), (kf.elim (fun q => Or.inl ⟨q.2, (by first | omega | decide)⟩) (fun q => by exfalso; omega))⟩ | exact Or.inl ⟨by omega, by omega, by omega, by omega, by omega, (by first | omega | decide), (kf.elim (fun q => by exfalso; omega) (fun q => Or.inr ⟨q.2, (by first | omega | decide)⟩))⟩), (by first | exact ⟨fun _ _ _ _ => rfl, fun q => absurd q (by decide)⟩ | exact ⟨fun a j h _ => by have z := isW_b h; rw [e43, up2_ne (by omega)], fun q => absurd q (by decide)⟩ | exact ⟨fun a j h h1 => by have z := isW_b h; rw [e43, up2_ne (by omega), kgf a j (wN_isW h), kcf a j (wr_out (by omega))], fun q => ⟨by rw [e43, up2_ne (by omega), kgf _ _ (wN_isW (isW_i (by omega))), ← kbx]; exact kc.1, fun k hk => by rw [e43, up2_ne (by omega), kgf _ _ (wN_isW (isW_i (by omega))), ← kby]; exact kc.2 k hk⟩⟩)⟩⟩
          · have c10 := iv_nle (X := x1.toInt) (Y := v9.toInt) c10 rfl rfl
            refine pv_iconst (M := mX11_deed) (v := (-1)) dX11_deed_32 33 rfl (by decide) ?_
            have z46 : ((-1) : Int32).toInt = (-1) := by decide
            exact pv_iret (M := mX11_deed) dX11_deed_33 rfl rfl ⟨_, _, _, rfl, rfl, I, Kp, by decide, by decide, ⟨(by first | exact Or.inr ⟨by omega, (by first | omega | decide), (by first | omega | decide)⟩ | exact Or.inl ⟨by omega, by omega, by omega, by omega, by omega, (by first | omega | decide), (kf.elim (fun q => Or.inl ⟨q.2, (by first | omega | decide)⟩) (fun q => by exfalso; omega))⟩ | exact Or.inl ⟨by omega, by omega, by omega, by omega, by omega, (by first | omega | decide), (kf.elim (fun q => by exfalso; omega) (fun q => Or.inr ⟨q.2, (by first | omega | decide)⟩))⟩), (by first | exact ⟨fun _ _ _ _ => rfl, fun q => absurd q (by decide)⟩ | exact ⟨fun a j h _ => by have z := isW_b h; rw [noE, up2_ne (by omega)], fun q => absurd q (by decide)⟩ | exact ⟨fun a j h h1 => by have z := isW_b h; rw [noE, up2_ne (by omega), kgf a j (wN_isW h), kcf a j (wr_out (by omega))], fun q => ⟨by rw [noE, up2_ne (by omega), kgf _ _ (wN_isW (isW_i (by omega))), ← kbx]; exact kc.1, fun k hk => by rw [noE, up2_ne (by omega), kgf _ _ (wN_isW (isW_i (by omega))), ← kby]; exact kc.2 k hk⟩⟩)⟩⟩

set_option maxHeartbeats 2000000 in
set_option maxRecDepth 20000 in
theorem s_X11_deed_vcy (g : pv_G) {T : List mv_T} {m : Nat → Nat → Int32} {n : Nat → Nat → Int64} {r : Nat → Value} {la lb : Nat} (hT : TX T) (I : IV BB m) (R : RX T r la lb) (hC : TC T) (hc2 : r 2 = .ref 169) (x0 : Int32) (x1 : Int32) : PM g mX11_deed yX11_deed (sqI T BB wPd r m (-2147483648) 2147483647 (fun m' v => DDK x0.toInt x1.toInt (m 1 1).toInt (LET 2 m x1.toInt) v.toInt (m' 1 1).toInt ∧ DDWc m m' x0.toInt x1.toInt v.toInt)) 3 0 0 [.ref 0, .int x0, .int x1] (mk T m n r) := by
  have Kp : fr wPd m m := fr.rf
  have R0 := R
  have zR := R.2.2.2.2.1.1
  have zR2 := R.2.2.2.2.2.1
  have hc20 := hc2
  have z47 : 0 ≤ (m 1 1).toInt ∧ (m 1 1).toInt ≤ 200 := I 1 1
  refine PM.of 1 (lo := [.ref 0, .int x0, .int x1, pv_U]) rfl (by decide) rfl rfl (Nat.le_of_ble_eq_true rfl) ?_
  refine pv_iload_n (M := mX11_deed) 1 dX11_deed_0 1 rfl rfl rfl ?_
  refine pv_if_lt (M := mX11_deed) (tgt := 32) dX11_deed_1 4 rfl (by decide) (fun c1 => ?_) (fun c1 => ?_)
  · have c1 := iv_lt (X := x0.toInt) (Y := 0) c1 rfl (by decide)
    refine pv_iconst (M := mX11_deed) (v := (-1)) dX11_deed_32 33 rfl (by decide) ?_
    have z2 : ((-1) : Int32).toInt = (-1) := by decide
    exact pv_iret (M := mX11_deed) dX11_deed_33 rfl rfl ⟨_, _, _, rfl, rfl, I, Kp, by decide, by decide, ⟨(by first | exact Or.inr ⟨by omega, (by first | omega | decide), (by first | omega | decide)⟩ | exact Or.inl ⟨by omega, by omega, by omega, by omega, by omega, (by first | omega | decide), (kf.elim (fun q => Or.inl ⟨q.2, (by first | omega | decide)⟩) (fun q => by exfalso; omega))⟩ | exact Or.inl ⟨by omega, by omega, by omega, by omega, by omega, (by first | omega | decide), (kf.elim (fun q => by exfalso; omega) (fun q => Or.inr ⟨q.2, (by first | omega | decide)⟩))⟩), (by first | exact ⟨fun _ _ _ _ => rfl, fun q => absurd q (by decide)⟩ | exact ⟨fun a j h _ => by have z := isW_b h; rw [noE, up2_ne (by omega)], fun q => absurd q (by decide)⟩ | exact ⟨fun a j h h1 => by have z := isW_b h; rw [noE, up2_ne (by omega), kgf a j (wN_isW h), kcf a j (wr_out (by omega))], fun q => ⟨by rw [noE, up2_ne (by omega), kgf _ _ (wN_isW (isW_i (by omega))), ← kbx]; exact kc.1, fun k hk => by rw [noE, up2_ne (by omega), kgf _ _ (wN_isW (isW_i (by omega))), ← kby]; exact kc.2 k hk⟩⟩)⟩⟩
  · have c1 := iv_nlt (X := x0.toInt) (Y := 0) c1 rfl (by decide)
    refine pv_iload_n (M := mX11_deed) 1 dX11_deed_4 5 rfl rfl rfl ?_
    refine pv_bipush (M := mX11_deed) (v := 8) dX11_deed_5 7 rfl (by decide) ?_
    refine pv_icmp_ge (M := mX11_deed) (tgt := 32) dX11_deed_7 10 rfl (by decide) (fun c3 => ?_) (fun c3 => ?_)
    · have c3 := iv_le (X := 8) (Y := x0.toInt) c3 (by decide) rfl
      refine pv_iconst (M := mX11_deed) (v := (-1)) dX11_deed_32 33 rfl (by decide) ?_
      have z4 : ((-1) : Int32).toInt = (-1) := by decide
      exact pv_iret (M := mX11_deed) dX11_deed_33 rfl rfl ⟨_, _, _, rfl, rfl, I, Kp, by decide, by decide, ⟨(by first | exact Or.inr ⟨by omega, (by first | omega | decide), (by first | omega | decide)⟩ | exact Or.inl ⟨by omega, by omega, by omega, by omega, by omega, (by first | omega | decide), (kf.elim (fun q => Or.inl ⟨q.2, (by first | omega | decide)⟩) (fun q => by exfalso; omega))⟩ | exact Or.inl ⟨by omega, by omega, by omega, by omega, by omega, (by first | omega | decide), (kf.elim (fun q => by exfalso; omega) (fun q => Or.inr ⟨q.2, (by first | omega | decide)⟩))⟩), (by first | exact ⟨fun _ _ _ _ => rfl, fun q => absurd q (by decide)⟩ | exact ⟨fun a j h _ => by have z := isW_b h; rw [noE, up2_ne (by omega)], fun q => absurd q (by decide)⟩ | exact ⟨fun a j h h1 => by have z := isW_b h; rw [noE, up2_ne (by omega), kgf a j (wN_isW h), kcf a j (wr_out (by omega))], fun q => ⟨by rw [noE, up2_ne (by omega), kgf _ _ (wN_isW (isW_i (by omega))), ← kbx]; exact kc.1, fun k hk => by rw [noE, up2_ne (by omega), kgf _ _ (wN_isW (isW_i (by omega))), ← kby]; exact kc.2 k hk⟩⟩)⟩⟩
    · have c3 := iv_nle (X := 8) (Y := x0.toInt) c3 (by decide) rfl
      refine pv_iload_n (M := mX11_deed) 2 dX11_deed_10 11 rfl rfl rfl ?_
      refine pv_iconst (M := mX11_deed) (v := 1) dX11_deed_11 12 rfl (by decide) ?_
      refine pv_icmp_lt (M := mX11_deed) (tgt := 32) dX11_deed_12 15 rfl (by decide) (fun c5 => ?_) (fun c5 => ?_)
      · have c5 := iv_lt (X := x1.toInt) (Y := 1) c5 rfl (by decide)
        refine pv_iconst (M := mX11_deed) (v := (-1)) dX11_deed_32 33 rfl (by decide) ?_
        have z6 : ((-1) : Int32).toInt = (-1) := by decide
        exact pv_iret (M := mX11_deed) dX11_deed_33 rfl rfl ⟨_, _, _, rfl, rfl, I, Kp, by decide, by decide, ⟨(by first | exact Or.inr ⟨by omega, (by first | omega | decide), (by first | omega | decide)⟩ | exact Or.inl ⟨by omega, by omega, by omega, by omega, by omega, (by first | omega | decide), (kf.elim (fun q => Or.inl ⟨q.2, (by first | omega | decide)⟩) (fun q => by exfalso; omega))⟩ | exact Or.inl ⟨by omega, by omega, by omega, by omega, by omega, (by first | omega | decide), (kf.elim (fun q => by exfalso; omega) (fun q => Or.inr ⟨q.2, (by first | omega | decide)⟩))⟩), (by first | exact ⟨fun _ _ _ _ => rfl, fun q => absurd q (by decide)⟩ | exact ⟨fun a j h _ => by have z := isW_b h; rw [noE, up2_ne (by omega)], fun q => absurd q (by decide)⟩ | exact ⟨fun a j h h1 => by have z := isW_b h; rw [noE, up2_ne (by omega), kgf a j (wN_isW h), kcf a j (wr_out (by omega))], fun q => ⟨by rw [noE, up2_ne (by omega), kgf _ _ (wN_isW (isW_i (by omega))), ← kbx]; exact kc.1, fun k hk => by rw [noE, up2_ne (by omega), kgf _ _ (wN_isW (isW_i (by omega))), ← kby]; exact kc.2 k hk⟩⟩)⟩⟩
      · have c5 := iv_nlt (X := x1.toInt) (Y := 1) c5 rfl (by decide)
        refine pv_iload_n (M := mX11_deed) 2 dX11_deed_15 16 rfl rfl rfl ?_
        refine pv_bipush (M := mX11_deed) (v := 16) dX11_deed_16 18 rfl (by decide) ?_
        refine pv_icmp_gt (M := mX11_deed) (tgt := 32) dX11_deed_18 21 rfl (by decide) (fun c7 => ?_) (fun c7 => ?_)
        · have c7 := iv_lt (X := 16) (Y := x1.toInt) c7 (by decide) rfl
          refine pv_iconst (M := mX11_deed) (v := (-1)) dX11_deed_32 33 rfl (by decide) ?_
          have z8 : ((-1) : Int32).toInt = (-1) := by decide
          exact pv_iret (M := mX11_deed) dX11_deed_33 rfl rfl ⟨_, _, _, rfl, rfl, I, Kp, by decide, by decide, ⟨(by first | exact Or.inr ⟨by omega, (by first | omega | decide), (by first | omega | decide)⟩ | exact Or.inl ⟨by omega, by omega, by omega, by omega, by omega, (by first | omega | decide), (kf.elim (fun q => Or.inl ⟨q.2, (by first | omega | decide)⟩) (fun q => by exfalso; omega))⟩ | exact Or.inl ⟨by omega, by omega, by omega, by omega, by omega, (by first | omega | decide), (kf.elim (fun q => by exfalso; omega) (fun q => Or.inr ⟨q.2, (by first | omega | decide)⟩))⟩), (by first | exact ⟨fun _ _ _ _ => rfl, fun q => absurd q (by decide)⟩ | exact ⟨fun a j h _ => by have z := isW_b h; rw [noE, up2_ne (by omega)], fun q => absurd q (by decide)⟩ | exact ⟨fun a j h h1 => by have z := isW_b h; rw [noE, up2_ne (by omega), kgf a j (wN_isW h), kcf a j (wr_out (by omega))], fun q => ⟨by rw [noE, up2_ne (by omega), kgf _ _ (wN_isW (isW_i (by omega))), ← kbx]; exact kc.1, fun k hk => by rw [noE, up2_ne (by omega), kgf _ _ (wN_isW (isW_i (by omega))), ← kby]; exact kc.2 k hk⟩⟩)⟩⟩
        · have c7 := iv_nlt (X := 16) (Y := x1.toInt) c7 (by decide) rfl
          refine pv_iload_n (M := mX11_deed) 2 dX11_deed_21 22 rfl rfl rfl ?_
          refine pv_aload_n (M := mX11_deed) 0 dX11_deed_22 23 rfl rfl rfl ?_
          refine mv_get (M := mX11_deed) (v := .ref 1) dX11_deed_23 FX11 0 wd407 (by decide) (tl0 hT) rfl rfl 26 rfl ?_
          refine iv_get (M := mX11_deed) (l1 := 0) (l2 := 200) dX11_deed_26 FX10 1 wd164 (by decide) (tl1 hT) rfl I rfl 29 rfl (fun v9 ev9 pv9 qv9 => ?_)
          have wv9 : v9.toInt = (m 1 1).toInt := congrArg Int32.toInt ev9
          refine pv_icmp_le (M := mX11_deed) (tgt := 34) dX11_deed_29 32 rfl (by decide) (fun c10 => ?_) (fun c10 => ?_)
          · have c10 := iv_le (X := x1.toInt) (Y := v9.toInt) c10 rfl rfl
            refine pv_aload_n (M := mX11_deed) 0 dX11_deed_34 35 rfl rfl rfl ?_
            refine mv_get (M := mX11_deed) (v := .ref 1) dX11_deed_35 FX11 0 wd407 (by decide) (tl0 hT) rfl rfl 38 rfl ?_
            refine pv_iload_n (M := mX11_deed) 2 dX11_deed_38 39 rfl rfl rfl ?_
            refine pv_callv (M := mX11_deed) (as := [.int x1]) (st := []) (kc2 := 0) (ks2 := 0) dX11_deed_39 wd479 YX10_holdsLetters ⟨wd480, wd481⟩ (mk_get (tl1 hT)) rfl rfl (s_X10_holdsLetters_vx g hT I x1 (by omega) (by omega)) rfl rfl (Nat.le_of_ble_eq_true rfl) (by decide) rfl rfl 42 rfl (fun rv h1 q11 => ?_)
            obtain ⟨v12, rfl, rfl, pv12, qv12, rv12⟩ := q11
            replace rv12 : (v12.toInt = 1 ∧ LET 2 m x1.toInt) ∨ (v12.toInt = 0 ∧ ¬ LET 2 m x1.toInt) := rv12
            show PV _ _ _ _ _ _ _ 42 [.ref 0, .int x0, .int x1, pv_U] [.int v12] _
            have kf := rv12
            refine pv_istore_n (M := mX11_deed) 3 (lo2 := [.ref 0, .int x0, .int x1, .int v12]) dX11_deed_42 43 rfl rfl (by decide) rfl rfl ?_
            refine pv_iload_n (M := mX11_deed) 3 dX11_deed_43 44 rfl rfl rfl ?_
            refine pv_if_eq (M := mX11_deed) (tgt := 65) dX11_deed_44 47 rfl (by decide) (fun c14 => ?_) (fun c14 => ?_)
            · have c14 := iv_eq (X := v12.toInt) (Y := 0) c14 rfl (by decide)
              try have kgf := noE
              refine pv_aload_n (M := mX11_deed) 0 dX11_deed_65 66 rfl rfl rfl ?_
              refine mv_get (M := mX11_deed) (v := .ref 1) dX11_deed_66 FX11 0 wd407 (by decide) (tl0 hT) rfl rfl 69 rfl ?_
              refine pv_iconst (M := mX11_deed) (v := 0) dX11_deed_69 70 rfl (by decide) ?_
              refine iv_put (M := mX11_deed) (l1 := 0) (l2 := 200) dX11_deed_70 FX10 1 wd164 (by decide) rfl (tl1 hT) rfl rfl rfl I rfl (by decide) (by decide) 73 rfl (fun m16 e19 I17 => ?_)
              have K18 := Kp.set e19 (by first | rfl | decide)
              have w20 : (m16 1 1).toInt = 0 := by rw [e19, up2_eq] <;> rfl
              refine pv_iload_n (M := mX11_deed) 3 dX11_deed_73 74 rfl rfl rfl ?_
              refine pv_if_eq (M := mX11_deed) (tgt := 81) dX11_deed_74 77 rfl (by decide) (fun c21 => ?_) (fun c21 => ?_)
              · have c21 := iv_eq (X := v12.toInt) (Y := 0) c21 rfl (by decide)
                refine pv_bipush (M := mX11_deed) (v := (-2)) dX11_deed_81 83 rfl (by decide) ?_
                have z22 : ((-2) : Int32).toInt = (-2) := by decide
                exact pv_iret (M := mX11_deed) dX11_deed_83 rfl rfl ⟨_, _, _, rfl, rfl, I17, K18, by decide, by decide, ⟨(by first | exact Or.inr ⟨by omega, (by first | omega | decide), (by first | omega | decide)⟩ | exact Or.inl ⟨by omega, by omega, by omega, by omega, by omega, (by first | omega | decide), (kf.elim (fun q => Or.inl ⟨q.2, (by first | omega | decide)⟩) (fun q => by exfalso; omega))⟩ | exact Or.inl ⟨by omega, by omega, by omega, by omega, by omega, (by first | omega | decide), (kf.elim (fun q => by exfalso; omega) (fun q => Or.inr ⟨q.2, (by first | omega | decide)⟩))⟩), (by first | exact ⟨fun _ _ _ _ => rfl, fun q => absurd q (by decide)⟩ | exact ⟨fun a j h _ => by have z := isW_b h; rw [e19, up2_ne (by omega)], fun q => absurd q (by decide)⟩ | exact ⟨fun a j h h1 => by have z := isW_b h; rw [e19, up2_ne (by omega), kgf a j (wN_isW h), kcf a j (wr_out (by omega))], fun q => ⟨by rw [e19, up2_ne (by omega), kgf _ _ (wN_isW (isW_i (by omega))), ← kbx]; exact kc.1, fun k hk => by rw [e19, up2_ne (by omega), kgf _ _ (wN_isW (isW_i (by omega))), ← kby]; exact kc.2 k hk⟩⟩)⟩⟩
              · have c21 := iv_ne (X := v12.toInt) (Y := 0) c21 rfl (by decide)
                omega
            · have c14 := iv_ne (X := v12.toInt) (Y := 0) c14 rfl (by decide)
              refine pv_aload_n (M := mX11_deed) 0 dX11_deed_47 48 rfl rfl rfl ?_
              refine mv_get (M := mX11_deed) (v := .ref 1) dX11_deed_48 FX11 0 wd407 (by decide) (tl0 hT) rfl rfl 51 rfl ?_
              refine pv_iload_n (M := mX11_deed) 2 dX11_deed_51 52 rfl rfl rfl ?_
              refine pv_aload_n (M := mX11_deed) 0 dX11_deed_52 53 rfl rfl rfl ?_
              refine mv_get (M := mX11_deed) (v := .ref 60) dX11_deed_53 FX11 3 wd410 (by decide) (tl0 hT) rfl rfl 56 rfl ?_
              refine pv_iload_n (M := mX11_deed) 1 dX11_deed_56 57 rfl rfl rfl ?_
              refine iv_qdeed (M := mX11_deed) (X := x0.toInt) dX11_deed_57 hT R rfl (by omega) (by omega) 58 rfl (fun b23 eb23 hb23 => ?_)
              have zb23 := hb23.2.2.2.2
              have kbx : b23 = 61 + 2 * x0.toInt.toNat := by omega
              have kby : b23 + 1 = 62 + 2 * x0.toInt.toNat := by omega
              refine pv_callv (M := mX11_deed) (as := [.int x1, .ref b23]) (st := []) (kc2 := 0) (ks2 := 0) dX11_deed_58 wd483 YX10_copyLetters ⟨wd484, wd485⟩ (mk_get (tl1 hT)) rfl rfl (s_X10_copyLetters_vy g hT I x1 (by omega) (by omega) b23 16 hb23 (by omega)) rfl rfl (Nat.le_of_ble_eq_true rfl) (by decide) rfl rfl 61 rfl (fun rv h1 q26 => ?_)
              obtain ⟨m27, n28, rfl, rfl, I29, K30, rm27⟩ := q26
              replace rm27 : (m27 b23 1).toInt = x1.toInt ∧ ∀ k : Nat, (k : Int) < x1.toInt → (m27 (b23 + 1) k).toInt = (m 2 k).toInt - 97 := rm27
              have K30c := K30
              have w31 : (m27 1 1).toInt = (m 1 1).toInt := congrArg Int32.toInt (K30 1 1 (wr_out (by omega)))
              have K30 := Kp.trans (K30.sub (by first | exact dd_wPd (by omega) (by omega) | first | exact wg_l (by decide) | exact wg_g (by decide) | exact WX_wg | exact la7_wg zR (by decide) | exact wsL_wg zR (by decide)))
              show PV _ _ _ _ _ _ _ 61 [.ref 0, .int x0, .int x1, .int v12] [] _
              have kc := rm27
              have kcf := K30c
              refine pv_aload_n (M := mX11_deed) 0 dX11_deed_61 62 rfl rfl rfl ?_
              refine pv_callv (M := mX11_deed) (as := []) (st := []) (kc2 := 0) (ks2 := 0) dX11_deed_62 wd500 YX11_forgetSolved ⟨wd502, wd0⟩ (mk_get (tl0 hT)) rfl rfl (s_X11_forgetSolved_vc g hT I29 R hC hc2) rfl rfl (Nat.le_of_ble_eq_true rfl) (by decide) rfl rfl 65 rfl (fun rv h1 q34 => ?_)
              obtain ⟨m35, n36, rfl, rfl, I37, K38, rm35⟩ := q34
              have K38c := K38
              have K38 := K30.trans (K38.sub (by first | exact dd_wPd (by omega) (by omega) | first | exact wg_l (by decide) | exact wg_g (by decide) | exact WX_wg | exact la7_wg zR (by decide) | exact wsL_wg zR (by decide)))
              show PV _ _ _ _ _ _ _ 65 [.ref 0, .int x0, .int x1, .int v12] [] _
              try have kgf := K38c
              refine pv_aload_n (M := mX11_deed) 0 dX11_deed_65 66 rfl rfl rfl ?_
              refine mv_get (M := mX11_deed) (v := .ref 1) dX11_deed_66 FX11 0 wd407 (by decide) (tl0 hT) rfl rfl 69 rfl ?_
              refine pv_iconst (M := mX11_deed) (v := 0) dX11_deed_69 70 rfl (by decide) ?_
              refine iv_put (M := mX11_deed) (l1 := 0) (l2 := 200) dX11_deed_70 FX10 1 wd164 (by decide) rfl (tl1 hT) rfl rfl rfl I37 rfl (by decide) (by decide) 73 rfl (fun m40 e43 I41 => ?_)
              have K42 := K38.set e43 (by first | rfl | decide)
              have w44 : (m40 1 1).toInt = 0 := by rw [e43, up2_eq] <;> rfl
              refine pv_iload_n (M := mX11_deed) 3 dX11_deed_73 74 rfl rfl rfl ?_
              refine pv_if_eq (M := mX11_deed) (tgt := 81) dX11_deed_74 77 rfl (by decide) (fun c45 => ?_) (fun c45 => ?_)
              · have c45 := iv_eq (X := v12.toInt) (Y := 0) c45 rfl (by decide)
                omega
              · have c45 := iv_ne (X := v12.toInt) (Y := 0) c45 rfl (by decide)
                refine pv_iload_n (M := mX11_deed) 2 dX11_deed_77 78 rfl rfl rfl ?_
                refine pv_goto (M := mX11_deed) (tgt := 83) dX11_deed_78 (by decide) ?_
                exact pv_iret (M := mX11_deed) dX11_deed_83 rfl rfl ⟨_, _, _, rfl, rfl, I41, K42, (iv_rng x1).1, (iv_rng x1).2, ⟨(by first | exact Or.inr ⟨by omega, (by first | omega | decide), (by first | omega | decide)⟩ | exact Or.inl ⟨by omega, by omega, by omega, by omega, by omega, (by first | omega | decide), (kf.elim (fun q => Or.inl ⟨q.2, (by first | omega | decide)⟩) (fun q => by exfalso; omega))⟩ | exact Or.inl ⟨by omega, by omega, by omega, by omega, by omega, (by first | omega | decide), (kf.elim (fun q => by exfalso; omega) (fun q => Or.inr ⟨q.2, (by first | omega | decide)⟩))⟩), (by first | exact ⟨fun _ _ _ _ => rfl, fun q => absurd q (by decide)⟩ | exact ⟨fun a j h _ => by have z := isW_b h; rw [e43, up2_ne (by omega)], fun q => absurd q (by decide)⟩ | exact ⟨fun a j h h1 => by have z := isW_b h; rw [e43, up2_ne (by omega), kgf a j (wN_isW h), kcf a j (wr_out (by omega))], fun q => ⟨by rw [e43, up2_ne (by omega), kgf _ _ (wN_isW (isW_i (by omega))), ← kbx]; exact kc.1, fun k hk => by rw [e43, up2_ne (by omega), kgf _ _ (wN_isW (isW_i (by omega))), ← kby]; exact kc.2 k hk⟩⟩)⟩⟩
          · have c10 := iv_nle (X := x1.toInt) (Y := v9.toInt) c10 rfl rfl
            refine pv_iconst (M := mX11_deed) (v := (-1)) dX11_deed_32 33 rfl (by decide) ?_
            have z46 : ((-1) : Int32).toInt = (-1) := by decide
            exact pv_iret (M := mX11_deed) dX11_deed_33 rfl rfl ⟨_, _, _, rfl, rfl, I, Kp, by decide, by decide, ⟨(by first | exact Or.inr ⟨by omega, (by first | omega | decide), (by first | omega | decide)⟩ | exact Or.inl ⟨by omega, by omega, by omega, by omega, by omega, (by first | omega | decide), (kf.elim (fun q => Or.inl ⟨q.2, (by first | omega | decide)⟩) (fun q => by exfalso; omega))⟩ | exact Or.inl ⟨by omega, by omega, by omega, by omega, by omega, (by first | omega | decide), (kf.elim (fun q => by exfalso; omega) (fun q => Or.inr ⟨q.2, (by first | omega | decide)⟩))⟩), (by first | exact ⟨fun _ _ _ _ => rfl, fun q => absurd q (by decide)⟩ | exact ⟨fun a j h _ => by have z := isW_b h; rw [noE, up2_ne (by omega)], fun q => absurd q (by decide)⟩ | exact ⟨fun a j h h1 => by have z := isW_b h; rw [noE, up2_ne (by omega), kgf a j (wN_isW h), kcf a j (wr_out (by omega))], fun q => ⟨by rw [noE, up2_ne (by omega), kgf _ _ (wN_isW (isW_i (by omega))), ← kbx]; exact kc.1, fun k hk => by rw [noE, up2_ne (by omega), kgf _ _ (wN_isW (isW_i (by omega))), ← kby]; exact kc.2 k hk⟩⟩)⟩⟩

set_option maxHeartbeats 2000000 in
set_option maxRecDepth 20000 in
theorem s_X12_blank_vy (g : pv_G) {T : List mv_T} {m : Nat → Nat → Int32} {n : Nat → Nat → Int64} {r : Nat → Value} (hT : TX T) (I : IV BB m) (x0 : Int32) : PM g mX12_blank yX12_blank (sqI T BB (wl [(123, 123, some 0), (123, 123, some 11), (124, 124, none), (125, 125, none)]) r m (-2147483648) 2147483647 (fun m' v => BLK x0.toInt (m 123 0).toInt (m 123 11).toInt (LET 129 m x0.toInt) v.toInt (m' 123 0).toInt (m' 123 11).toInt ∧ BLWr m m' x0.toInt)) 3 0 0 [.ref 123, .int x0] (mk T m n r) := by
  have Kp : fr (wl [(123, 123, some 0), (123, 123, some 11), (124, 124, none), (125, 125, none)]) m m := fr.rf
  have z95 : 0 ≤ (m 123 0).toInt ∧ (m 123 0).toInt ≤ 8 := I 123 0
  have z96 : 0 ≤ (m 123 11).toInt ∧ (m 123 11).toInt ≤ 200 := I 123 11
  refine PM.of 1 (lo := [.ref 123, .int x0, pv_U]) rfl (by decide) rfl rfl (Nat.le_of_ble_eq_true rfl) ?_
  refine pv_iload_n (M := mX12_blank) 1 dX12_blank_0 1 rfl rfl rfl ?_
  refine pv_iconst (M := mX12_blank) (v := 1) dX12_blank_1 2 rfl (by decide) ?_
  refine pv_bipush (M := mX12_blank) (v := 40) dX12_blank_2 4 rfl (by decide) ?_
  have z1 : (1 : Int32).toInt = 1 := by decide
  have z2 : (40 : Int32).toInt = 40 := by decide
  refine pv_calls (M := mX12_blank) (as := [.int x0, .int 1, .int 40]) (st := []) (kc2 := 0) (ks2 := 0) dX12_blank_4 wd1370 YX12_in wd1371 (s_X12_in_vx g hT I x0 1 40) rfl rfl (Nat.le_of_ble_eq_true rfl) (by decide) rfl rfl 7 rfl (fun rv h1 q3 => ?_)
  obtain ⟨v4, rfl, rfl, pv4, qv4, rv4⟩ := q3
  replace rv4 : (v4 = 0 ∨ ((1 : Int) ≤ x0.toInt ∧ x0.toInt ≤ (40 : Int))) ∧ ((v4.toInt = 1 ∧ (1 : Int) ≤ x0.toInt ∧ x0.toInt ≤ (40 : Int)) ∨ (v4.toInt = 0 ∧ (x0.toInt < (1 : Int) ∨ (40 : Int) < x0.toInt))) := by have q_ := rv4; (try rw [z1] at q_); (try rw [z2] at q_); exact q_
  show PV _ _ _ _ _ _ _ 7 [.ref 123, .int x0, pv_U] [.int v4] _
  refine pv_if_eq (M := mX12_blank) (tgt := 27) dX12_blank_7 10 rfl (by decide) (fun c5 => ?_) (fun c5 => ?_)
  · have c5 := iv_eq (X := v4.toInt) (Y := 0) c5 rfl (by decide)
    refine pv_iconst (M := mX12_blank) (v := (-1)) dX12_blank_27 28 rfl (by decide) ?_
    have z6 : ((-1) : Int32).toInt = (-1) := by decide
    exact pv_iret (M := mX12_blank) dX12_blank_28 rfl rfl ⟨_, _, _, rfl, rfl, I, Kp, by decide, by decide, ⟨(by first | exact Or.inr ⟨by omega, (by first | omega | decide), (by first | omega | decide), (by first | omega | decide)⟩ | exact Or.inl ⟨by omega, by omega, by omega, by omega, (by first | omega | decide), (kf.elim (fun q => Or.inl ⟨q.2, by omega, by omega⟩) (fun q => by exfalso; omega))⟩ | exact Or.inl ⟨by omega, by omega, by omega, by omega, (by first | omega | decide), (kf.elim (fun q => by exfalso; omega) (fun q => Or.inr ⟨q.2, (by first | omega | decide), by omega⟩))⟩), (by first | exact ⟨fun _ _ => rfl, fun _ _ => rfl, fun q => by exfalso; omega⟩ | exact ⟨fun _ _ => by rw [noE, up2_ne (by omega)], fun _ _ => by rw [noE, up2_ne (by omega)], fun q => by exfalso; omega⟩ | exact ⟨fun j q => by rw [noE, up2_ne (by omega), k91, up2_ne (by omega)]; exact kg4 j, fun j q => by rw [noE, up2_ne (by omega), k91, up2_ne (by omega)]; exact kga j q, fun _ => ⟨by rw [noE, up2_ne (by omega), k91, up2_eq], fun k q => by rw [noE, up2_ne (by omega), k91, up2_ne (by omega)]; exact kgb k (by omega)⟩⟩)⟩⟩
  · have pc5 := rv4.1.resolve_left c5
    have c5 := iv_ne (X := v4.toInt) (Y := 0) c5 rfl (by decide)
    refine pv_aload_n (M := mX12_blank) 0 dX12_blank_10 11 rfl rfl rfl ?_
    refine iv_get (M := mX12_blank) (l1 := 0) (l2 := 8) dX12_blank_11 FX12 0 wd1173 (by decide) (tl123 hT) rfl I rfl 14 rfl (fun v7 ev7 pv7 qv7 => ?_)
    have wv7 : v7.toInt = (m 123 0).toInt := congrArg Int32.toInt ev7
    refine pv_bipush (M := mX12_blank) (v := 8) dX12_blank_14 16 rfl (by decide) ?_
    refine pv_icmp_eq (M := mX12_blank) (tgt := 27) dX12_blank_16 19 rfl (by decide) (fun c8 => ?_) (fun c8 => ?_)
    · have c8 := iv_eq (X := v7.toInt) (Y := 8) c8 rfl (by decide)
      refine pv_iconst (M := mX12_blank) (v := (-1)) dX12_blank_27 28 rfl (by decide) ?_
      have z9 : ((-1) : Int32).toInt = (-1) := by decide
      exact pv_iret (M := mX12_blank) dX12_blank_28 rfl rfl ⟨_, _, _, rfl, rfl, I, Kp, by decide, by decide, ⟨(by first | exact Or.inr ⟨by omega, (by first | omega | decide), (by first | omega | decide), (by first | omega | decide)⟩ | exact Or.inl ⟨by omega, by omega, by omega, by omega, (by first | omega | decide), (kf.elim (fun q => Or.inl ⟨q.2, by omega, by omega⟩) (fun q => by exfalso; omega))⟩ | exact Or.inl ⟨by omega, by omega, by omega, by omega, (by first | omega | decide), (kf.elim (fun q => by exfalso; omega) (fun q => Or.inr ⟨q.2, (by first | omega | decide), by omega⟩))⟩), (by first | exact ⟨fun _ _ => rfl, fun _ _ => rfl, fun q => by exfalso; omega⟩ | exact ⟨fun _ _ => by rw [noE, up2_ne (by omega)], fun _ _ => by rw [noE, up2_ne (by omega)], fun q => by exfalso; omega⟩ | exact ⟨fun j q => by rw [noE, up2_ne (by omega), k91, up2_ne (by omega)]; exact kg4 j, fun j q => by rw [noE, up2_ne (by omega), k91, up2_ne (by omega)]; exact kga j q, fun _ => ⟨by rw [noE, up2_ne (by omega), k91, up2_eq], fun k q => by rw [noE, up2_ne (by omega), k91, up2_ne (by omega)]; exact kgb k (by omega)⟩⟩)⟩⟩
    · have c8 := iv_ne (X := v7.toInt) (Y := 8) c8 rfl (by decide)
      refine pv_iload_n (M := mX12_blank) 1 dX12_blank_19 20 rfl rfl rfl ?_
      refine pv_aload_n (M := mX12_blank) 0 dX12_blank_20 21 rfl rfl rfl ?_
      refine iv_get (M := mX12_blank) (l1 := 0) (l2 := 200) dX12_blank_21 FX12 11 wd1184 (by decide) (tl123 hT) rfl I rfl 24 rfl (fun v10 ev10 pv10 qv10 => ?_)
      have wv10 : v10.toInt = (m 123 11).toInt := congrArg Int32.toInt ev10
      refine pv_icmp_le (M := mX12_blank) (tgt := 29) dX12_blank_24 27 rfl (by decide) (fun c11 => ?_) (fun c11 => ?_)
      · have c11 := iv_le (X := x0.toInt) (Y := v10.toInt) c11 rfl rfl
        refine pv_aload_n (M := mX12_blank) 0 dX12_blank_29 30 rfl rfl rfl ?_
        refine pv_iconst (M := mX12_blank) (v := 0) dX12_blank_30 31 rfl (by decide) ?_
        refine iv_put (M := mX12_blank) (l1 := 0) (l2 := 200) dX12_blank_31 FX12 11 wd1184 (by decide) rfl (tl123 hT) rfl rfl rfl I rfl (by decide) (by decide) 34 rfl (fun m12 e15 I13 => ?_)
        have K14 := Kp.set e15 rfl
        have w16 : (m12 123 0).toInt = (m 123 0).toInt := by rw [e15, up2_ne (by omega)]
        have w17 : (m12 123 11).toInt = 0 := by rw [e15, up2_eq] <;> rfl
        refine pv_aload_n (M := mX12_blank) 0 dX12_blank_34 35 rfl rfl rfl ?_
        refine pv_iload_n (M := mX12_blank) 1 dX12_blank_35 36 rfl rfl rfl ?_
        refine pv_callv (M := mX12_blank) (as := [.int x0]) (st := []) (kc2 := 0) (ks2 := 0) dX12_blank_36 wd1377 YX12_areLetters ⟨wd1379, wd54⟩ (mk_get (tl123 hT)) rfl rfl (s_X12_areLetters_vx g hT I13 x0 (by omega) (by omega)) rfl rfl (Nat.le_of_ble_eq_true rfl) (by decide) rfl rfl 39 rfl (fun rv h1 q18 => ?_)
        obtain ⟨v19, rfl, rfl, pv19, qv19, rv19⟩ := q18
        replace rv19 : (v19.toInt = 0 ∧ ¬ LET 129 m12 x0.toInt) ∨ (v19.toInt = 1 ∧ LET 129 m12 x0.toInt) := rv19
        show PV _ _ _ _ _ _ _ 39 [.ref 123, .int x0, pv_U] [.int v19] _
        have kRx := rv19
        have kle := LET_eq (c := 129) (m := m) (m2 := m12) (fun j => K14 129 j rfl) x0.toInt
        have kf : (v19.toInt = 1 ∧ LET 129 m x0.toInt) ∨ (v19.toInt = 0 ∧ ¬ LET 129 m x0.toInt) := kRx.elim (fun q => Or.inr ⟨q.1, fun z => q.2 (kle.mpr z)⟩) (fun q => Or.inl ⟨q.1, kle.mp q.2⟩)
        have kR : v19.toInt = 0 ∨ (∀ j : Nat, (j : Int) < x0.toInt → 97 ≤ (m12 129 j).toInt ∧ (m12 129 j).toInt ≤ 122) := kRx.elim (fun q => Or.inl q.1) (fun q => Or.inr q.2)
        refine pv_if_ne (M := mX12_blank) (tgt := 45) dX12_blank_39 42 rfl (by decide) (fun c24 => ?_) (fun c24 => ?_)
        · have c24 := iv_ne (X := v19.toInt) (Y := 0) c24 rfl (by decide)
          refine pv_iconst (M := mX12_blank) (v := 0) dX12_blank_45 46 rfl (by decide) ?_
          refine pv_istore_n (M := mX12_blank) 2 (lo2 := [.ref 123, .int x0, .int 0]) dX12_blank_46 47 rfl rfl (by decide) rfl rfl ?_
          have lp31 : ∀ (fuel30 : Nat) (y25 : Int32) (m26 : Nat → Nat → Int32) (n27 : Nat → Nat → Int64), (0 ≤ y25.toInt) → (y25.toInt ≤ 40) → (∀ j : Nat, (j : Int) < x0.toInt → 97 ≤ (m26 129 j).toInt ∧ (m26 129 j).toInt ≤ 122) → ((m26 123 0).toInt ≤ 7) → ((m26 123 0).toInt = (m 123 0).toInt) → ((m26 123 11).toInt = 0) → (∀ j, (j < 40 * cnr m ∨ 40 * cnr m + 40 ≤ j) → m26 125 j = m 125 j) → (∀ k : Nat, (k : Int) < y25.toInt → (m26 125 (40 * cnr m + k)).toInt = (m 129 k).toInt - 97) → (∀ j, m26 124 j = m 124 j) → IV BB m26 → fr (wl [(123, 123, some 0), (123, 123, some 11), (124, 124, none), (125, 125, none)]) m m26 → ((40 - y25.toInt) : Int).toNat < fuel30 → PV none g mX12_blank (sqI T BB (wl [(123, 123, some 0), (123, 123, some 11), (124, 124, none), (125, 125, none)]) r m (-2147483648) 2147483647 (fun m' v => BLK x0.toInt (m 123 0).toInt (m 123 11).toInt (LET 129 m x0.toInt) v.toInt (m' 123 0).toInt (m' 123 11).toInt ∧ BLWr m m' x0.toInt)) 3 0 0 47 [.ref 123, .int x0, .int y25] [] (mk T m26 n27 r) := by
            intro fuel30
            induction fuel30 with
            | zero => intro y25 m26 n27 b33 b34 b35 b36 b37 b38 b39 b40 b41 I28 K29 z42; omega
            | succ fuel30 ih32 =>
              intro y25 m26 n27 b33 b34 b35 b36 b37 b38 b39 b40 b41 I28 K29 z42
              have z43 : 0 ≤ (m26 123 0).toInt ∧ (m26 123 0).toInt ≤ 8 := I28 123 0
              have z44 : 0 ≤ (m26 123 11).toInt ∧ (m26 123 11).toInt ≤ 200 := I28 123 11
              have kA := (show ∀ j : Nat, (j : Int) < x0.toInt → 97 ≤ (m26 129 j).toInt ∧ (m26 129 j).toInt ≤ 122 by assumption)
              have kga := (show ∀ j, (j < 40 * cnr m ∨ 40 * cnr m + 40 ≤ j) → m26 125 j = m 125 j by assumption)
              have kgb := (show ∀ k : Nat, (k : Int) < y25.toInt → (m26 125 (40 * cnr m + k)).toInt = (m 129 k).toInt - 97 by assumption)
              have kg4 := (show ∀ j, m26 124 j = m 124 j by assumption)
              refine pv_iload_n (M := mX12_blank) 2 dX12_blank_47 48 rfl rfl rfl ?_
              refine pv_iload_n (M := mX12_blank) 1 dX12_blank_48 49 rfl rfl rfl ?_
              refine pv_icmp_ge (M := mX12_blank) (tgt := 81) dX12_blank_49 52 rfl (by decide) (fun c49 => ?_) (fun c49 => ?_)
              · have c49 := iv_le (X := x0.toInt) (Y := y25.toInt) c49 rfl rfl
                refine pv_aload_n (M := mX12_blank) 0 dX12_blank_81 82 rfl rfl rfl ?_
                refine mv_get (M := mX12_blank) (v := .ref 124) dX12_blank_82 FX12 5 wd1178 (by decide) (tl123 hT) rfl rfl 85 rfl ?_
                refine pv_aload_n (M := mX12_blank) 0 dX12_blank_85 86 rfl rfl rfl ?_
                refine iv_get (M := mX12_blank) (l1 := 0) (l2 := 8) dX12_blank_86 FX12 0 wd1173 (by decide) (tl123 hT) rfl I28 rfl 89 rfl (fun v50 ev50 pv50 qv50 => ?_)
                have wv50 : v50.toInt = (m26 123 0).toInt := congrArg Int32.toInt ev50
                refine pv_iload_n (M := mX12_blank) 1 dX12_blank_89 90 rfl rfl rfl ?_
                refine iv_iast (M := mX12_blank) (X := v50.toInt) (l1 := 0) (l2 := 40) dX12_blank_90 (tl124 hT) rfl (by omega) (by omega) I28 (fun _ => rfl) (by omega) (by omega) 91 rfl (fun m51 e54 I52 => ?_)
                have K53 := K29.set e54 rfl
                have w55 : (m51 123 0).toInt = (m26 123 0).toInt := by rw [e54, up2_ne (by omega)]
                have w56 : (m51 123 11).toInt = (m26 123 11).toInt := by rw [e54, up2_ne (by omega)]
                have k91 := (e54).trans (up2_ix (j := cnr m) (by unfold cnr; omega))
                refine pv_aload_n (M := mX12_blank) 0 dX12_blank_91 92 rfl rfl rfl ?_
                refine pv_aload_n (M := mX12_blank) 0 dX12_blank_92 93 rfl rfl rfl ?_
                refine iv_get (M := mX12_blank) (l1 := 0) (l2 := 8) dX12_blank_93 FX12 0 wd1173 (by decide) (tl123 hT) rfl I52 rfl 96 rfl (fun v58 ev58 pv58 qv58 => ?_)
                have wv58 : v58.toInt = (m51 123 0).toInt := congrArg Int32.toInt ev58
                refine pv_iconst (M := mX12_blank) (v := 1) dX12_blank_96 97 rfl (by decide) ?_
                refine iv_iadd (M := mX12_blank) (X := v58.toInt) (Y := 1) dX12_blank_97 98 rfl rfl (by decide) (by omega) (by omega) (fun v59 ev59 => ?_)
                refine iv_put (M := mX12_blank) (l1 := 0) (l2 := 8) dX12_blank_98 FX12 0 wd1173 (by decide) rfl (tl123 hT) rfl rfl rfl I52 rfl (by omega) (by omega) 101 rfl (fun m60 e63 I61 => ?_)
                have K62 := K53.set e63 rfl
                have w64 : (m60 123 0).toInt = v59.toInt := by rw [e63, up2_eq]
                have w65 : (m60 123 11).toInt = (m51 123 11).toInt := by rw [e63, up2_ne (by omega)]
                refine pv_aload_n (M := mX12_blank) 0 dX12_blank_101 102 rfl rfl rfl ?_
                refine iv_get (M := mX12_blank) (l1 := 0) (l2 := 8) dX12_blank_102 FX12 0 wd1173 (by decide) (tl123 hT) rfl I61 rfl 105 rfl (fun v66 ev66 pv66 qv66 => ?_)
                have wv66 : v66.toInt = (m60 123 0).toInt := congrArg Int32.toInt ev66
                refine pv_iconst (M := mX12_blank) (v := 1) dX12_blank_105 106 rfl (by decide) ?_
                refine iv_isub (M := mX12_blank) (X := v66.toInt) (Y := 1) dX12_blank_106 107 rfl rfl (by decide) (by omega) (by omega) (fun v67 ev67 => ?_)
                exact pv_iret (M := mX12_blank) dX12_blank_107 rfl rfl ⟨_, _, _, rfl, rfl, I61, K62, (iv_rng v67).1, (iv_rng v67).2, ⟨(by first | exact Or.inr ⟨by omega, (by first | omega | decide), (by first | omega | decide), (by first | omega | decide)⟩ | exact Or.inl ⟨by omega, by omega, by omega, by omega, (by first | omega | decide), (kf.elim (fun q => Or.inl ⟨q.2, by omega, by omega⟩) (fun q => by exfalso; omega))⟩ | exact Or.inl ⟨by omega, by omega, by omega, by omega, (by first | omega | decide), (kf.elim (fun q => by exfalso; omega) (fun q => Or.inr ⟨q.2, (by first | omega | decide), by omega⟩))⟩), (by first | exact ⟨fun _ _ => rfl, fun _ _ => rfl, fun q => by exfalso; omega⟩ | exact ⟨fun _ _ => by rw [e63, up2_ne (by omega)], fun _ _ => by rw [e63, up2_ne (by omega)], fun q => by exfalso; omega⟩ | exact ⟨fun j q => by rw [e63, up2_ne (by omega), k91, up2_ne (by omega)]; exact kg4 j, fun j q => by rw [e63, up2_ne (by omega), k91, up2_ne (by omega)]; exact kga j q, fun _ => ⟨by rw [e63, up2_ne (by omega), k91, up2_eq], fun k q => by rw [e63, up2_ne (by omega), k91, up2_ne (by omega)]; exact kgb k (by omega)⟩⟩)⟩⟩
              · have c49 := iv_nle (X := x0.toInt) (Y := y25.toInt) c49 rfl rfl
                refine pv_aload_n (M := mX12_blank) 0 dX12_blank_52 53 rfl rfl rfl ?_
                refine mv_get (M := mX12_blank) (v := .ref 125) dX12_blank_53 FX12 6 wd1179 (by decide) (tl123 hT) rfl rfl 56 rfl ?_
                refine pv_bipush (M := mX12_blank) (v := 40) dX12_blank_56 58 rfl (by decide) ?_
                refine pv_aload_n (M := mX12_blank) 0 dX12_blank_58 59 rfl rfl rfl ?_
                refine iv_get (M := mX12_blank) (l1 := 0) (l2 := 8) dX12_blank_59 FX12 0 wd1173 (by decide) (tl123 hT) rfl I28 rfl 62 rfl (fun v68 ev68 pv68 qv68 => ?_)
                have wv68 : v68.toInt = (m26 123 0).toInt := congrArg Int32.toInt ev68
                refine iv_imul (M := mX12_blank) (X := 40) (Y := v68.toInt) dX12_blank_62 63 rfl (by decide) rfl (by omega) (by omega) (fun v69 ev69 => ?_)
                refine pv_iload_n (M := mX12_blank) 2 dX12_blank_63 64 rfl rfl rfl ?_
                refine iv_iadd (M := mX12_blank) (X := v69.toInt) (Y := y25.toInt) dX12_blank_64 65 rfl rfl rfl (by omega) (by omega) (fun v70 ev70 => ?_)
                refine pv_aload_n (M := mX12_blank) 0 dX12_blank_65 66 rfl rfl rfl ?_
                refine mv_get (M := mX12_blank) (v := .ref 129) dX12_blank_66 FX12 10 wd1183 (by decide) (tl123 hT) rfl rfl 69 rfl ?_
                refine pv_iload_n (M := mX12_blank) 2 dX12_blank_69 70 rfl rfl rfl ?_
                refine iv_bald (M := mX12_blank) (X := y25.toInt) (l1 := (-128)) (l2 := 127) dX12_blank_70 (tl129 hT) rfl (by omega) (by omega) I28 (fun _ => rfl) 71 rfl (fun v71 ev71 pv71 qv71 => ?_)
                have kL := ev71
                have k71 : v71.toInt = (m 129 y25.toInt.toNat).toInt := congrArg Int32.toInt (ev71.trans (K29 129 _ rfl))
                refine pv_bipush (M := mX12_blank) (v := 97) dX12_blank_71 73 rfl (by decide) ?_
                have kv : 97 ≤ v71.toInt ∧ v71.toInt ≤ 122 := by rw [kL]; exact kA _ (by omega)
                refine iv_isub (M := mX12_blank) (X := v71.toInt) (Y := 97) dX12_blank_73 74 rfl rfl (by decide) (by omega) (by omega) (fun v75 ev75 => ?_)
                have k74 : v75.toInt = (m 129 y25.toInt.toNat).toInt - 97 := by omega
                refine iv_iast (M := mX12_blank) (X := v70.toInt) (l1 := 0) (l2 := 25) dX12_blank_74 (tl125 hT) rfl (by omega) (by omega) I28 (fun _ => rfl) (by omega) (by omega) 75 rfl (fun m77 e80 I78 => ?_)
                have K79 := K29.set e80 rfl
                have w81 : (m77 123 0).toInt = (m26 123 0).toInt := by rw [e80, up2_ne (by omega)]
                have w82 : (m77 123 11).toInt = (m26 123 11).toInt := by rw [e80, up2_ne (by omega)]
                have k75 := (e80).trans (up2_ix (j := 40 * cnr m + y25.toInt.toNat) (by unfold cnr; omega))
                refine iv_inc (M := mX12_blank) (C := 1) dX12_blank_75 78 rfl rfl (by decide) rfl rfl (by decide) (by omega) (by omega) (fun v84 ev84 => ?_)
                show PV _ _ _ _ _ _ _ 78 [.ref 123, .int x0, .int v84] [] _
                refine pv_goto (M := mX12_blank) (tgt := 47) dX12_blank_78 (by decide) ?_
                have kAb : ∀ j : Nat, (j : Int) < x0.toInt → 97 ≤ (m77 129 j).toInt ∧ (m77 129 j).toInt ≤ 122 := fun j hj => by rw [st_off e80 (by decide)]; exact kA j hj
                have kba : ∀ j, (j < 40 * cnr m ∨ 40 * cnr m + 40 ≤ j) → m77 125 j = m 125 j := fun j q => by rw [k75, up2_ne (by omega)]; exact kga j q
                have kbb : ∀ k : Nat, (k : Int) < v84.toInt → (m77 125 (40 * cnr m + k)).toInt = (m 129 k).toInt - 97 := fun k q => if z : (k : Int) = y25.toInt then (by rw [k75, show k = (y25.toInt).toNat by omega, up2_eq]; exact k74) else (by rw [k75, up2_ne (by omega)]; exact kgb k (by omega))
                have kb4 : ∀ j, m77 124 j = m 124 j := fun j => by rw [k75, up2_ne (by omega)]; exact kg4 j
                exact ih32 v84 m77 n27 (by first | omega | assumption | exact (iv_rng _).2 | exact (iv_rng _).1 | decide) (by first | omega | assumption | exact (iv_rng _).2 | exact (iv_rng _).1 | decide) kAb (by first | omega | assumption | (show (m77 123 0).toInt ≤ 7; omega) | decide) (by first | omega | assumption | (show (m77 123 0).toInt = (m 123 0).toInt; omega) | decide) (by first | omega | assumption | (show (m77 123 11).toInt = 0; omega) | decide) kba kbb kb4 I78 K79 (by omega)
          have z89 : (0 : Int32).toInt = 0 := by decide
          have kA0 := kR.resolve_left (by omega)
          have kia : ∀ j, (j < 40 * cnr m ∨ 40 * cnr m + 40 ≤ j) → m12 125 j = m 125 j := fun j _ => by rw [e15, up2_ne (by omega)]
          have ki4 : ∀ j, m12 124 j = m 124 j := fun j => by rw [e15, up2_ne (by omega)]
          exact lp31 (((40 - 0) : Int).toNat + 1) 0 m12 n (by first | omega | assumption | exact (iv_rng _).2 | exact (iv_rng _).1 | decide) (by first | omega | assumption | exact (iv_rng _).2 | exact (iv_rng _).1 | decide) kA0 (by first | omega | assumption | (show (m12 123 0).toInt ≤ 7; omega) | decide) (by first | omega | assumption | (show (m12 123 0).toInt = (m 123 0).toInt; omega) | decide) (by first | omega | assumption | (show (m12 123 11).toInt = 0; omega) | decide) kia (fun k q => by rw [Int32.toInt_zero] at q; omega) ki4 I13 K14 (by omega)
        · have c24 := iv_eq (X := v19.toInt) (Y := 0) c24 rfl (by decide)
          refine pv_bipush (M := mX12_blank) (v := (-2)) dX12_blank_42 44 rfl (by decide) ?_
          have z93 : ((-2) : Int32).toInt = (-2) := by decide
          exact pv_iret (M := mX12_blank) dX12_blank_44 rfl rfl ⟨_, _, _, rfl, rfl, I13, K14, by decide, by decide, ⟨(by first | exact Or.inr ⟨by omega, (by first | omega | decide), (by first | omega | decide), (by first | omega | decide)⟩ | exact Or.inl ⟨by omega, by omega, by omega, by omega, (by first | omega | decide), (kf.elim (fun q => Or.inl ⟨q.2, by omega, by omega⟩) (fun q => by exfalso; omega))⟩ | exact Or.inl ⟨by omega, by omega, by omega, by omega, (by first | omega | decide), (kf.elim (fun q => by exfalso; omega) (fun q => Or.inr ⟨q.2, (by first | omega | decide), by omega⟩))⟩), (by first | exact ⟨fun _ _ => rfl, fun _ _ => rfl, fun q => by exfalso; omega⟩ | exact ⟨fun _ _ => by rw [e15, up2_ne (by omega)], fun _ _ => by rw [e15, up2_ne (by omega)], fun q => by exfalso; omega⟩ | exact ⟨fun j q => by rw [e15, up2_ne (by omega), k91, up2_ne (by omega)]; exact kg4 j, fun j q => by rw [e15, up2_ne (by omega), k91, up2_ne (by omega)]; exact kga j q, fun _ => ⟨by rw [e15, up2_ne (by omega), k91, up2_eq], fun k q => by rw [e15, up2_ne (by omega), k91, up2_ne (by omega)]; exact kgb k (by omega)⟩⟩)⟩⟩
      · have c11 := iv_nle (X := x0.toInt) (Y := v10.toInt) c11 rfl rfl
        refine pv_iconst (M := mX12_blank) (v := (-1)) dX12_blank_27 28 rfl (by decide) ?_
        have z94 : ((-1) : Int32).toInt = (-1) := by decide
        exact pv_iret (M := mX12_blank) dX12_blank_28 rfl rfl ⟨_, _, _, rfl, rfl, I, Kp, by decide, by decide, ⟨(by first | exact Or.inr ⟨by omega, (by first | omega | decide), (by first | omega | decide), (by first | omega | decide)⟩ | exact Or.inl ⟨by omega, by omega, by omega, by omega, (by first | omega | decide), (kf.elim (fun q => Or.inl ⟨q.2, by omega, by omega⟩) (fun q => by exfalso; omega))⟩ | exact Or.inl ⟨by omega, by omega, by omega, by omega, (by first | omega | decide), (kf.elim (fun q => by exfalso; omega) (fun q => Or.inr ⟨q.2, (by first | omega | decide), by omega⟩))⟩), (by first | exact ⟨fun _ _ => rfl, fun _ _ => rfl, fun q => by exfalso; omega⟩ | exact ⟨fun _ _ => by rw [noE, up2_ne (by omega)], fun _ _ => by rw [noE, up2_ne (by omega)], fun q => by exfalso; omega⟩ | exact ⟨fun j q => by rw [noE, up2_ne (by omega), k91, up2_ne (by omega)]; exact kg4 j, fun j q => by rw [noE, up2_ne (by omega), k91, up2_ne (by omega)]; exact kga j q, fun _ => ⟨by rw [noE, up2_ne (by omega), k91, up2_eq], fun k q => by rw [noE, up2_ne (by omega), k91, up2_ne (by omega)]; exact kgb k (by omega)⟩⟩)⟩⟩

set_option maxHeartbeats 2000000 in
set_option maxRecDepth 20000 in
theorem s_X12_deed_vy (g : pv_G) {T : List mv_T} {m : Nat → Nat → Int32} {n : Nat → Nat → Int64} {r : Nat → Value} (hT : TX T) (I : IV BB m) (x0 : Int32) (x1 : Int32) : PM g mX12_deed yX12_deed (sqI T BB (wl [(123, 123, some 4), (123, 123, some 11), (126, 126, none), (127, 127, none)]) r m (-2147483648) 2147483647 (fun m' v => DDK x0.toInt x1.toInt (m 123 11).toInt (LET 129 m x1.toInt) v.toInt (m' 123 11).toInt ∧ DDWr m m' x0.toInt x1.toInt v.toInt)) 3 0 0 [.ref 123, .int x0, .int x1] (mk T m n r) := by
  have Kp : fr (wl [(123, 123, some 4), (123, 123, some 11), (126, 126, none), (127, 127, none)]) m m := fr.rf
  have z95 : 0 ≤ (m 123 11).toInt ∧ (m 123 11).toInt ≤ 200 := I 123 11
  refine PM.of 1 (lo := [.ref 123, .int x0, .int x1, pv_U]) rfl (by decide) rfl rfl (Nat.le_of_ble_eq_true rfl) ?_
  refine pv_iload_n (M := mX12_deed) 1 dX12_deed_0 1 rfl rfl rfl ?_
  refine pv_iconst (M := mX12_deed) (v := 0) dX12_deed_1 2 rfl (by decide) ?_
  refine pv_bipush (M := mX12_deed) (v := 7) dX12_deed_2 4 rfl (by decide) ?_
  have z1 : (0 : Int32).toInt = 0 := by decide
  have z2 : (7 : Int32).toInt = 7 := by decide
  refine pv_calls (M := mX12_deed) (as := [.int x0, .int 0, .int 7]) (st := []) (kc2 := 0) (ks2 := 0) dX12_deed_4 wd1370 YX12_in wd1371 (s_X12_in_vx g hT I x0 0 7) rfl rfl (Nat.le_of_ble_eq_true rfl) (by decide) rfl rfl 7 rfl (fun rv h1 q3 => ?_)
  obtain ⟨v4, rfl, rfl, pv4, qv4, rv4⟩ := q3
  replace rv4 : (v4 = 0 ∨ ((0 : Int) ≤ x0.toInt ∧ x0.toInt ≤ (7 : Int))) ∧ ((v4.toInt = 1 ∧ (0 : Int) ≤ x0.toInt ∧ x0.toInt ≤ (7 : Int)) ∨ (v4.toInt = 0 ∧ (x0.toInt < (0 : Int) ∨ (7 : Int) < x0.toInt))) := by have q_ := rv4; (try rw [z1] at q_); (try rw [z2] at q_); exact q_
  show PV _ _ _ _ _ _ _ 7 [.ref 123, .int x0, .int x1, pv_U] [.int v4] _
  refine pv_if_eq (M := mX12_deed) (tgt := 28) dX12_deed_7 10 rfl (by decide) (fun c5 => ?_) (fun c5 => ?_)
  · have c5 := iv_eq (X := v4.toInt) (Y := 0) c5 rfl (by decide)
    refine pv_iconst (M := mX12_deed) (v := (-1)) dX12_deed_28 29 rfl (by decide) ?_
    have z6 : ((-1) : Int32).toInt = (-1) := by decide
    exact pv_iret (M := mX12_deed) dX12_deed_29 rfl rfl ⟨_, _, _, rfl, rfl, I, Kp, by decide, by decide, ⟨(by first | exact Or.inr ⟨by omega, (by first | omega | decide), (by first | omega | decide)⟩ | exact Or.inl ⟨by omega, by omega, by omega, by omega, by omega, (by first | omega | decide), (kf.elim (fun q => Or.inl ⟨q.2, (by first | omega | decide)⟩) (fun q => by exfalso; omega))⟩ | exact Or.inl ⟨by omega, by omega, by omega, by omega, by omega, (by first | omega | decide), (kf.elim (fun q => by exfalso; omega) (fun q => Or.inr ⟨q.2, (by first | omega | decide)⟩))⟩), (by first | exact ⟨fun _ _ => rfl, fun _ _ => rfl, fun _ => rfl, fun q => absurd q (by decide)⟩ | exact ⟨fun _ _ => by rw [noE, up2_ne (by omega)], fun _ _ => by rw [noE, up2_ne (by omega)], fun _ => by rw [noE, up2_ne (by omega)], fun q => absurd q (by decide)⟩ | exact ⟨fun j q => by rw [noE, up2_ne (by omega), k86, up2_ne (by omega)]; exact kg4 j, fun j q => by rw [noE, up2_ne (by omega), k86, up2_ne (by omega)]; exact kga j (by omega), fun q => by exfalso; omega, fun _ => ⟨by rw [noE, up2_ne (by omega), k86, up2_eq], fun k q => by rw [noE, up2_ne (by omega), k86, up2_ne (by omega)]; exact kgb k (by omega), by rw [noE, up2_eq]; exact k95⟩⟩)⟩⟩
  · have pc5 := rv4.1.resolve_left c5
    have c5 := iv_ne (X := v4.toInt) (Y := 0) c5 rfl (by decide)
    refine pv_iload_n (M := mX12_deed) 2 dX12_deed_10 11 rfl rfl rfl ?_
    refine pv_iconst (M := mX12_deed) (v := 1) dX12_deed_11 12 rfl (by decide) ?_
    refine pv_bipush (M := mX12_deed) (v := 16) dX12_deed_12 14 rfl (by decide) ?_
    have z7 : (1 : Int32).toInt = 1 := by decide
    have z8 : (16 : Int32).toInt = 16 := by decide
    refine pv_calls (M := mX12_deed) (as := [.int x1, .int 1, .int 16]) (st := []) (kc2 := 0) (ks2 := 0) dX12_deed_14 wd1370 YX12_in wd1371 (s_X12_in_vx g hT I x1 1 16) rfl rfl (Nat.le_of_ble_eq_true rfl) (by decide) rfl rfl 17 rfl (fun rv h1 q9 => ?_)
    obtain ⟨v10, rfl, rfl, pv10, qv10, rv10⟩ := q9
    replace rv10 : (v10 = 0 ∨ ((1 : Int) ≤ x1.toInt ∧ x1.toInt ≤ (16 : Int))) ∧ ((v10.toInt = 1 ∧ (1 : Int) ≤ x1.toInt ∧ x1.toInt ≤ (16 : Int)) ∨ (v10.toInt = 0 ∧ (x1.toInt < (1 : Int) ∨ (16 : Int) < x1.toInt))) := by have q_ := rv10; (try rw [z7] at q_); (try rw [z8] at q_); exact q_
    show PV _ _ _ _ _ _ _ 17 [.ref 123, .int x0, .int x1, pv_U] [.int v10] _
    refine pv_if_eq (M := mX12_deed) (tgt := 28) dX12_deed_17 20 rfl (by decide) (fun c11 => ?_) (fun c11 => ?_)
    · have c11 := iv_eq (X := v10.toInt) (Y := 0) c11 rfl (by decide)
      refine pv_iconst (M := mX12_deed) (v := (-1)) dX12_deed_28 29 rfl (by decide) ?_
      have z12 : ((-1) : Int32).toInt = (-1) := by decide
      exact pv_iret (M := mX12_deed) dX12_deed_29 rfl rfl ⟨_, _, _, rfl, rfl, I, Kp, by decide, by decide, ⟨(by first | exact Or.inr ⟨by omega, (by first | omega | decide), (by first | omega | decide)⟩ | exact Or.inl ⟨by omega, by omega, by omega, by omega, by omega, (by first | omega | decide), (kf.elim (fun q => Or.inl ⟨q.2, (by first | omega | decide)⟩) (fun q => by exfalso; omega))⟩ | exact Or.inl ⟨by omega, by omega, by omega, by omega, by omega, (by first | omega | decide), (kf.elim (fun q => by exfalso; omega) (fun q => Or.inr ⟨q.2, (by first | omega | decide)⟩))⟩), (by first | exact ⟨fun _ _ => rfl, fun _ _ => rfl, fun _ => rfl, fun q => absurd q (by decide)⟩ | exact ⟨fun _ _ => by rw [noE, up2_ne (by omega)], fun _ _ => by rw [noE, up2_ne (by omega)], fun _ => by rw [noE, up2_ne (by omega)], fun q => absurd q (by decide)⟩ | exact ⟨fun j q => by rw [noE, up2_ne (by omega), k86, up2_ne (by omega)]; exact kg4 j, fun j q => by rw [noE, up2_ne (by omega), k86, up2_ne (by omega)]; exact kga j (by omega), fun q => by exfalso; omega, fun _ => ⟨by rw [noE, up2_ne (by omega), k86, up2_eq], fun k q => by rw [noE, up2_ne (by omega), k86, up2_ne (by omega)]; exact kgb k (by omega), by rw [noE, up2_eq]; exact k95⟩⟩)⟩⟩
    · have pc11 := rv10.1.resolve_left c11
      have c11 := iv_ne (X := v10.toInt) (Y := 0) c11 rfl (by decide)
      refine pv_iload_n (M := mX12_deed) 2 dX12_deed_20 21 rfl rfl rfl ?_
      refine pv_aload_n (M := mX12_deed) 0 dX12_deed_21 22 rfl rfl rfl ?_
      refine iv_get (M := mX12_deed) (l1 := 0) (l2 := 200) dX12_deed_22 FX12 11 wd1184 (by decide) (tl123 hT) rfl I rfl 25 rfl (fun v13 ev13 pv13 qv13 => ?_)
      have wv13 : v13.toInt = (m 123 11).toInt := congrArg Int32.toInt ev13
      refine pv_icmp_le (M := mX12_deed) (tgt := 30) dX12_deed_25 28 rfl (by decide) (fun c14 => ?_) (fun c14 => ?_)
      · have c14 := iv_le (X := x1.toInt) (Y := v13.toInt) c14 rfl rfl
        refine pv_aload_n (M := mX12_deed) 0 dX12_deed_30 31 rfl rfl rfl ?_
        refine pv_iconst (M := mX12_deed) (v := 0) dX12_deed_31 32 rfl (by decide) ?_
        refine iv_put (M := mX12_deed) (l1 := 0) (l2 := 200) dX12_deed_32 FX12 11 wd1184 (by decide) rfl (tl123 hT) rfl rfl rfl I rfl (by decide) (by decide) 35 rfl (fun m15 e18 I16 => ?_)
        have K17 := Kp.set e18 rfl
        have w19 : (m15 123 11).toInt = 0 := by rw [e18, up2_eq] <;> rfl
        refine pv_aload_n (M := mX12_deed) 0 dX12_deed_35 36 rfl rfl rfl ?_
        refine pv_iload_n (M := mX12_deed) 2 dX12_deed_36 37 rfl rfl rfl ?_
        refine pv_callv (M := mX12_deed) (as := [.int x1]) (st := []) (kc2 := 0) (ks2 := 0) dX12_deed_37 wd1377 YX12_areLetters ⟨wd1379, wd54⟩ (mk_get (tl123 hT)) rfl rfl (s_X12_areLetters_vx g hT I16 x1 (by omega) (by omega)) rfl rfl (Nat.le_of_ble_eq_true rfl) (by decide) rfl rfl 40 rfl (fun rv h1 q20 => ?_)
        obtain ⟨v21, rfl, rfl, pv21, qv21, rv21⟩ := q20
        replace rv21 : (v21.toInt = 0 ∧ ¬ LET 129 m15 x1.toInt) ∨ (v21.toInt = 1 ∧ LET 129 m15 x1.toInt) := rv21
        show PV _ _ _ _ _ _ _ 40 [.ref 123, .int x0, .int x1, pv_U] [.int v21] _
        have kRx := rv21
        have kle := LET_eq (c := 129) (m := m) (m2 := m15) (fun j => K17 129 j rfl) x1.toInt
        have kf : (v21.toInt = 1 ∧ LET 129 m x1.toInt) ∨ (v21.toInt = 0 ∧ ¬ LET 129 m x1.toInt) := kRx.elim (fun q => Or.inr ⟨q.1, fun z => q.2 (kle.mpr z)⟩) (fun q => Or.inl ⟨q.1, kle.mp q.2⟩)
        have kR : v21.toInt = 0 ∨ (∀ j : Nat, (j : Int) < x1.toInt → 97 ≤ (m15 129 j).toInt ∧ (m15 129 j).toInt ≤ 122) := kRx.elim (fun q => Or.inl q.1) (fun q => Or.inr q.2)
        refine pv_if_ne (M := mX12_deed) (tgt := 46) dX12_deed_40 43 rfl (by decide) (fun c26 => ?_) (fun c26 => ?_)
        · have c26 := iv_ne (X := v21.toInt) (Y := 0) c26 rfl (by decide)
          refine pv_iconst (M := mX12_deed) (v := 0) dX12_deed_46 47 rfl (by decide) ?_
          refine pv_istore_n (M := mX12_deed) 3 (lo2 := [.ref 123, .int x0, .int x1, .int 0]) dX12_deed_47 48 rfl rfl (by decide) rfl rfl ?_
          have lp33 : ∀ (fuel32 : Nat) (y27 : Int32) (m28 : Nat → Nat → Int32) (n29 : Nat → Nat → Int64), (0 ≤ y27.toInt) → (y27.toInt ≤ 16) → (∀ j : Nat, (j : Int) < x1.toInt → 97 ≤ (m28 129 j).toInt ∧ (m28 129 j).toInt ≤ 122) → ((m28 123 11).toInt = 0) → (∀ j, (j < 16 * x0.toInt.toNat ∨ 16 * x0.toInt.toNat + 16 ≤ j) → m28 127 j = m 127 j) → (∀ k : Nat, (k : Int) < y27.toInt → (m28 127 (16 * x0.toInt.toNat + k)).toInt = (m 129 k).toInt - 97) → (∀ j, m28 126 j = m 126 j) → (m28 123 4 = m 123 4) → IV BB m28 → fr (wl [(123, 123, some 4), (123, 123, some 11), (126, 126, none), (127, 127, none)]) m m28 → ((16 - y27.toInt) : Int).toNat < fuel32 → PV none g mX12_deed (sqI T BB (wl [(123, 123, some 4), (123, 123, some 11), (126, 126, none), (127, 127, none)]) r m (-2147483648) 2147483647 (fun m' v => DDK x0.toInt x1.toInt (m 123 11).toInt (LET 129 m x1.toInt) v.toInt (m' 123 11).toInt ∧ DDWr m m' x0.toInt x1.toInt v.toInt)) 3 0 0 48 [.ref 123, .int x0, .int x1, .int y27] [] (mk T m28 n29 r) := by
            intro fuel32
            induction fuel32 with
            | zero => intro y27 m28 n29 b35 b36 b37 b38 b39 b40 b41 b42 I30 K31 z43; omega
            | succ fuel32 ih34 =>
              intro y27 m28 n29 b35 b36 b37 b38 b39 b40 b41 b42 I30 K31 z43
              have z44 : 0 ≤ (m28 123 11).toInt ∧ (m28 123 11).toInt ≤ 200 := I30 123 11
              have kA := (show ∀ j : Nat, (j : Int) < x1.toInt → 97 ≤ (m28 129 j).toInt ∧ (m28 129 j).toInt ≤ 122 by assumption)
              have kga := (show ∀ j, (j < 16 * x0.toInt.toNat ∨ 16 * x0.toInt.toNat + 16 ≤ j) → m28 127 j = m 127 j by assumption)
              have kgb := (show ∀ k : Nat, (k : Int) < y27.toInt → (m28 127 (16 * x0.toInt.toNat + k)).toInt = (m 129 k).toInt - 97 by assumption)
              have kg4 := (show ∀ j, m28 126 j = m 126 j by assumption)
              have kg5 := (show m28 123 4 = m 123 4 by assumption)
              refine pv_iload_n (M := mX12_deed) 3 dX12_deed_48 49 rfl rfl rfl ?_
              refine pv_iload_n (M := mX12_deed) 2 dX12_deed_49 50 rfl rfl rfl ?_
              refine pv_icmp_ge (M := mX12_deed) (tgt := 79) dX12_deed_50 53 rfl (by decide) (fun c50 => ?_) (fun c50 => ?_)
              · have c50 := iv_le (X := x1.toInt) (Y := y27.toInt) c50 rfl rfl
                refine pv_aload_n (M := mX12_deed) 0 dX12_deed_79 80 rfl rfl rfl ?_
                refine mv_get (M := mX12_deed) (v := .ref 126) dX12_deed_80 FX12 7 wd1180 (by decide) (tl123 hT) rfl rfl 83 rfl ?_
                refine pv_iload_n (M := mX12_deed) 1 dX12_deed_83 84 rfl rfl rfl ?_
                refine pv_iload_n (M := mX12_deed) 2 dX12_deed_84 85 rfl rfl rfl ?_
                refine iv_iast (M := mX12_deed) (X := x0.toInt) (l1 := 0) (l2 := 16) dX12_deed_85 (tl126 hT) rfl (by omega) (by omega) I30 (fun _ => rfl) (by omega) (by omega) 86 rfl (fun m51 e54 I52 => ?_)
                have K53 := K31.set e54 rfl
                have w55 : (m51 123 11).toInt = (m28 123 11).toInt := by rw [e54, up2_ne (by omega)]
                have k86 := (e54).trans (up2_ix (j := x0.toInt.toNat) (by omega))
                refine pv_aload_n (M := mX12_deed) 0 dX12_deed_86 87 rfl rfl rfl ?_
                refine pv_aload_n (M := mX12_deed) 0 dX12_deed_87 88 rfl rfl rfl ?_
                refine iv_get (M := mX12_deed) (l1 := 0) (l2 := 255) dX12_deed_88 FX12 4 wd1177 (by decide) (tl123 hT) rfl I52 rfl 91 rfl (fun v57 ev57 pv57 qv57 => ?_)
                have k91 : v57 = m 123 4 := ev57.trans (by rw [k86, up2_ne (by omega)]; exact kg5)
                refine pv_iconst (M := mX12_deed) (v := 1) dX12_deed_91 92 rfl (by decide) ?_
                refine pv_iload_n (M := mX12_deed) 1 dX12_deed_92 93 rfl rfl rfl ?_
                refine iv_shlU (M := mX12_deed) dX12_deed_93 94 rfl (fun v59 ev59 => ?_)
                have pv59 : 1 ≤ v59.toInt ∧ v59.toInt ≤ 128 := by rw [ev59]; exact iv_sh17 (by omega) (by omega)
                have k94 := ev59
                refine iv_orU (M := mX12_deed) dX12_deed_94 95 rfl (fun v61 ev61 => ?_)
                have pv61 : 0 ≤ v61.toInt ∧ v61.toInt ≤ 255 := by rw [ev61]; exact iv_or8 (by omega) (by omega) (by omega) (by omega)
                have k95 : v61 = m 123 4 ||| ((1 : Int32) <<< (Int32.ofInt x0.toInt &&& 31)) := by rw [ev61, k91, k94, Int32.ofInt_toInt]
                refine iv_put (M := mX12_deed) (l1 := 0) (l2 := 255) dX12_deed_95 FX12 4 wd1177 (by decide) rfl (tl123 hT) rfl rfl rfl I52 rfl (by omega) (by omega) 98 rfl (fun m63 e66 I64 => ?_)
                have K65 := K53.set e66 rfl
                have w67 : (m63 123 11).toInt = (m51 123 11).toInt := by rw [e66, up2_ne (by omega)]
                refine pv_iload_n (M := mX12_deed) 2 dX12_deed_98 99 rfl rfl rfl ?_
                exact pv_iret (M := mX12_deed) dX12_deed_99 rfl rfl ⟨_, _, _, rfl, rfl, I64, K65, (iv_rng x1).1, (iv_rng x1).2, ⟨(by first | exact Or.inr ⟨by omega, (by first | omega | decide), (by first | omega | decide)⟩ | exact Or.inl ⟨by omega, by omega, by omega, by omega, by omega, (by first | omega | decide), (kf.elim (fun q => Or.inl ⟨q.2, (by first | omega | decide)⟩) (fun q => by exfalso; omega))⟩ | exact Or.inl ⟨by omega, by omega, by omega, by omega, by omega, (by first | omega | decide), (kf.elim (fun q => by exfalso; omega) (fun q => Or.inr ⟨q.2, (by first | omega | decide)⟩))⟩), (by first | exact ⟨fun _ _ => rfl, fun _ _ => rfl, fun _ => rfl, fun q => absurd q (by decide)⟩ | exact ⟨fun _ _ => by rw [e66, up2_ne (by omega)], fun _ _ => by rw [e66, up2_ne (by omega)], fun _ => by rw [e66, up2_ne (by omega)], fun q => absurd q (by decide)⟩ | exact ⟨fun j q => by rw [e66, up2_ne (by omega), k86, up2_ne (by omega)]; exact kg4 j, fun j q => by rw [e66, up2_ne (by omega), k86, up2_ne (by omega)]; exact kga j (by omega), fun q => by exfalso; omega, fun _ => ⟨by rw [e66, up2_ne (by omega), k86, up2_eq], fun k q => by rw [e66, up2_ne (by omega), k86, up2_ne (by omega)]; exact kgb k (by omega), by rw [e66, up2_eq]; exact k95⟩⟩)⟩⟩
              · have c50 := iv_nle (X := x1.toInt) (Y := y27.toInt) c50 rfl rfl
                refine pv_aload_n (M := mX12_deed) 0 dX12_deed_53 54 rfl rfl rfl ?_
                refine mv_get (M := mX12_deed) (v := .ref 127) dX12_deed_54 FX12 8 wd1181 (by decide) (tl123 hT) rfl rfl 57 rfl ?_
                refine pv_bipush (M := mX12_deed) (v := 16) dX12_deed_57 59 rfl (by decide) ?_
                refine pv_iload_n (M := mX12_deed) 1 dX12_deed_59 60 rfl rfl rfl ?_
                refine iv_imul (M := mX12_deed) (X := 16) (Y := x0.toInt) dX12_deed_60 61 rfl (by decide) rfl (by omega) (by omega) (fun v68 ev68 => ?_)
                refine pv_iload_n (M := mX12_deed) 3 dX12_deed_61 62 rfl rfl rfl ?_
                refine iv_iadd (M := mX12_deed) (X := v68.toInt) (Y := y27.toInt) dX12_deed_62 63 rfl rfl rfl (by omega) (by omega) (fun v69 ev69 => ?_)
                refine pv_aload_n (M := mX12_deed) 0 dX12_deed_63 64 rfl rfl rfl ?_
                refine mv_get (M := mX12_deed) (v := .ref 129) dX12_deed_64 FX12 10 wd1183 (by decide) (tl123 hT) rfl rfl 67 rfl ?_
                refine pv_iload_n (M := mX12_deed) 3 dX12_deed_67 68 rfl rfl rfl ?_
                refine iv_bald (M := mX12_deed) (X := y27.toInt) (l1 := (-128)) (l2 := 127) dX12_deed_68 (tl129 hT) rfl (by omega) (by omega) I30 (fun _ => rfl) 69 rfl (fun v70 ev70 pv70 qv70 => ?_)
                have kL := ev70
                have k69 : v70.toInt = (m 129 y27.toInt.toNat).toInt := congrArg Int32.toInt (ev70.trans (K31 129 _ rfl))
                refine pv_bipush (M := mX12_deed) (v := 97) dX12_deed_69 71 rfl (by decide) ?_
                have kv : 97 ≤ v70.toInt ∧ v70.toInt ≤ 122 := by rw [kL]; exact kA _ (by omega)
                refine iv_isub (M := mX12_deed) (X := v70.toInt) (Y := 97) dX12_deed_71 72 rfl rfl (by decide) (by omega) (by omega) (fun v74 ev74 => ?_)
                have k72 : v74.toInt = (m 129 y27.toInt.toNat).toInt - 97 := by omega
                refine iv_iast (M := mX12_deed) (X := v69.toInt) (l1 := 0) (l2 := 25) dX12_deed_72 (tl127 hT) rfl (by omega) (by omega) I30 (fun _ => rfl) (by omega) (by omega) 73 rfl (fun m76 e79 I77 => ?_)
                have K78 := K31.set e79 rfl
                have w80 : (m76 123 11).toInt = (m28 123 11).toInt := by rw [e79, up2_ne (by omega)]
                have k73 := (e79).trans (up2_ix (j := 16 * x0.toInt.toNat + y27.toInt.toNat) (by omega))
                refine iv_inc (M := mX12_deed) (C := 1) dX12_deed_73 76 rfl rfl (by decide) rfl rfl (by decide) (by omega) (by omega) (fun v82 ev82 => ?_)
                show PV _ _ _ _ _ _ _ 76 [.ref 123, .int x0, .int x1, .int v82] [] _
                refine pv_goto (M := mX12_deed) (tgt := 48) dX12_deed_76 (by decide) ?_
                have kAb : ∀ j : Nat, (j : Int) < x1.toInt → 97 ≤ (m76 129 j).toInt ∧ (m76 129 j).toInt ≤ 122 := fun j hj => by rw [st_off e79 (by decide)]; exact kA j hj
                have kba : ∀ j, (j < 16 * x0.toInt.toNat ∨ 16 * x0.toInt.toNat + 16 ≤ j) → m76 127 j = m 127 j := fun j q => by rw [k73, up2_ne (by omega)]; exact kga j q
                have kbb : ∀ k : Nat, (k : Int) < v82.toInt → (m76 127 (16 * x0.toInt.toNat + k)).toInt = (m 129 k).toInt - 97 := fun k q => if z : (k : Int) = y27.toInt then (by rw [k73, show k = (y27.toInt).toNat by omega, up2_eq]; exact k72) else (by rw [k73, up2_ne (by omega)]; exact kgb k (by omega))
                have kb4 : ∀ j, m76 126 j = m 126 j := fun j => by rw [k73, up2_ne (by omega)]; exact kg4 j
                have kb5 : m76 123 4 = m 123 4 := by rw [k73, up2_ne (by omega)]; exact kg5
                exact ih34 v82 m76 n29 (by first | omega | assumption | exact (iv_rng _).2 | exact (iv_rng _).1 | decide) (by first | omega | assumption | exact (iv_rng _).2 | exact (iv_rng _).1 | decide) kAb (by first | omega | assumption | (show (m76 123 11).toInt = 0; omega) | decide) kba kbb kb4 kb5 I77 K78 (by omega)
          have z88 : (0 : Int32).toInt = 0 := by decide
          have kA0 := kR.resolve_left (by omega)
          have kia : ∀ j, (j < 16 * x0.toInt.toNat ∨ 16 * x0.toInt.toNat + 16 ≤ j) → m15 127 j = m 127 j := fun j _ => by rw [e18, up2_ne (by omega)]
          have ki4 : ∀ j, m15 126 j = m 126 j := fun j => by rw [e18, up2_ne (by omega)]
          have ki5 : m15 123 4 = m 123 4 := by rw [e18, up2_ne (by omega)]
          exact lp33 (((16 - 0) : Int).toNat + 1) 0 m15 n (by first | omega | assumption | exact (iv_rng _).2 | exact (iv_rng _).1 | decide) (by first | omega | assumption | exact (iv_rng _).2 | exact (iv_rng _).1 | decide) kA0 (by first | omega | assumption | (show (m15 123 11).toInt = 0; omega) | decide) kia (fun k q => by rw [Int32.toInt_zero] at q; omega) ki4 ki5 I16 K17 (by omega)
        · have c26 := iv_eq (X := v21.toInt) (Y := 0) c26 rfl (by decide)
          refine pv_bipush (M := mX12_deed) (v := (-2)) dX12_deed_43 45 rfl (by decide) ?_
          have z93 : ((-2) : Int32).toInt = (-2) := by decide
          exact pv_iret (M := mX12_deed) dX12_deed_45 rfl rfl ⟨_, _, _, rfl, rfl, I16, K17, by decide, by decide, ⟨(by first | exact Or.inr ⟨by omega, (by first | omega | decide), (by first | omega | decide)⟩ | exact Or.inl ⟨by omega, by omega, by omega, by omega, by omega, (by first | omega | decide), (kf.elim (fun q => Or.inl ⟨q.2, (by first | omega | decide)⟩) (fun q => by exfalso; omega))⟩ | exact Or.inl ⟨by omega, by omega, by omega, by omega, by omega, (by first | omega | decide), (kf.elim (fun q => by exfalso; omega) (fun q => Or.inr ⟨q.2, (by first | omega | decide)⟩))⟩), (by first | exact ⟨fun _ _ => rfl, fun _ _ => rfl, fun _ => rfl, fun q => absurd q (by decide)⟩ | exact ⟨fun _ _ => by rw [e18, up2_ne (by omega)], fun _ _ => by rw [e18, up2_ne (by omega)], fun _ => by rw [e18, up2_ne (by omega)], fun q => absurd q (by decide)⟩ | exact ⟨fun j q => by rw [e18, up2_ne (by omega), k86, up2_ne (by omega)]; exact kg4 j, fun j q => by rw [e18, up2_ne (by omega), k86, up2_ne (by omega)]; exact kga j (by omega), fun q => by exfalso; omega, fun _ => ⟨by rw [e18, up2_ne (by omega), k86, up2_eq], fun k q => by rw [e18, up2_ne (by omega), k86, up2_ne (by omega)]; exact kgb k (by omega), by rw [e18, up2_eq]; exact k95⟩⟩)⟩⟩
      · have c14 := iv_nle (X := x1.toInt) (Y := v13.toInt) c14 rfl rfl
        refine pv_iconst (M := mX12_deed) (v := (-1)) dX12_deed_28 29 rfl (by decide) ?_
        have z94 : ((-1) : Int32).toInt = (-1) := by decide
        exact pv_iret (M := mX12_deed) dX12_deed_29 rfl rfl ⟨_, _, _, rfl, rfl, I, Kp, by decide, by decide, ⟨(by first | exact Or.inr ⟨by omega, (by first | omega | decide), (by first | omega | decide)⟩ | exact Or.inl ⟨by omega, by omega, by omega, by omega, by omega, (by first | omega | decide), (kf.elim (fun q => Or.inl ⟨q.2, (by first | omega | decide)⟩) (fun q => by exfalso; omega))⟩ | exact Or.inl ⟨by omega, by omega, by omega, by omega, by omega, (by first | omega | decide), (kf.elim (fun q => by exfalso; omega) (fun q => Or.inr ⟨q.2, (by first | omega | decide)⟩))⟩), (by first | exact ⟨fun _ _ => rfl, fun _ _ => rfl, fun _ => rfl, fun q => absurd q (by decide)⟩ | exact ⟨fun _ _ => by rw [noE, up2_ne (by omega)], fun _ _ => by rw [noE, up2_ne (by omega)], fun _ => by rw [noE, up2_ne (by omega)], fun q => absurd q (by decide)⟩ | exact ⟨fun j q => by rw [noE, up2_ne (by omega), k86, up2_ne (by omega)]; exact kg4 j, fun j q => by rw [noE, up2_ne (by omega), k86, up2_ne (by omega)]; exact kga j (by omega), fun q => by exfalso; omega, fun _ => ⟨by rw [noE, up2_ne (by omega), k86, up2_eq], fun k q => by rw [noE, up2_ne (by omega), k86, up2_ne (by omega)]; exact kgb k (by omega), by rw [noE, up2_eq]; exact k95⟩⟩)⟩⟩

set_option maxHeartbeats 2000000 in
set_option maxRecDepth 20000 in
theorem s_X12_isDeed_vy (g : pv_G) {T : List mv_T} {m : Nat → Nat → Int32} {n : Nat → Nat → Int64} {r : Nat → Value} (hT : TX T) (I : IV BB m) (x0 : Int32) : PM g mX12_isDeed yX12_isDeed (sqP (mk T m n r) 0 1 (fun v => (v = 0 ∨ (0 ≤ x0.toInt ∧ x0.toInt ≤ 7)) ∧ v = idr m x0)) 1 0 0 [.ref 123, .int x0] (mk T m n r) := by
  have Kp : fr (wl []) m m := fr.rf
  refine PM.of 0 (lo := [.ref 123, .int x0]) rfl (by decide) rfl rfl (Nat.le_of_ble_eq_true rfl) ?_
  refine pv_iload_n (M := mX12_isDeed) 1 dX12_isDeed_0 1 rfl rfl rfl ?_
  refine pv_if_lt (M := mX12_isDeed) (tgt := 26) dX12_isDeed_1 4 rfl (by decide) (fun c1 => ?_) (fun c1 => ?_)
  · have c1 := iv_lt (X := x0.toInt) (Y := 0) c1 rfl (by decide)
    refine pv_iconst (M := mX12_isDeed) (v := 0) dX12_isDeed_26 27 rfl (by decide) ?_
    have z2 : (0 : Int32).toInt = 0 := by decide
    exact pv_iret (M := mX12_isDeed) dX12_isDeed_27 rfl rfl ⟨_, rfl, rfl, by decide, by decide, ⟨Or.inl rfl, by unfold idr; rw [if_neg (fun q => by have z := amv_1.mp q.2.2; omega)]⟩⟩
  · have c1 := iv_nlt (X := x0.toInt) (Y := 0) c1 rfl (by decide)
    refine pv_iload_n (M := mX12_isDeed) 1 dX12_isDeed_4 5 rfl rfl rfl ?_
    refine pv_bipush (M := mX12_isDeed) (v := 8) dX12_isDeed_5 7 rfl (by decide) ?_
    refine pv_icmp_ge (M := mX12_isDeed) (tgt := 26) dX12_isDeed_7 10 rfl (by decide) (fun c3 => ?_) (fun c3 => ?_)
    · have c3 := iv_le (X := 8) (Y := x0.toInt) c3 (by decide) rfl
      refine pv_iconst (M := mX12_isDeed) (v := 0) dX12_isDeed_26 27 rfl (by decide) ?_
      have z4 : (0 : Int32).toInt = 0 := by decide
      exact pv_iret (M := mX12_isDeed) dX12_isDeed_27 rfl rfl ⟨_, rfl, rfl, by decide, by decide, ⟨Or.inl rfl, by unfold idr; rw [if_neg (fun q => by have z := amv_1.mp q.2.2; omega)]⟩⟩
    · have c3 := iv_nle (X := 8) (Y := x0.toInt) c3 (by decide) rfl
      refine pv_aload_n (M := mX12_isDeed) 0 dX12_isDeed_10 11 rfl rfl rfl ?_
      refine iv_get (M := mX12_isDeed) (l1 := 0) (l2 := 255) dX12_isDeed_11 FX12 4 wd1177 (by decide) (tl123 hT) rfl I rfl 14 rfl (fun v5 ev5 pv5 qv5 => ?_)
      have k14 := ev5
      refine pv_iload_n (M := mX12_isDeed) 1 dX12_isDeed_14 15 rfl rfl rfl ?_
      refine iv_shrU (M := mX12_isDeed) dX12_isDeed_15 16 rfl (fun v7 ev7 => ?_)
      have k16 := ev7
      refine pv_iconst (M := mX12_isDeed) (v := 1) dX12_isDeed_16 17 rfl (by decide) ?_
      refine iv_iandm (M := mX12_isDeed) dX12_isDeed_17 18 rfl 1 (by decide) (by decide) (fun v9 ev9 pv9 qv9 => ?_)
      have qv9 : v9.toInt < 2 := qv9
      have k18 : ((m 123 4 >>> (x0 &&& 31)) &&& 1).toInt = v9.toInt := by rw [ev9, k16, k14]
      refine pv_iconst (M := mX12_isDeed) (v := 1) dX12_isDeed_18 19 rfl (by decide) ?_
      refine pv_icmp_ne (M := mX12_isDeed) (tgt := 26) dX12_isDeed_19 22 rfl (by decide) (fun c11 => ?_) (fun c11 => ?_)
      · have c11 := iv_ne (X := v9.toInt) (Y := 1) c11 rfl (by decide)
        refine pv_iconst (M := mX12_isDeed) (v := 0) dX12_isDeed_26 27 rfl (by decide) ?_
        have z12 : (0 : Int32).toInt = 0 := by decide
        exact pv_iret (M := mX12_isDeed) dX12_isDeed_27 rfl rfl ⟨_, rfl, rfl, by decide, by decide, ⟨Or.inl rfl, by unfold idr; rw [if_neg (fun q => by have z := amv_1.mp q.2.2; omega)]⟩⟩
      · have c11 := iv_eq (X := v9.toInt) (Y := 1) c11 rfl (by decide)
        refine pv_iconst (M := mX12_isDeed) (v := 1) dX12_isDeed_22 23 rfl (by decide) ?_
        refine pv_goto (M := mX12_isDeed) (tgt := 27) dX12_isDeed_23 (by decide) ?_
        have z13 : (1 : Int32).toInt = 1 := by decide
        exact pv_iret (M := mX12_isDeed) dX12_isDeed_27 rfl rfl ⟨_, rfl, rfl, by decide, by decide, ⟨Or.inr (by omega), by unfold idr; rw [if_pos ⟨by omega, by omega, amv_1.mpr (by omega)⟩]⟩⟩

set_option maxHeartbeats 2000000 in
set_option maxRecDepth 20000 in
theorem s_X8_comesWithout_vy (g : pv_G) {T : List mv_T} {m : Nat → Nat → Int32} {n : Nat → Nat → Int64} {r : Nat → Value} (hT : TX T) (I : IV BB m) (aT : Nat) (rmT : Nat) (haT : RowAt T aT rmT) (a0 : Nat) (rm0 : Nat) (ha0 : RowAt T a0 rm0) (x1 : Int32) : PM g mX8_comesWithout yX8_comesWithout (sqP (mk T m n r) 0 1 (fun v => (v.toInt = 1 ∧ COM (m (a0 + 1)) (m (aT + 1)) (m a0 1).toInt (m aT 1).toInt x1.toInt) ∨ (v.toInt = 0 ∧ ¬ COM (m (a0 + 1)) (m (aT + 1)) (m a0 1).toInt (m aT 1).toInt x1.toInt))) 1 0 0 [.ref aT, .ref a0, .int x1] (mk T m n r) := by
  have Kp : fr (wl []) m m := fr.rf
  have zrT := haT.2.2.2.2
  have zr0 := ha0.2.2.2.2
  refine PM.of 2 (lo := [.ref aT, .ref a0, .int x1, pv_U, pv_U]) rfl (by decide) rfl rfl (Nat.le_of_ble_eq_true rfl) ?_
  have kn0 : 0 ≤ (m aT 1).toInt := by have z := (I aT 1).1; rw [haT.2.2.1] at z; exact z
  have kn1 : 0 ≤ (m a0 1).toInt := by have z := (I a0 1).1; rw [ha0.2.2.1] at z; exact z
  refine pv_iconst (M := mX8_comesWithout) (v := 0) dX8_comesWithout_0 1 rfl (by decide) ?_
  refine pv_istore_n (M := mX8_comesWithout) 3 (lo2 := [.ref aT, .ref a0, .int x1, .int 0, pv_U]) dX8_comesWithout_1 2 rfl rfl (by decide) rfl rfl ?_
  refine pv_iconst (M := mX8_comesWithout) (v := 0) dX8_comesWithout_2 3 rfl (by decide) ?_
  refine pv_istore (M := mX8_comesWithout) (lo2 := [.ref aT, .ref a0, .int x1, .int 0, .int 0]) dX8_comesWithout_3 5 rfl (by decide) rfl rfl ?_
  have lp10 : ∀ (fuel9 : Nat) (y3 : Int32) (y4 : Int32), (0 ≤ y3.toInt) → (y3.toInt ≤ 48) → (0 ≤ y4.toInt) → (y4.toInt ≤ 48) → (y4.toInt ≤ (m a0 1).toInt) → (y3.toInt ≤ (m aT 1).toInt) → (y3.toInt = gfd (m (a0 + 1)) (m (aT + 1)) (m aT 1).toInt x1.toInt y4.toInt.toNat) → ((48 - y4.toInt) : Int).toNat < fuel9 → PV none g mX8_comesWithout (sqP (mk T m n r) 0 1 (fun v => (v.toInt = 1 ∧ COM (m (a0 + 1)) (m (aT + 1)) (m a0 1).toInt (m aT 1).toInt x1.toInt) ∨ (v.toInt = 0 ∧ ¬ COM (m (a0 + 1)) (m (aT + 1)) (m a0 1).toInt (m aT 1).toInt x1.toInt))) 1 0 0 5 [.ref aT, .ref a0, .int x1, .int y3, .int y4] [] (mk T m n r) := by
    intro fuel9
    induction fuel9 with
    | zero => intro y3 y4 b12 b13 b14 b15 b16 b17 b18 z19; omega
    | succ fuel9 ih11 =>
      intro y3 y4 b12 b13 b14 b15 b16 b17 b18 z19
      have kg := (show y3.toInt = gfd (m (a0 + 1)) (m (aT + 1)) (m aT 1).toInt x1.toInt y4.toInt.toNat by assumption)
      refine pv_iload (M := mX8_comesWithout) dX8_comesWithout_5 7 rfl rfl ?_
      refine pv_aload_n (M := mX8_comesWithout) 1 dX8_comesWithout_7 8 rfl rfl rfl ?_
      refine iv_get (M := mX8_comesWithout) (l1 := 0) (l2 := (rm0 : Int)) dX8_comesWithout_8 FX8 1 wd193 (by decide) ha0.1 rfl I ha0.2.2.1 11 rfl (fun v21 ev21 pv21 qv21 => ?_)
      have wv21 : v21.toInt = (m a0 1).toInt := congrArg Int32.toInt ev21
      refine pv_icmp_ge (M := mX8_comesWithout) (tgt := 53) dX8_comesWithout_11 14 rfl (by decide) (fun c22 => ?_) (fun c22 => ?_)
      · have c22 := iv_le (X := v21.toInt) (Y := y4.toInt) c22 rfl rfl
        have kE := COM_end (f := m (a0 + 1)) (g := m (aT + 1)) (n0 := (m a0 1).toInt) (n1 := (m aT 1).toInt) (out := x1.toInt) (k := y4.toInt.toNat) (by omega) (by rw [← kg]; omega) kn0
        refine pv_iload_n (M := mX8_comesWithout) 3 dX8_comesWithout_53 54 rfl rfl rfl ?_
        refine pv_aload_n (M := mX8_comesWithout) 0 dX8_comesWithout_54 55 rfl rfl rfl ?_
        refine iv_get (M := mX8_comesWithout) (l1 := 0) (l2 := (rmT : Int)) dX8_comesWithout_55 FX8 1 wd193 (by decide) haT.1 rfl I haT.2.2.1 58 rfl (fun v24 ev24 pv24 qv24 => ?_)
        have wv24 : v24.toInt = (m aT 1).toInt := congrArg Int32.toInt ev24
        refine pv_icmp_ne (M := mX8_comesWithout) (tgt := 65) dX8_comesWithout_58 61 rfl (by decide) (fun c25 => ?_) (fun c25 => ?_)
        · have c25 := iv_ne (X := y3.toInt) (Y := v24.toInt) c25 rfl rfl
          refine pv_iconst (M := mX8_comesWithout) (v := 0) dX8_comesWithout_65 66 rfl (by decide) ?_
          have z26 : (0 : Int32).toInt = 0 := by decide
          exact pv_iret (M := mX8_comesWithout) dX8_comesWithout_66 rfl rfl ⟨_, rfl, rfl, by decide, by decide, (Or.inr ⟨by decide, fun q => by have z := kE.mpr q; rw [← kg] at z; omega⟩)⟩
        · have c25 := iv_eq (X := y3.toInt) (Y := v24.toInt) c25 rfl rfl
          refine pv_iconst (M := mX8_comesWithout) (v := 1) dX8_comesWithout_61 62 rfl (by decide) ?_
          refine pv_goto (M := mX8_comesWithout) (tgt := 66) dX8_comesWithout_62 (by decide) ?_
          have z27 : (1 : Int32).toInt = 1 := by decide
          exact pv_iret (M := mX8_comesWithout) dX8_comesWithout_66 rfl rfl ⟨_, rfl, rfl, by decide, by decide, (Or.inl ⟨by decide, kE.mp (by rw [← kg]; omega)⟩)⟩
      · have c22 := iv_nle (X := v21.toInt) (Y := y4.toInt) c22 rfl rfl
        refine pv_iload_n (M := mX8_comesWithout) 3 dX8_comesWithout_14 15 rfl rfl rfl ?_
        refine pv_aload_n (M := mX8_comesWithout) 0 dX8_comesWithout_15 16 rfl rfl rfl ?_
        refine iv_get (M := mX8_comesWithout) (l1 := 0) (l2 := (rmT : Int)) dX8_comesWithout_16 FX8 1 wd193 (by decide) haT.1 rfl I haT.2.2.1 19 rfl (fun v28 ev28 pv28 qv28 => ?_)
        have wv28 : v28.toInt = (m aT 1).toInt := congrArg Int32.toInt ev28
        refine pv_icmp_ge (M := mX8_comesWithout) (tgt := 53) dX8_comesWithout_19 22 rfl (by decide) (fun c29 => ?_) (fun c29 => ?_)
        · have c29 := iv_le (X := v28.toInt) (Y := y3.toInt) c29 rfl rfl
          have kE := COM_end (f := m (a0 + 1)) (g := m (aT + 1)) (n0 := (m a0 1).toInt) (n1 := (m aT 1).toInt) (out := x1.toInt) (k := y4.toInt.toNat) (by omega) (by rw [← kg]; omega) kn0
          refine pv_iload_n (M := mX8_comesWithout) 3 dX8_comesWithout_53 54 rfl rfl rfl ?_
          refine pv_aload_n (M := mX8_comesWithout) 0 dX8_comesWithout_54 55 rfl rfl rfl ?_
          refine iv_get (M := mX8_comesWithout) (l1 := 0) (l2 := (rmT : Int)) dX8_comesWithout_55 FX8 1 wd193 (by decide) haT.1 rfl I haT.2.2.1 58 rfl (fun v31 ev31 pv31 qv31 => ?_)
          have wv31 : v31.toInt = (m aT 1).toInt := congrArg Int32.toInt ev31
          refine pv_icmp_ne (M := mX8_comesWithout) (tgt := 65) dX8_comesWithout_58 61 rfl (by decide) (fun c32 => ?_) (fun c32 => ?_)
          · have c32 := iv_ne (X := y3.toInt) (Y := v31.toInt) c32 rfl rfl
            refine pv_iconst (M := mX8_comesWithout) (v := 0) dX8_comesWithout_65 66 rfl (by decide) ?_
            have z33 : (0 : Int32).toInt = 0 := by decide
            exact pv_iret (M := mX8_comesWithout) dX8_comesWithout_66 rfl rfl ⟨_, rfl, rfl, by decide, by decide, (Or.inr ⟨by decide, fun q => by have z := kE.mpr q; rw [← kg] at z; omega⟩)⟩
          · have c32 := iv_eq (X := y3.toInt) (Y := v31.toInt) c32 rfl rfl
            refine pv_iconst (M := mX8_comesWithout) (v := 1) dX8_comesWithout_61 62 rfl (by decide) ?_
            refine pv_goto (M := mX8_comesWithout) (tgt := 66) dX8_comesWithout_62 (by decide) ?_
            have z34 : (1 : Int32).toInt = 1 := by decide
            exact pv_iret (M := mX8_comesWithout) dX8_comesWithout_66 rfl rfl ⟨_, rfl, rfl, by decide, by decide, (Or.inl ⟨by decide, kE.mp (by rw [← kg]; omega)⟩)⟩
        · have c29 := iv_nle (X := v28.toInt) (Y := y3.toInt) c29 rfl rfl
          refine pv_iload (M := mX8_comesWithout) dX8_comesWithout_22 24 rfl rfl ?_
          refine pv_iload_n (M := mX8_comesWithout) 2 dX8_comesWithout_24 25 rfl rfl rfl ?_
          refine pv_icmp_eq (M := mX8_comesWithout) (tgt := 47) dX8_comesWithout_25 28 rfl (by decide) (fun c35 => ?_) (fun c35 => ?_)
          · have c35 := iv_eq (X := y4.toInt) (Y := x1.toInt) c35 rfl rfl
            refine iv_inc (M := mX8_comesWithout) (C := 1) dX8_comesWithout_47 50 rfl rfl (by decide) rfl rfl (by decide) (by omega) (by omega) (fun v36 ev36 => ?_)
            show PV _ _ _ _ _ _ _ 50 [.ref aT, .ref a0, .int x1, .int y3, .int v36] [] _
            refine pv_goto (M := mX8_comesWithout) (tgt := 5) dX8_comesWithout_50 (by decide) ?_
            have kb : y3.toInt = gfd (m (a0 + 1)) (m (aT + 1)) (m aT 1).toInt x1.toInt v36.toInt.toNat := by rw [show v36.toInt.toNat = (y4.toInt).toNat + 1 by omega, gfd_s, ← kg]; first | (rw [if_pos ⟨by omega, by omega, Int32.toInt_inj.mp (by omega)⟩]; omega) | (rw [if_neg (fun q => q.2.1 (by omega))]) | (rw [if_neg (fun q => by have z := congrArg Int32.toInt q.2.2; omega)])
            exact ih11 y3 v36 (by first | omega | assumption | exact (iv_rng _).2 | exact (iv_rng _).1 | decide) (by first | omega | assumption | exact (iv_rng _).2 | exact (iv_rng _).1 | decide) (by first | omega | assumption | exact (iv_rng _).2 | exact (iv_rng _).1 | decide) (by first | omega | assumption | exact (iv_rng _).2 | exact (iv_rng _).1 | decide) (by first | omega | assumption | (show v36.toInt ≤ (m a0 1).toInt; omega) | decide) (by first | omega | assumption | (show y3.toInt ≤ (m aT 1).toInt; omega) | decide) kb (by omega)
          · have c35 := iv_ne (X := y4.toInt) (Y := x1.toInt) c35 rfl rfl
            refine pv_aload_n (M := mX8_comesWithout) 1 dX8_comesWithout_28 29 rfl rfl rfl ?_
            refine mv_get (M := mX8_comesWithout) (v := .ref (a0 + 1)) dX8_comesWithout_29 FX8 0 wd187 (by decide) ha0.1 rfl rfl 32 rfl ?_
            refine pv_iload (M := mX8_comesWithout) dX8_comesWithout_32 34 rfl rfl ?_
            refine iv_iald (M := mX8_comesWithout) (X := y4.toInt) (l1 := (-2147483648)) (l2 := 2147483647) dX8_comesWithout_34 ha0.2.1 rfl (by omega) (by omega) I ha0.2.2.2.1 35 rfl (fun v38 ev38 pv38 qv38 => ?_)
            have k35 : v38.toInt = (m (a0 + 1) y4.toInt.toNat).toInt := congrArg Int32.toInt ev38
            refine pv_aload_n (M := mX8_comesWithout) 0 dX8_comesWithout_35 36 rfl rfl rfl ?_
            refine mv_get (M := mX8_comesWithout) (v := .ref (aT + 1)) dX8_comesWithout_36 FX8 0 wd187 (by decide) haT.1 rfl rfl 39 rfl ?_
            refine pv_iload_n (M := mX8_comesWithout) 3 dX8_comesWithout_39 40 rfl rfl rfl ?_
            refine iv_iald (M := mX8_comesWithout) (X := y3.toInt) (l1 := (-2147483648)) (l2 := 2147483647) dX8_comesWithout_40 haT.2.1 rfl (by omega) (by omega) I haT.2.2.2.1 41 rfl (fun v40 ev40 pv40 qv40 => ?_)
            have k41 : v40.toInt = (m (aT + 1) y3.toInt.toNat).toInt := congrArg Int32.toInt ev40
            refine pv_icmp_ne (M := mX8_comesWithout) (tgt := 47) dX8_comesWithout_41 44 rfl (by decide) (fun c42 => ?_) (fun c42 => ?_)
            · have c42 := iv_ne (X := v38.toInt) (Y := v40.toInt) c42 rfl rfl
              refine iv_inc (M := mX8_comesWithout) (C := 1) dX8_comesWithout_47 50 rfl rfl (by decide) rfl rfl (by decide) (by omega) (by omega) (fun v43 ev43 => ?_)
              show PV _ _ _ _ _ _ _ 50 [.ref aT, .ref a0, .int x1, .int y3, .int v43] [] _
              refine pv_goto (M := mX8_comesWithout) (tgt := 5) dX8_comesWithout_50 (by decide) ?_
              have kb : y3.toInt = gfd (m (a0 + 1)) (m (aT + 1)) (m aT 1).toInt x1.toInt v43.toInt.toNat := by rw [show v43.toInt.toNat = (y4.toInt).toNat + 1 by omega, gfd_s, ← kg]; first | (rw [if_pos ⟨by omega, by omega, Int32.toInt_inj.mp (by omega)⟩]; omega) | (rw [if_neg (fun q => q.2.1 (by omega))]) | (rw [if_neg (fun q => by have z := congrArg Int32.toInt q.2.2; omega)])
              exact ih11 y3 v43 (by first | omega | assumption | exact (iv_rng _).2 | exact (iv_rng _).1 | decide) (by first | omega | assumption | exact (iv_rng _).2 | exact (iv_rng _).1 | decide) (by first | omega | assumption | exact (iv_rng _).2 | exact (iv_rng _).1 | decide) (by first | omega | assumption | exact (iv_rng _).2 | exact (iv_rng _).1 | decide) (by first | omega | assumption | (show v43.toInt ≤ (m a0 1).toInt; omega) | decide) (by first | omega | assumption | (show y3.toInt ≤ (m aT 1).toInt; omega) | decide) kb (by omega)
            · have c42 := iv_eq (X := v38.toInt) (Y := v40.toInt) c42 rfl rfl
              refine iv_inc (M := mX8_comesWithout) (C := 1) dX8_comesWithout_44 47 rfl rfl (by decide) rfl rfl (by decide) (by omega) (by omega) (fun v45 ev45 => ?_)
              show PV _ _ _ _ _ _ _ 47 [.ref aT, .ref a0, .int x1, .int v45, .int y4] [] _
              refine iv_inc (M := mX8_comesWithout) (C := 1) dX8_comesWithout_47 50 rfl rfl (by decide) rfl rfl (by decide) (by omega) (by omega) (fun v46 ev46 => ?_)
              show PV _ _ _ _ _ _ _ 50 [.ref aT, .ref a0, .int x1, .int v45, .int v46] [] _
              refine pv_goto (M := mX8_comesWithout) (tgt := 5) dX8_comesWithout_50 (by decide) ?_
              have kb : v45.toInt = gfd (m (a0 + 1)) (m (aT + 1)) (m aT 1).toInt x1.toInt v46.toInt.toNat := by rw [show v46.toInt.toNat = (y4.toInt).toNat + 1 by omega, gfd_s, ← kg]; first | (rw [if_pos ⟨by omega, by omega, Int32.toInt_inj.mp (by omega)⟩]; omega) | (rw [if_neg (fun q => q.2.1 (by omega))]) | (rw [if_neg (fun q => by have z := congrArg Int32.toInt q.2.2; omega)])
              exact ih11 v45 v46 (by first | omega | assumption | exact (iv_rng _).2 | exact (iv_rng _).1 | decide) (by first | omega | assumption | exact (iv_rng _).2 | exact (iv_rng _).1 | decide) (by first | omega | assumption | exact (iv_rng _).2 | exact (iv_rng _).1 | decide) (by first | omega | assumption | exact (iv_rng _).2 | exact (iv_rng _).1 | decide) (by first | omega | assumption | (show v46.toInt ≤ (m a0 1).toInt; omega) | decide) (by first | omega | assumption | (show v45.toInt ≤ (m aT 1).toInt; omega) | decide) kb (by omega)
  have z48 : (0 : Int32).toInt = 0 := by decide
  have z49 : (0 : Int32).toInt = 0 := by decide
  exact lp10 (((48 - 0) : Int).toNat + 1) 0 0 (by first | omega | assumption | exact (iv_rng _).2 | exact (iv_rng _).1 | decide) (by first | omega | assumption | exact (iv_rng _).2 | exact (iv_rng _).1 | decide) (by first | omega | assumption | exact (iv_rng _).2 | exact (iv_rng _).1 | decide) (by first | omega | assumption | exact (iv_rng _).2 | exact (iv_rng _).1 | decide) (by first | omega | assumption | (show 0 ≤ (m a0 1).toInt; omega) | decide) (by first | omega | assumption | (show 0 ≤ (m aT 1).toInt; omega) | decide) (by rw [Int32.toInt_zero]; rfl) (by omega)

set_option maxHeartbeats 2000000 in
set_option maxRecDepth 20000 in
theorem s_X8_comesFrom_vy (g : pv_G) {T : List mv_T} {m : Nat → Nat → Int32} {n : Nat → Nat → Int64} {r : Nat → Value} (hT : TX T) (I : IV BB m) (aT : Nat) (rmT : Nat) (haT : RowAt T aT rmT) (a0 : Nat) (rm0 : Nat) (ha0 : RowAt T a0 rm0) : PM g mX8_comesFrom yX8_comesFrom (sqP (mk T m n r) 0 1 (fun v => (v.toInt = 1 ∧ COM (m (a0 + 1)) (m (aT + 1)) (m a0 1).toInt (m aT 1).toInt (-1)) ∨ (v.toInt = 0 ∧ ¬ COM (m (a0 + 1)) (m (aT + 1)) (m a0 1).toInt (m aT 1).toInt (-1)))) 2 0 0 [.ref aT, .ref a0] (mk T m n r) := by
  have Kp : fr (wl []) m m := fr.rf
  have zrT := haT.2.2.2.2
  have zr0 := ha0.2.2.2.2
  refine PM.of 0 (lo := [.ref aT, .ref a0]) rfl (by decide) rfl rfl (Nat.le_of_ble_eq_true rfl) ?_
  refine pv_aload_n (M := mX8_comesFrom) 0 dX8_comesFrom_0 1 rfl rfl rfl ?_
  refine pv_aload_n (M := mX8_comesFrom) 1 dX8_comesFrom_1 2 rfl rfl rfl ?_
  refine pv_iconst (M := mX8_comesFrom) (v := (-1)) dX8_comesFrom_2 3 rfl (by decide) ?_
  have z1 : ((-1) : Int32).toInt = (-1) := by decide
  refine pv_callv (M := mX8_comesFrom) (as := [.ref a0, .int (-1)]) (st := []) (kc2 := 0) (ks2 := 0) dX8_comesFrom_3 wd1064 YX8_comesWithout ⟨wd1065, wd1066⟩ (mk_get haT.1) rfl rfl (s_X8_comesWithout_vy g hT I aT rmT haT a0 rm0 ha0 (-1)) rfl rfl (Nat.le_of_ble_eq_true rfl) (by decide) rfl rfl 6 rfl (fun rv h1 q2 => ?_)
  obtain ⟨v3, rfl, rfl, pv3, qv3, rv3⟩ := q2
  replace rv3 : (v3.toInt = 1 ∧ COM (m (a0 + 1)) (m (aT + 1)) (m a0 1).toInt (m aT 1).toInt (-1 : Int)) ∨ (v3.toInt = 0 ∧ ¬ COM (m (a0 + 1)) (m (aT + 1)) (m a0 1).toInt (m aT 1).toInt (-1 : Int)) := by have q_ := rv3; (try rw [z1] at q_); exact q_
  show PV _ _ _ _ _ _ _ 6 [.ref aT, .ref a0] [.int v3] _
  exact pv_iret (M := mX8_comesFrom) dX8_comesFrom_6 rfl (iv_nz (by omega) (by omega)) ⟨_, rfl, rfl, by omega, by omega, rv3⟩

set_option maxHeartbeats 2000000 in
set_option maxRecDepth 20000 in
theorem s_X12_comesWithout_vy (g : pv_G) {T : List mv_T} {m : Nat → Nat → Int32} {n : Nat → Nat → Int64} {r : Nat → Value} (hT : TX T) (I : IV BB m) (x0 : Int32) : PM g mX12_comesWithout yX12_comesWithout (sqP (mk T m n r) 0 1 (fun v => (v.toInt = 1 ∧ COM (m 149) (m 150) (m 123 40).toInt (m 123 41).toInt x0.toInt) ∨ (v.toInt = 0 ∧ ¬ COM (m 149) (m 150) (m 123 40).toInt (m 123 41).toInt x0.toInt))) 1 0 0 [.ref 123, .int x0] (mk T m n r) := by
  have Kp : fr (wl []) m m := fr.rf
  have z48 : 0 ≤ (m 123 40).toInt ∧ (m 123 40).toInt ≤ 40 := I 123 40
  have z49 : 0 ≤ (m 123 41).toInt ∧ (m 123 41).toInt ≤ 16 := I 123 41
  refine PM.of 2 (lo := [.ref 123, .int x0, pv_U, pv_U]) rfl (by decide) rfl rfl (Nat.le_of_ble_eq_true rfl) ?_
  refine pv_iconst (M := mX12_comesWithout) (v := 0) dX12_comesWithout_0 1 rfl (by decide) ?_
  refine pv_istore_n (M := mX12_comesWithout) 2 (lo2 := [.ref 123, .int x0, .int 0, pv_U]) dX12_comesWithout_1 2 rfl rfl (by decide) rfl rfl ?_
  refine pv_iconst (M := mX12_comesWithout) (v := 0) dX12_comesWithout_2 3 rfl (by decide) ?_
  refine pv_istore_n (M := mX12_comesWithout) 3 (lo2 := [.ref 123, .int x0, .int 0, .int 0]) dX12_comesWithout_3 4 rfl rfl (by decide) rfl rfl ?_
  have lp8 : ∀ (fuel7 : Nat) (y1 : Int32) (y2 : Int32), (0 ≤ y1.toInt) → (y1.toInt ≤ 16) → (0 ≤ y2.toInt) → (y2.toInt ≤ 40) → (y2.toInt ≤ (m 123 40).toInt) → (y1.toInt ≤ (m 123 41).toInt) → (y1.toInt = gfd (m 149) (m 150) (m 123 41).toInt x0.toInt y2.toInt.toNat) → ((40 - y2.toInt) : Int).toNat < fuel7 → PV none g mX12_comesWithout (sqP (mk T m n r) 0 1 (fun v => (v.toInt = 1 ∧ COM (m 149) (m 150) (m 123 40).toInt (m 123 41).toInt x0.toInt) ∨ (v.toInt = 0 ∧ ¬ COM (m 149) (m 150) (m 123 40).toInt (m 123 41).toInt x0.toInt))) 1 0 0 4 [.ref 123, .int x0, .int y1, .int y2] [] (mk T m n r) := by
    intro fuel7
    induction fuel7 with
    | zero => intro y1 y2 b10 b11 b12 b13 b14 b15 b16 z17; omega
    | succ fuel7 ih9 =>
      intro y1 y2 b10 b11 b12 b13 b14 b15 b16 z17
      have kg := (show y1.toInt = gfd (m 149) (m 150) (m 123 41).toInt x0.toInt y2.toInt.toNat by assumption)
      refine pv_iload_n (M := mX12_comesWithout) 3 dX12_comesWithout_4 5 rfl rfl rfl ?_
      refine pv_aload_n (M := mX12_comesWithout) 0 dX12_comesWithout_5 6 rfl rfl rfl ?_
      refine iv_get (M := mX12_comesWithout) (l1 := 0) (l2 := 40) dX12_comesWithout_6 FX12 40 wd1213 (by decide) (tl123 hT) rfl I rfl 9 rfl (fun v19 ev19 pv19 qv19 => ?_)
      have wv19 : v19.toInt = (m 123 40).toInt := congrArg Int32.toInt ev19
      refine pv_icmp_ge (M := mX12_comesWithout) (tgt := 50) dX12_comesWithout_9 12 rfl (by decide) (fun c20 => ?_) (fun c20 => ?_)
      · have c20 := iv_le (X := v19.toInt) (Y := y2.toInt) c20 rfl rfl
        have kE := COM_end (f := m 149) (g := m 150) (n0 := (m 123 40).toInt) (n1 := (m 123 41).toInt) (out := x0.toInt) (k := y2.toInt.toNat) (by omega) (by rw [← kg]; omega) (by omega)
        refine pv_iload_n (M := mX12_comesWithout) 2 dX12_comesWithout_50 51 rfl rfl rfl ?_
        refine pv_aload_n (M := mX12_comesWithout) 0 dX12_comesWithout_51 52 rfl rfl rfl ?_
        refine iv_get (M := mX12_comesWithout) (l1 := 0) (l2 := 16) dX12_comesWithout_52 FX12 41 wd1214 (by decide) (tl123 hT) rfl I rfl 55 rfl (fun v22 ev22 pv22 qv22 => ?_)
        have wv22 : v22.toInt = (m 123 41).toInt := congrArg Int32.toInt ev22
        refine pv_icmp_ne (M := mX12_comesWithout) (tgt := 62) dX12_comesWithout_55 58 rfl (by decide) (fun c23 => ?_) (fun c23 => ?_)
        · have c23 := iv_ne (X := y1.toInt) (Y := v22.toInt) c23 rfl rfl
          refine pv_iconst (M := mX12_comesWithout) (v := 0) dX12_comesWithout_62 63 rfl (by decide) ?_
          have z24 : (0 : Int32).toInt = 0 := by decide
          exact pv_iret (M := mX12_comesWithout) dX12_comesWithout_63 rfl rfl ⟨_, rfl, rfl, by decide, by decide, (Or.inr ⟨by decide, fun q => by have z := kE.mpr q; rw [← kg] at z; omega⟩)⟩
        · have c23 := iv_eq (X := y1.toInt) (Y := v22.toInt) c23 rfl rfl
          refine pv_iconst (M := mX12_comesWithout) (v := 1) dX12_comesWithout_58 59 rfl (by decide) ?_
          refine pv_goto (M := mX12_comesWithout) (tgt := 63) dX12_comesWithout_59 (by decide) ?_
          have z25 : (1 : Int32).toInt = 1 := by decide
          exact pv_iret (M := mX12_comesWithout) dX12_comesWithout_63 rfl rfl ⟨_, rfl, rfl, by decide, by decide, (Or.inl ⟨by decide, kE.mp (by rw [← kg]; omega)⟩)⟩
      · have c20 := iv_nle (X := v19.toInt) (Y := y2.toInt) c20 rfl rfl
        refine pv_iload_n (M := mX12_comesWithout) 2 dX12_comesWithout_12 13 rfl rfl rfl ?_
        refine pv_aload_n (M := mX12_comesWithout) 0 dX12_comesWithout_13 14 rfl rfl rfl ?_
        refine iv_get (M := mX12_comesWithout) (l1 := 0) (l2 := 16) dX12_comesWithout_14 FX12 41 wd1214 (by decide) (tl123 hT) rfl I rfl 17 rfl (fun v26 ev26 pv26 qv26 => ?_)
        have wv26 : v26.toInt = (m 123 41).toInt := congrArg Int32.toInt ev26
        refine pv_icmp_ge (M := mX12_comesWithout) (tgt := 50) dX12_comesWithout_17 20 rfl (by decide) (fun c27 => ?_) (fun c27 => ?_)
        · have c27 := iv_le (X := v26.toInt) (Y := y1.toInt) c27 rfl rfl
          have kE := COM_end (f := m 149) (g := m 150) (n0 := (m 123 40).toInt) (n1 := (m 123 41).toInt) (out := x0.toInt) (k := y2.toInt.toNat) (by omega) (by rw [← kg]; omega) (by omega)
          refine pv_iload_n (M := mX12_comesWithout) 2 dX12_comesWithout_50 51 rfl rfl rfl ?_
          refine pv_aload_n (M := mX12_comesWithout) 0 dX12_comesWithout_51 52 rfl rfl rfl ?_
          refine iv_get (M := mX12_comesWithout) (l1 := 0) (l2 := 16) dX12_comesWithout_52 FX12 41 wd1214 (by decide) (tl123 hT) rfl I rfl 55 rfl (fun v29 ev29 pv29 qv29 => ?_)
          have wv29 : v29.toInt = (m 123 41).toInt := congrArg Int32.toInt ev29
          refine pv_icmp_ne (M := mX12_comesWithout) (tgt := 62) dX12_comesWithout_55 58 rfl (by decide) (fun c30 => ?_) (fun c30 => ?_)
          · have c30 := iv_ne (X := y1.toInt) (Y := v29.toInt) c30 rfl rfl
            refine pv_iconst (M := mX12_comesWithout) (v := 0) dX12_comesWithout_62 63 rfl (by decide) ?_
            have z31 : (0 : Int32).toInt = 0 := by decide
            exact pv_iret (M := mX12_comesWithout) dX12_comesWithout_63 rfl rfl ⟨_, rfl, rfl, by decide, by decide, (Or.inr ⟨by decide, fun q => by have z := kE.mpr q; rw [← kg] at z; omega⟩)⟩
          · have c30 := iv_eq (X := y1.toInt) (Y := v29.toInt) c30 rfl rfl
            refine pv_iconst (M := mX12_comesWithout) (v := 1) dX12_comesWithout_58 59 rfl (by decide) ?_
            refine pv_goto (M := mX12_comesWithout) (tgt := 63) dX12_comesWithout_59 (by decide) ?_
            have z32 : (1 : Int32).toInt = 1 := by decide
            exact pv_iret (M := mX12_comesWithout) dX12_comesWithout_63 rfl rfl ⟨_, rfl, rfl, by decide, by decide, (Or.inl ⟨by decide, kE.mp (by rw [← kg]; omega)⟩)⟩
        · have c27 := iv_nle (X := v26.toInt) (Y := y1.toInt) c27 rfl rfl
          refine pv_iload_n (M := mX12_comesWithout) 3 dX12_comesWithout_20 21 rfl rfl rfl ?_
          refine pv_iload_n (M := mX12_comesWithout) 1 dX12_comesWithout_21 22 rfl rfl rfl ?_
          refine pv_icmp_eq (M := mX12_comesWithout) (tgt := 44) dX12_comesWithout_22 25 rfl (by decide) (fun c33 => ?_) (fun c33 => ?_)
          · have c33 := iv_eq (X := y2.toInt) (Y := x0.toInt) c33 rfl rfl
            refine iv_inc (M := mX12_comesWithout) (C := 1) dX12_comesWithout_44 47 rfl rfl (by decide) rfl rfl (by decide) (by omega) (by omega) (fun v34 ev34 => ?_)
            show PV _ _ _ _ _ _ _ 47 [.ref 123, .int x0, .int y1, .int v34] [] _
            refine pv_goto (M := mX12_comesWithout) (tgt := 4) dX12_comesWithout_47 (by decide) ?_
            have kb : y1.toInt = gfd (m 149) (m 150) (m 123 41).toInt x0.toInt v34.toInt.toNat := by rw [show v34.toInt.toNat = (y2.toInt).toNat + 1 by omega, gfd_s, ← kg]; first | (rw [if_pos ⟨by omega, by omega, Int32.toInt_inj.mp (by omega)⟩]; omega) | (rw [if_neg (fun q => q.2.1 (by omega))]) | (rw [if_neg (fun q => by have z := congrArg Int32.toInt q.2.2; omega)])
            exact ih9 y1 v34 (by first | omega | assumption | exact (iv_rng _).2 | exact (iv_rng _).1 | decide) (by first | omega | assumption | exact (iv_rng _).2 | exact (iv_rng _).1 | decide) (by first | omega | assumption | exact (iv_rng _).2 | exact (iv_rng _).1 | decide) (by first | omega | assumption | exact (iv_rng _).2 | exact (iv_rng _).1 | decide) (by first | omega | assumption | (show v34.toInt ≤ (m 123 40).toInt; omega) | decide) (by first | omega | assumption | (show y1.toInt ≤ (m 123 41).toInt; omega) | decide) kb (by omega)
          · have c33 := iv_ne (X := y2.toInt) (Y := x0.toInt) c33 rfl rfl
            refine pv_aload_n (M := mX12_comesWithout) 0 dX12_comesWithout_25 26 rfl rfl rfl ?_
            refine mv_get (M := mX12_comesWithout) (v := .ref 149) dX12_comesWithout_26 FX12 42 wd1215 (by decide) (tl123 hT) rfl rfl 29 rfl ?_
            refine pv_iload_n (M := mX12_comesWithout) 3 dX12_comesWithout_29 30 rfl rfl rfl ?_
            refine iv_iald (M := mX12_comesWithout) (X := y2.toInt) (l1 := 0) (l2 := 25) dX12_comesWithout_30 (tl149 hT) rfl (by omega) (by omega) I (fun _ => rfl) 31 rfl (fun v36 ev36 pv36 qv36 => ?_)
            have k31 : v36.toInt = (m 149 y2.toInt.toNat).toInt := congrArg Int32.toInt ev36
            refine pv_aload_n (M := mX12_comesWithout) 0 dX12_comesWithout_31 32 rfl rfl rfl ?_
            refine mv_get (M := mX12_comesWithout) (v := .ref 150) dX12_comesWithout_32 FX12 43 wd1216 (by decide) (tl123 hT) rfl rfl 35 rfl ?_
            refine pv_iload_n (M := mX12_comesWithout) 2 dX12_comesWithout_35 36 rfl rfl rfl ?_
            refine iv_iald (M := mX12_comesWithout) (X := y1.toInt) (l1 := 0) (l2 := 25) dX12_comesWithout_36 (tl150 hT) rfl (by omega) (by omega) I (fun _ => rfl) 37 rfl (fun v38 ev38 pv38 qv38 => ?_)
            have k37 : v38.toInt = (m 150 y1.toInt.toNat).toInt := congrArg Int32.toInt ev38
            refine pv_icmp_ne (M := mX12_comesWithout) (tgt := 44) dX12_comesWithout_37 40 rfl (by decide) (fun c40 => ?_) (fun c40 => ?_)
            · have c40 := iv_ne (X := v36.toInt) (Y := v38.toInt) c40 rfl rfl
              refine iv_inc (M := mX12_comesWithout) (C := 1) dX12_comesWithout_44 47 rfl rfl (by decide) rfl rfl (by decide) (by omega) (by omega) (fun v41 ev41 => ?_)
              show PV _ _ _ _ _ _ _ 47 [.ref 123, .int x0, .int y1, .int v41] [] _
              refine pv_goto (M := mX12_comesWithout) (tgt := 4) dX12_comesWithout_47 (by decide) ?_
              have kb : y1.toInt = gfd (m 149) (m 150) (m 123 41).toInt x0.toInt v41.toInt.toNat := by rw [show v41.toInt.toNat = (y2.toInt).toNat + 1 by omega, gfd_s, ← kg]; first | (rw [if_pos ⟨by omega, by omega, Int32.toInt_inj.mp (by omega)⟩]; omega) | (rw [if_neg (fun q => q.2.1 (by omega))]) | (rw [if_neg (fun q => by have z := congrArg Int32.toInt q.2.2; omega)])
              exact ih9 y1 v41 (by first | omega | assumption | exact (iv_rng _).2 | exact (iv_rng _).1 | decide) (by first | omega | assumption | exact (iv_rng _).2 | exact (iv_rng _).1 | decide) (by first | omega | assumption | exact (iv_rng _).2 | exact (iv_rng _).1 | decide) (by first | omega | assumption | exact (iv_rng _).2 | exact (iv_rng _).1 | decide) (by first | omega | assumption | (show v41.toInt ≤ (m 123 40).toInt; omega) | decide) (by first | omega | assumption | (show y1.toInt ≤ (m 123 41).toInt; omega) | decide) kb (by omega)
            · have c40 := iv_eq (X := v36.toInt) (Y := v38.toInt) c40 rfl rfl
              refine pv_iload_n (M := mX12_comesWithout) 2 dX12_comesWithout_40 41 rfl rfl rfl ?_
              refine pv_iconst (M := mX12_comesWithout) (v := 1) dX12_comesWithout_41 42 rfl (by decide) ?_
              refine iv_iadd (M := mX12_comesWithout) (X := y1.toInt) (Y := 1) dX12_comesWithout_42 43 rfl rfl (by decide) (by omega) (by omega) (fun v43 ev43 => ?_)
              refine pv_istore_n (M := mX12_comesWithout) 2 (lo2 := [.ref 123, .int x0, .int v43, .int y2]) dX12_comesWithout_43 44 rfl rfl (by decide) rfl rfl ?_
              refine iv_inc (M := mX12_comesWithout) (C := 1) dX12_comesWithout_44 47 rfl rfl (by decide) rfl rfl (by decide) (by omega) (by omega) (fun v44 ev44 => ?_)
              show PV _ _ _ _ _ _ _ 47 [.ref 123, .int x0, .int v43, .int v44] [] _
              refine pv_goto (M := mX12_comesWithout) (tgt := 4) dX12_comesWithout_47 (by decide) ?_
              have kb : v43.toInt = gfd (m 149) (m 150) (m 123 41).toInt x0.toInt v44.toInt.toNat := by rw [show v44.toInt.toNat = (y2.toInt).toNat + 1 by omega, gfd_s, ← kg]; first | (rw [if_pos ⟨by omega, by omega, Int32.toInt_inj.mp (by omega)⟩]; omega) | (rw [if_neg (fun q => q.2.1 (by omega))]) | (rw [if_neg (fun q => by have z := congrArg Int32.toInt q.2.2; omega)])
              exact ih9 v43 v44 (by first | omega | assumption | exact (iv_rng _).2 | exact (iv_rng _).1 | decide) (by first | omega | assumption | exact (iv_rng _).2 | exact (iv_rng _).1 | decide) (by first | omega | assumption | exact (iv_rng _).2 | exact (iv_rng _).1 | decide) (by first | omega | assumption | exact (iv_rng _).2 | exact (iv_rng _).1 | decide) (by first | omega | assumption | (show v44.toInt ≤ (m 123 40).toInt; omega) | decide) (by first | omega | assumption | (show v43.toInt ≤ (m 123 41).toInt; omega) | decide) kb (by omega)
  have z46 : (0 : Int32).toInt = 0 := by decide
  have z47 : (0 : Int32).toInt = 0 := by decide
  exact lp8 (((40 - 0) : Int).toNat + 1) 0 0 (by first | omega | assumption | exact (iv_rng _).2 | exact (iv_rng _).1 | decide) (by first | omega | assumption | exact (iv_rng _).2 | exact (iv_rng _).1 | decide) (by first | omega | assumption | exact (iv_rng _).2 | exact (iv_rng _).1 | decide) (by first | omega | assumption | exact (iv_rng _).2 | exact (iv_rng _).1 | decide) (by first | omega | assumption | (show 0 ≤ (m 123 40).toInt; omega) | decide) (by first | omega | assumption | (show 0 ≤ (m 123 41).toInt; omega) | decide) (by rw [Int32.toInt_zero]; rfl) (by omega)

set_option maxHeartbeats 2000000 in
set_option maxRecDepth 20000 in
theorem s_X12_laysDeed_vy (g : pv_G) {T : List mv_T} {m : Nat → Nat → Int32} {n : Nat → Nat → Int64} {r : Nat → Value} (hT : TX T) (I : IV BB m) (x0 : Int32) (hl0 : 0 ≤ x0.toInt) (hh0 : x0.toInt ≤ 7) : PM g mX12_laysDeed yX12_laysDeed (sqV T BB (wl [(123, 123, some 41), (150, 150, none)]) r m (fun m' => (m' 123 41).toInt = (m 126 x0.toInt.toNat).toInt ∧ ∀ k : Nat, (k : Int) < (m 126 x0.toInt.toNat).toInt → m' 150 k = m 127 (16 * x0.toInt.toNat + k))) 1 0 0 [.ref 123, .int x0] (mk T m n r) := by
  have Kp : fr (wl [(123, 123, some 41), (150, 150, none)]) m m := fr.rf
  have z38 : 0 ≤ (m 123 41).toInt ∧ (m 123 41).toInt ≤ 16 := I 123 41
  refine PM.of 1 (lo := [.ref 123, .int x0, pv_U]) rfl (by decide) rfl rfl (Nat.le_of_ble_eq_true rfl) ?_
  refine pv_aload_n (M := mX12_laysDeed) 0 dX12_laysDeed_0 1 rfl rfl rfl ?_
  refine pv_aload_n (M := mX12_laysDeed) 0 dX12_laysDeed_1 2 rfl rfl rfl ?_
  refine mv_get (M := mX12_laysDeed) (v := .ref 126) dX12_laysDeed_2 FX12 7 wd1180 (by decide) (tl123 hT) rfl rfl 5 rfl ?_
  refine pv_iload_n (M := mX12_laysDeed) 1 dX12_laysDeed_5 6 rfl rfl rfl ?_
  refine iv_iald (M := mX12_laysDeed) (X := x0.toInt) (l1 := 0) (l2 := 16) dX12_laysDeed_6 (tl126 hT) rfl (by omega) (by omega) I (fun _ => rfl) 7 rfl (fun v1 ev1 pv1 qv1 => ?_)
  have k7 : v1.toInt = (m 126 x0.toInt.toNat).toInt := congrArg Int32.toInt ev1
  refine iv_put (M := mX12_laysDeed) (l1 := 0) (l2 := 16) dX12_laysDeed_7 FX12 41 wd1214 (by decide) rfl (tl123 hT) rfl rfl rfl I rfl (by omega) (by omega) 10 rfl (fun m3 e6 I4 => ?_)
  have K5 := Kp.set e6 rfl
  have w7 : (m3 123 41).toInt = v1.toInt := by rw [e6, up2_eq]
  refine pv_iconst (M := mX12_laysDeed) (v := 0) dX12_laysDeed_10 11 rfl (by decide) ?_
  refine pv_istore_n (M := mX12_laysDeed) 2 (lo2 := [.ref 123, .int x0, .int 0]) dX12_laysDeed_11 12 rfl rfl (by decide) rfl rfl ?_
  have lp14 : ∀ (fuel13 : Nat) (y8 : Int32) (m9 : Nat → Nat → Int32) (n10 : Nat → Nat → Int64), (0 ≤ y8.toInt) → (y8.toInt ≤ 16) → ((m9 123 41).toInt = (m 126 x0.toInt.toNat).toInt) → (∀ k : Nat, (k : Int) < y8.toInt → m9 150 k = m 127 (16 * x0.toInt.toNat + k)) → IV BB m9 → fr (wl [(123, 123, some 41), (150, 150, none)]) m m9 → ((16 - y8.toInt) : Int).toNat < fuel13 → PV none g mX12_laysDeed (sqV T BB (wl [(123, 123, some 41), (150, 150, none)]) r m (fun m' => (m' 123 41).toInt = (m 126 x0.toInt.toNat).toInt ∧ ∀ k : Nat, (k : Int) < (m 126 x0.toInt.toNat).toInt → m' 150 k = m 127 (16 * x0.toInt.toNat + k))) 1 0 0 12 [.ref 123, .int x0, .int y8] [] (mk T m9 n10 r) := by
    intro fuel13
    induction fuel13 with
    | zero => intro y8 m9 n10 b16 b17 b18 b19 I11 K12 z20; omega
    | succ fuel13 ih15 =>
      intro y8 m9 n10 b16 b17 b18 b19 I11 K12 z20
      have z21 : 0 ≤ (m9 123 41).toInt ∧ (m9 123 41).toInt ≤ 16 := I11 123 41
      have kg := (show ∀ k : Nat, (k : Int) < y8.toInt → m9 150 k = m 127 (16 * x0.toInt.toNat + k) by assumption)
      refine pv_iload_n (M := mX12_laysDeed) 2 dX12_laysDeed_12 13 rfl rfl rfl ?_
      refine pv_aload_n (M := mX12_laysDeed) 0 dX12_laysDeed_13 14 rfl rfl rfl ?_
      refine iv_get (M := mX12_laysDeed) (l1 := 0) (l2 := 16) dX12_laysDeed_14 FX12 41 wd1214 (by decide) (tl123 hT) rfl I11 rfl 17 rfl (fun v23 ev23 pv23 qv23 => ?_)
      have wv23 : v23.toInt = (m9 123 41).toInt := congrArg Int32.toInt ev23
      refine pv_icmp_ge (M := mX12_laysDeed) (tgt := 43) dX12_laysDeed_17 20 rfl (by decide) (fun c24 => ?_) (fun c24 => ?_)
      · have c24 := iv_le (X := v23.toInt) (Y := y8.toInt) c24 rfl rfl
        exact pv_vret (M := mX12_laysDeed) dX12_laysDeed_43 rfl ⟨_, _, rfl, rfl, I11, K12, ⟨by omega, fun k q => kg k (by omega)⟩⟩
      · have c24 := iv_nle (X := v23.toInt) (Y := y8.toInt) c24 rfl rfl
        refine pv_aload_n (M := mX12_laysDeed) 0 dX12_laysDeed_20 21 rfl rfl rfl ?_
        refine mv_get (M := mX12_laysDeed) (v := .ref 150) dX12_laysDeed_21 FX12 43 wd1216 (by decide) (tl123 hT) rfl rfl 24 rfl ?_
        refine pv_iload_n (M := mX12_laysDeed) 2 dX12_laysDeed_24 25 rfl rfl rfl ?_
        refine pv_aload_n (M := mX12_laysDeed) 0 dX12_laysDeed_25 26 rfl rfl rfl ?_
        refine mv_get (M := mX12_laysDeed) (v := .ref 127) dX12_laysDeed_26 FX12 8 wd1181 (by decide) (tl123 hT) rfl rfl 29 rfl ?_
        refine pv_bipush (M := mX12_laysDeed) (v := 16) dX12_laysDeed_29 31 rfl (by decide) ?_
        refine pv_iload_n (M := mX12_laysDeed) 1 dX12_laysDeed_31 32 rfl rfl rfl ?_
        refine iv_imul (M := mX12_laysDeed) (X := 16) (Y := x0.toInt) dX12_laysDeed_32 33 rfl (by decide) rfl (by omega) (by omega) (fun v25 ev25 => ?_)
        refine pv_iload_n (M := mX12_laysDeed) 2 dX12_laysDeed_33 34 rfl rfl rfl ?_
        refine iv_iadd (M := mX12_laysDeed) (X := v25.toInt) (Y := y8.toInt) dX12_laysDeed_34 35 rfl rfl rfl (by omega) (by omega) (fun v26 ev26 => ?_)
        refine iv_iald (M := mX12_laysDeed) (X := v26.toInt) (l1 := 0) (l2 := 25) dX12_laysDeed_35 (tl127 hT) rfl (by omega) (by omega) I11 (fun _ => rfl) 36 rfl (fun v27 ev27 pv27 qv27 => ?_)
        have k36 : v27 = m 127 (16 * x0.toInt.toNat + y8.toInt.toNat) := ev27.trans ((K12 127 _ rfl).trans (congrArg (m 127) (by omega)))
        refine iv_iast (M := mX12_laysDeed) (X := y8.toInt) (l1 := 0) (l2 := 25) dX12_laysDeed_36 (tl150 hT) rfl (by omega) (by omega) I11 (fun _ => rfl) (by omega) (by omega) 37 rfl (fun m29 e32 I30 => ?_)
        have K31 := K12.set e32 rfl
        have w33 : (m29 123 41).toInt = (m9 123 41).toInt := by rw [e32, up2_ne (by omega)]
        have k37 := (e32).trans (up2_ix (j := y8.toInt.toNat) (by omega))
        refine iv_inc (M := mX12_laysDeed) (C := 1) dX12_laysDeed_37 40 rfl rfl (by decide) rfl rfl (by decide) (by omega) (by omega) (fun v35 ev35 => ?_)
        show PV _ _ _ _ _ _ _ 40 [.ref 123, .int x0, .int v35] [] _
        refine pv_goto (M := mX12_laysDeed) (tgt := 12) dX12_laysDeed_40 (by decide) ?_
        have kb : ∀ k : Nat, (k : Int) < v35.toInt → m29 150 k = m 127 (16 * x0.toInt.toNat + k) := fun k q => if z : (k : Int) = y8.toInt then (by rw [k37, show k = (y8.toInt).toNat by omega, up2_eq]; exact k36) else (by rw [k37, up2_ne (by omega)]; exact kg k (by omega))
        exact ih15 v35 m29 n10 (by first | omega | assumption | exact (iv_rng _).2 | exact (iv_rng _).1 | decide) (by first | omega | assumption | exact (iv_rng _).2 | exact (iv_rng _).1 | decide) (by first | omega | assumption | (show (m29 123 41).toInt = (m 126 x0.toInt.toNat).toInt; omega) | decide) kb I30 K31 (by omega)
  have z37 : (0 : Int32).toInt = 0 := by decide
  exact lp14 (((16 - 0) : Int).toNat + 1) 0 m3 n (by first | omega | assumption | exact (iv_rng _).2 | exact (iv_rng _).1 | decide) (by first | omega | assumption | exact (iv_rng _).2 | exact (iv_rng _).1 | decide) (by first | omega | assumption | (show (m3 123 41).toInt = (m 126 x0.toInt.toNat).toInt; omega) | decide) (fun k q => by rw [Int32.toInt_zero] at q; omega) I4 K5 (by omega)
