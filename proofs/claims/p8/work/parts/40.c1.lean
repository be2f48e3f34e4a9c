set_option maxHeartbeats 2000000 in
set_option maxRecDepth 20000 in
theorem s_X8_at (g : pv_G) {T : List mv_T} {m : Nat → Nat → Int32} {n : Nat → Nat → Int64} {r : Nat → Value} (hT : TX T) (I : IV BB m) (aT : Nat) (rmT : Nat) (haT : RowAt T aT rmT) (x0 : Int32) : PM g mX8_at yX8_at (sqP (mk T m n r) (-2147483648) 2147483647 (fun v => v.toInt = atv m aT x0.toInt)) 1 0 0 [.ref aT, .int x0] (mk T m n r) := by
  have Kp : fr (wl []) m m := fr.rf
  have zrT := haT.2.2.2.2
  refine PM.of 0 (lo := [.ref aT, .int x0]) rfl (by decide) rfl rfl (Nat.le_of_ble_eq_true rfl) ?_
  refine pv_iload_n (M := mX8_at) 1 dX8_at_0 1 rfl rfl rfl ?_
  refine pv_if_lt (M := mX8_at) (tgt := 21) dX8_at_1 4 rfl (by decide) (fun c1 => ?_) (fun c1 => ?_)
  · have c1 := iv_lt (X := x0.toInt) (Y := 0) c1 rfl (by decide)
    refine pv_iconst (M := mX8_at) (v := (-1)) dX8_at_21 22 rfl (by decide) ?_
    have z2 : ((-1) : Int32).toInt = (-1) := by decide
    exact pv_iret (M := mX8_at) dX8_at_22 rfl rfl ⟨_, rfl, rfl, by decide, by decide, (by unfold atv; rw [if_neg (by omega)]; decide)⟩
  · have c1 := iv_nlt (X := x0.toInt) (Y := 0) c1 rfl (by decide)
    refine pv_iload_n (M := mX8_at) 1 dX8_at_4 5 rfl rfl rfl ?_
    refine pv_aload_n (M := mX8_at) 0 dX8_at_5 6 rfl rfl rfl ?_
    refine iv_get (M := mX8_at) (l1 := 0) (l2 := (rmT : Int)) dX8_at_6 FX8 1 wd193 (by decide) haT.1 rfl I haT.2.2.1 9 rfl (fun v3 ev3 pv3 qv3 => ?_)
    have wv3 : v3.toInt = (m aT 1).toInt := congrArg Int32.toInt ev3
    refine pv_icmp_ge (M := mX8_at) (tgt := 21) dX8_at_9 12 rfl (by decide) (fun c4 => ?_) (fun c4 => ?_)
    · have c4 := iv_le (X := v3.toInt) (Y := x0.toInt) c4 rfl rfl
      refine pv_iconst (M := mX8_at) (v := (-1)) dX8_at_21 22 rfl (by decide) ?_
      have z5 : ((-1) : Int32).toInt = (-1) := by decide
      exact pv_iret (M := mX8_at) dX8_at_22 rfl rfl ⟨_, rfl, rfl, by decide, by decide, (by unfold atv; rw [if_neg (by omega)]; decide)⟩
    · have c4 := iv_nle (X := v3.toInt) (Y := x0.toInt) c4 rfl rfl
      refine pv_aload_n (M := mX8_at) 0 dX8_at_12 13 rfl rfl rfl ?_
      refine mv_get (M := mX8_at) (v := .ref (aT + 1)) dX8_at_13 FX8 0 wd187 (by decide) haT.1 rfl rfl 16 rfl ?_
      refine pv_iload_n (M := mX8_at) 1 dX8_at_16 17 rfl rfl rfl ?_
      refine iv_iald (M := mX8_at) (X := x0.toInt) (l1 := (-2147483648)) (l2 := 2147483647) dX8_at_17 haT.2.1 rfl (by omega) (by omega) I haT.2.2.2.1 18 rfl (fun v6 ev6 pv6 qv6 => ?_)
      refine pv_goto (M := mX8_at) (tgt := 22) dX8_at_18 (by decide) ?_
      exact pv_iret (M := mX8_at) dX8_at_22 rfl rfl ⟨_, rfl, rfl, (iv_rng v6).1, (iv_rng v6).2, (by unfold atv; rw [if_pos (by omega)]; exact congrArg Int32.toInt ev6)⟩

set_option maxHeartbeats 2000000 in
set_option maxRecDepth 20000 in
theorem s_X8_add (g : pv_G) {T : List mv_T} {m : Nat → Nat → Int32} {n : Nat → Nat → Int64} {r : Nat → Value} (hT : TX T) (I : IV BB m) (aT : Nat) (rmT : Nat) (haT : RowAt T aT rmT) (x0 : Int32) : PM g mX8_add yX8_add (sqV T BB (wl [(aT, (aT + 1), none)]) r m (fun m' => (m aT 1).toInt ≤ (m' aT 1).toInt ∧ (m' aT 1).toInt ≤ (m aT 1).toInt + 1)) 1 0 0 [.ref aT, .int x0] (mk T m n r) := by
  have Kp : fr (wl [(aT, (aT + 1), none)]) m m := fr.rf
  have zrT := haT.2.2.2.2
  refine PM.of 0 (lo := [.ref aT, .int x0]) rfl (by decide) rfl rfl (Nat.le_of_ble_eq_true rfl) ?_
  refine pv_aload_n (M := mX8_add) 0 dX8_add_0 1 rfl rfl rfl ?_
  refine iv_get (M := mX8_add) (l1 := 0) (l2 := (rmT : Int)) dX8_add_1 FX8 1 wd193 (by decide) haT.1 rfl I haT.2.2.1 4 rfl (fun v1 ev1 pv1 qv1 => ?_)
  have wv1 : v1.toInt = (m aT 1).toInt := congrArg Int32.toInt ev1
  refine pv_aload_n (M := mX8_add) 0 dX8_add_4 5 rfl rfl rfl ?_
  refine mv_get (M := mX8_add) (v := .ref (aT + 1)) dX8_add_5 FX8 0 wd187 (by decide) haT.1 rfl rfl 8 rfl ?_
  refine iv_alen0 (M := mX8_add) dX8_add_8 haT.2.1 (by omega) 9 rfl (fun v2 ev2 => ?_)
  refine pv_icmp_ge (M := mX8_add) (tgt := 32) dX8_add_9 12 rfl (by decide) (fun c3 => ?_) (fun c3 => ?_)
  · have c3 := iv_le (X := v2.toInt) (Y := v1.toInt) c3 rfl rfl
    exact pv_vret (M := mX8_add) dX8_add_32 rfl ⟨_, _, rfl, rfl, I, Kp, (by constructor <;> omega)⟩
  · have c3 := iv_nle (X := v2.toInt) (Y := v1.toInt) c3 rfl rfl
    refine pv_aload_n (M := mX8_add) 0 dX8_add_12 13 rfl rfl rfl ?_
    refine mv_get (M := mX8_add) (v := .ref (aT + 1)) dX8_add_13 FX8 0 wd187 (by decide) haT.1 rfl rfl 16 rfl ?_
    refine pv_aload_n (M := mX8_add) 0 dX8_add_16 17 rfl rfl rfl ?_
    refine iv_get (M := mX8_add) (l1 := 0) (l2 := (rmT : Int)) dX8_add_17 FX8 1 wd193 (by decide) haT.1 rfl I haT.2.2.1 20 rfl (fun v4 ev4 pv4 qv4 => ?_)
    have wv4 : v4.toInt = (m aT 1).toInt := congrArg Int32.toInt ev4
    refine pv_iload_n (M := mX8_add) 1 dX8_add_20 21 rfl rfl rfl ?_
    refine iv_iast (M := mX8_add) (X := v4.toInt) (l1 := (-2147483648)) (l2 := 2147483647) dX8_add_21 haT.2.1 rfl (by omega) (by omega) I haT.2.2.2.1 (iv_rng x0).1 (iv_rng x0).2 22 rfl (fun m5 e8 I6 => ?_)
    have K7 := Kp.set e8 (wl_r (by omega) (by omega))
    have w9 : (m5 aT 1).toInt = (m aT 1).toInt := by rw [e8, up2_ne (by omega)]
    refine pv_aload_n (M := mX8_add) 0 dX8_add_22 23 rfl rfl rfl ?_
    refine pv_dup (M := mX8_add) dX8_add_23 24 rfl rfl ?_
    refine iv_get (M := mX8_add) (l1 := 0) (l2 := (rmT : Int)) dX8_add_24 FX8 1 wd193 (by decide) haT.1 rfl I6 haT.2.2.1 27 rfl (fun v10 ev10 pv10 qv10 => ?_)
    have wv10 : v10.toInt = (m5 aT 1).toInt := congrArg Int32.toInt ev10
    refine pv_iconst (M := mX8_add) (v := 1) dX8_add_27 28 rfl (by decide) ?_
    refine iv_iadd (M := mX8_add) (X := v10.toInt) (Y := 1) dX8_add_28 29 rfl rfl (by decide) (by omega) (by omega) (fun v11 ev11 => ?_)
    refine iv_put (M := mX8_add) (l1 := 0) (l2 := (rmT : Int)) dX8_add_29 FX8 1 wd193 (by decide) rfl haT.1 rfl rfl rfl I6 haT.2.2.1 (by omega) (by omega) 32 rfl (fun m12 e15 I13 => ?_)
    have K14 := K7.set e15 (wl_r (by omega) (by omega))
    have w16 : (m12 aT 1).toInt = v11.toInt := by rw [e15, up2_eq]
    exact pv_vret (M := mX8_add) dX8_add_32 rfl ⟨_, _, rfl, rfl, I13, K14, (by constructor <;> omega)⟩

set_option maxHeartbeats 2000000 in
set_option maxRecDepth 20000 in
theorem s_X8_placeOf (g : pv_G) {T : List mv_T} {m : Nat → Nat → Int32} {n : Nat → Nat → Int64} {r : Nat → Value} (hT : TX T) (I : IV BB m) (aT : Nat) (rmT : Nat) (haT : RowAt T aT rmT) (x0 : Int32) (x1 : Int32) : PM g mX8_placeOf yX8_placeOf (sqP (mk T m n r) (-1) 47 (fun v => v.toInt < (rmT : Int))) 1 0 0 [.ref aT, .int x0, .int x1] (mk T m n r) := by
  have Kp : fr (wl []) m m := fr.rf
  have zrT := haT.2.2.2.2
  refine PM.of 1 (lo := [.ref aT, .int x0, .int x1, pv_U]) rfl (by decide) rfl rfl (Nat.le_of_ble_eq_true rfl) ?_
  refine pv_iload_n (M := mX8_placeOf) 2 dX8_placeOf_0 1 rfl rfl rfl ?_
  refine pv_iconst (M := mX8_placeOf) (v := 0) dX8_placeOf_1 2 rfl (by decide) ?_
  refine iv_max (M := mX8_placeOf) (X := x1.toInt) (Y := 0) dX8_placeOf_2 wd184 Wmmax (Nat.le_of_ble_eq_true rfl) (by decide) rfl (by decide) 5 rfl (fun v1 ev1 fv1 gv1 => ?_)
  refine pv_istore_n (M := mX8_placeOf) 3 (lo2 := [.ref aT, .int x0, .int x1, .int v1]) dX8_placeOf_5 6 rfl rfl (by decide) rfl rfl ?_
  have lp8 : ∀ (fuel7 : Nat) (y2 : Int32), (0 ≤ y2.toInt) → (y2.toInt ≤ 2147483647) → ((2147483647 - y2.toInt) : Int).toNat < fuel7 → PV none g mX8_placeOf (sqP (mk T m n r) (-1) 47 (fun v => v.toInt < (rmT : Int))) 1 0 0 6 [.ref aT, .int x0, .int x1, .int y2] [] (mk T m n r) := by
    intro fuel7
    induction fuel7 with
    | zero => intro y2 b10 b11 z12; omega
    | succ fuel7 ih9 =>
      intro y2 b10 b11 z12
      refine pv_iload_n (M := mX8_placeOf) 3 dX8_placeOf_6 7 rfl rfl rfl ?_
      refine pv_aload_n (M := mX8_placeOf) 0 dX8_placeOf_7 8 rfl rfl rfl ?_
      refine iv_get (M := mX8_placeOf) (l1 := 0) (l2 := (rmT : Int)) dX8_placeOf_8 FX8 1 wd193 (by decide) haT.1 rfl I haT.2.2.1 11 rfl (fun v13 ev13 pv13 qv13 => ?_)
      refine pv_icmp_ge (M := mX8_placeOf) (tgt := 32) dX8_placeOf_11 14 rfl (by decide) (fun c14 => ?_) (fun c14 => ?_)
      · have c14 := iv_le (X := v13.toInt) (Y := y2.toInt) c14 rfl rfl
        refine pv_iconst (M := mX8_placeOf) (v := (-1)) dX8_placeOf_32 33 rfl (by decide) ?_
        have z15 : ((-1) : Int32).toInt = (-1) := by decide
        exact pv_iret (M := mX8_placeOf) dX8_placeOf_33 rfl rfl ⟨_, rfl, rfl, by decide, by decide, (by first | omega | assumption)⟩
      · have c14 := iv_nle (X := v13.toInt) (Y := y2.toInt) c14 rfl rfl
        refine pv_aload_n (M := mX8_placeOf) 0 dX8_placeOf_14 15 rfl rfl rfl ?_
        refine mv_get (M := mX8_placeOf) (v := .ref (aT + 1)) dX8_placeOf_15 FX8 0 wd187 (by decide) haT.1 rfl rfl 18 rfl ?_
        refine pv_iload_n (M := mX8_placeOf) 3 dX8_placeOf_18 19 rfl rfl rfl ?_
        refine iv_iald (M := mX8_placeOf) (X := y2.toInt) (l1 := (-2147483648)) (l2 := 2147483647) dX8_placeOf_19 haT.2.1 rfl (by omega) (by omega) I haT.2.2.2.1 20 rfl (fun v16 ev16 pv16 qv16 => ?_)
        refine pv_iload_n (M := mX8_placeOf) 1 dX8_placeOf_20 21 rfl rfl rfl ?_
        refine pv_icmp_ne (M := mX8_placeOf) (tgt := 26) dX8_placeOf_21 24 rfl (by decide) (fun c17 => ?_) (fun c17 => ?_)
        · have c17 := iv_ne (X := v16.toInt) (Y := x0.toInt) c17 rfl rfl
          refine iv_inc (M := mX8_placeOf) (C := 1) dX8_placeOf_26 29 rfl rfl (by decide) rfl rfl (by decide) (by omega) (by omega) (fun v18 ev18 => ?_)
          show PV _ _ _ _ _ _ _ 29 [.ref aT, .int x0, .int x1, .int v18] [] _
          refine pv_goto (M := mX8_placeOf) (tgt := 6) dX8_placeOf_29 (by decide) ?_
          exact ih9 v18 (by first | omega | assumption | exact (iv_rng _).2 | exact (iv_rng _).1 | decide) (by first | omega | assumption | exact (iv_rng _).2 | exact (iv_rng _).1 | decide) (by omega)
        · have c17 := iv_eq (X := v16.toInt) (Y := x0.toInt) c17 rfl rfl
          refine pv_iload_n (M := mX8_placeOf) 3 dX8_placeOf_24 25 rfl rfl rfl ?_
          exact pv_iret (M := mX8_placeOf) dX8_placeOf_25 rfl rfl ⟨_, rfl, rfl, by omega, by omega, (by first | omega | assumption)⟩
  exact lp8 (((2147483647 - v1.toInt) : Int).toNat + 1) v1 (by first | omega | assumption | exact (iv_rng _).2 | exact (iv_rng _).1 | decide) (by first | omega | assumption | exact (iv_rng _).2 | exact (iv_rng _).1 | decide) (by omega)

set_option maxHeartbeats 2000000 in
set_option maxRecDepth 20000 in
theorem s_X8_comesWithout (g : pv_G) {T : List mv_T} {m : Nat → Nat → Int32} {n : Nat → Nat → Int64} {r : Nat → Value} (hT : TX T) (I : IV BB m) (aT : Nat) (rmT : Nat) (haT : RowAt T aT rmT) (a0 : Nat) (rm0 : Nat) (ha0 : RowAt T a0 rm0) (x1 : Int32) : PM g mX8_comesWithout yX8_comesWithout (sqP (mk T m n r) 0 1 (fun v => True)) 1 0 0 [.ref aT, .ref a0, .int x1] (mk T m n r) := by
  have Kp : fr (wl []) m m := fr.rf
  have zrT := haT.2.2.2.2
  have zr0 := ha0.2.2.2.2
  refine PM.of 2 (lo := [.ref aT, .ref a0, .int x1, pv_U, pv_U]) rfl (by decide) rfl rfl (Nat.le_of_ble_eq_true rfl) ?_
  refine pv_iconst (M := mX8_comesWithout) (v := 0) dX8_comesWithout_0 1 rfl (by decide) ?_
  refine pv_istore_n (M := mX8_comesWithout) 3 (lo2 := [.ref aT, .ref a0, .int x1, .int 0, pv_U]) dX8_comesWithout_1 2 rfl rfl (by decide) rfl rfl ?_
  refine pv_iconst (M := mX8_comesWithout) (v := 0) dX8_comesWithout_2 3 rfl (by decide) ?_
  refine pv_istore (M := mX8_comesWithout) (lo2 := [.ref aT, .ref a0, .int x1, .int 0, .int 0]) dX8_comesWithout_3 5 rfl (by decide) rfl rfl ?_
  have lp8 : ∀ (fuel7 : Nat) (y1 : Int32) (y2 : Int32), (0 ≤ y1.toInt) → (y1.toInt ≤ 48) → (0 ≤ y2.toInt) → (y2.toInt ≤ 48) → ((48 - y2.toInt) : Int).toNat < fuel7 → PV none g mX8_comesWithout (sqP (mk T m n r) 0 1 (fun v => True)) 1 0 0 5 [.ref aT, .ref a0, .int x1, .int y1, .int y2] [] (mk T m n r) := by
    intro fuel7
    induction fuel7 with
    | zero => intro y1 y2 b10 b11 b12 b13 z14; omega
    | succ fuel7 ih9 =>
      intro y1 y2 b10 b11 b12 b13 z14
      refine pv_iload (M := mX8_comesWithout) dX8_comesWithout_5 7 rfl rfl ?_
      refine pv_aload_n (M := mX8_comesWithout) 1 dX8_comesWithout_7 8 rfl rfl rfl ?_
      refine iv_get (M := mX8_comesWithout) (l1 := 0) (l2 := (rm0 : Int)) dX8_comesWithout_8 FX8 1 wd193 (by decide) ha0.1 rfl I ha0.2.2.1 11 rfl (fun v15 ev15 pv15 qv15 => ?_)
      refine pv_icmp_ge (M := mX8_comesWithout) (tgt := 53) dX8_comesWithout_11 14 rfl (by decide) (fun c16 => ?_) (fun c16 => ?_)
      · have c16 := iv_le (X := v15.toInt) (Y := y2.toInt) c16 rfl rfl
        refine pv_iload_n (M := mX8_comesWithout) 3 dX8_comesWithout_53 54 rfl rfl rfl ?_
        refine pv_aload_n (M := mX8_comesWithout) 0 dX8_comesWithout_54 55 rfl rfl rfl ?_
        refine iv_get (M := mX8_comesWithout) (l1 := 0) (l2 := (rmT : Int)) dX8_comesWithout_55 FX8 1 wd193 (by decide) haT.1 rfl I haT.2.2.1 58 rfl (fun v17 ev17 pv17 qv17 => ?_)
        refine pv_icmp_ne (M := mX8_comesWithout) (tgt := 65) dX8_comesWithout_58 61 rfl (by decide) (fun c18 => ?_) (fun c18 => ?_)
        · have c18 := iv_ne (X := y1.toInt) (Y := v17.toInt) c18 rfl rfl
          refine pv_iconst (M := mX8_comesWithout) (v := 0) dX8_comesWithout_65 66 rfl (by decide) ?_
          exact pv_iret (M := mX8_comesWithout) dX8_comesWithout_66 rfl rfl ⟨_, rfl, rfl, by decide, by decide, trivial⟩
        · have c18 := iv_eq (X := y1.toInt) (Y := v17.toInt) c18 rfl rfl
          refine pv_iconst (M := mX8_comesWithout) (v := 1) dX8_comesWithout_61 62 rfl (by decide) ?_
          refine pv_goto (M := mX8_comesWithout) (tgt := 66) dX8_comesWithout_62 (by decide) ?_
          exact pv_iret (M := mX8_comesWithout) dX8_comesWithout_66 rfl rfl ⟨_, rfl, rfl, by decide, by decide, trivial⟩
      · have c16 := iv_nle (X := v15.toInt) (Y := y2.toInt) c16 rfl rfl
        refine pv_iload_n (M := mX8_comesWithout) 3 dX8_comesWithout_14 15 rfl rfl rfl ?_
        refine pv_aload_n (M := mX8_comesWithout) 0 dX8_comesWithout_15 16 rfl rfl rfl ?_
        refine iv_get (M := mX8_comesWithout) (l1 := 0) (l2 := (rmT : Int)) dX8_comesWithout_16 FX8 1 wd193 (by decide) haT.1 rfl I haT.2.2.1 19 rfl (fun v19 ev19 pv19 qv19 => ?_)
        refine pv_icmp_ge (M := mX8_comesWithout) (tgt := 53) dX8_comesWithout_19 22 rfl (by decide) (fun c20 => ?_) (fun c20 => ?_)
        · have c20 := iv_le (X := v19.toInt) (Y := y1.toInt) c20 rfl rfl
          refine pv_iload_n (M := mX8_comesWithout) 3 dX8_comesWithout_53 54 rfl rfl rfl ?_
          refine pv_aload_n (M := mX8_comesWithout) 0 dX8_comesWithout_54 55 rfl rfl rfl ?_
          refine iv_get (M := mX8_comesWithout) (l1 := 0) (l2 := (rmT : Int)) dX8_comesWithout_55 FX8 1 wd193 (by decide) haT.1 rfl I haT.2.2.1 58 rfl (fun v21 ev21 pv21 qv21 => ?_)
          refine pv_icmp_ne (M := mX8_comesWithout) (tgt := 65) dX8_comesWithout_58 61 rfl (by decide) (fun c22 => ?_) (fun c22 => ?_)
          · have c22 := iv_ne (X := y1.toInt) (Y := v21.toInt) c22 rfl rfl
            refine pv_iconst (M := mX8_comesWithout) (v := 0) dX8_comesWithout_65 66 rfl (by decide) ?_
            exact pv_iret (M := mX8_comesWithout) dX8_comesWithout_66 rfl rfl ⟨_, rfl, rfl, by decide, by decide, trivial⟩
          · have c22 := iv_eq (X := y1.toInt) (Y := v21.toInt) c22 rfl rfl
            refine pv_iconst (M := mX8_comesWithout) (v := 1) dX8_comesWithout_61 62 rfl (by decide) ?_
            refine pv_goto (M := mX8_comesWithout) (tgt := 66) dX8_comesWithout_62 (by decide) ?_
            exact pv_iret (M := mX8_comesWithout) dX8_comesWithout_66 rfl rfl ⟨_, rfl, rfl, by decide, by decide, trivial⟩
        · have c20 := iv_nle (X := v19.toInt) (Y := y1.toInt) c20 rfl rfl
          refine pv_iload (M := mX8_comesWithout) dX8_comesWithout_22 24 rfl rfl ?_
          refine pv_iload_n (M := mX8_comesWithout) 2 dX8_comesWithout_24 25 rfl rfl rfl ?_
          refine pv_icmp_eq (M := mX8_comesWithout) (tgt := 47) dX8_comesWithout_25 28 rfl (by decide) (fun c23 => ?_) (fun c23 => ?_)
          · have c23 := iv_eq (X := y2.toInt) (Y := x1.toInt) c23 rfl rfl
            refine iv_inc (M := mX8_comesWithout) (C := 1) dX8_comesWithout_47 50 rfl rfl (by decide) rfl rfl (by decide) (by omega) (by omega) (fun v24 ev24 => ?_)
            show PV _ _ _ _ _ _ _ 50 [.ref aT, .ref a0, .int x1, .int y1, .int v24] [] _
            refine pv_goto (M := mX8_comesWithout) (tgt := 5) dX8_comesWithout_50 (by decide) ?_
            exact ih9 y1 v24 (by first | omega | assumption | exact (iv_rng _).2 | exact (iv_rng _).1 | decide) (by first | omega | assumption | exact (iv_rng _).2 | exact (iv_rng _).1 | decide) (by first | omega | assumption | exact (iv_rng _).2 | exact (iv_rng _).1 | decide) (by first | omega | assumption | exact (iv_rng _).2 | exact (iv_rng _).1 | decide) (by omega)
          · have c23 := iv_ne (X := y2.toInt) (Y := x1.toInt) c23 rfl rfl
            refine pv_aload_n (M := mX8_comesWithout) 1 dX8_comesWithout_28 29 rfl rfl rfl ?_
            refine mv_get (M := mX8_comesWithout) (v := .ref (a0 + 1)) dX8_comesWithout_29 FX8 0 wd187 (by decide) ha0.1 rfl rfl 32 rfl ?_
            refine pv_iload (M := mX8_comesWithout) dX8_comesWithout_32 34 rfl rfl ?_
            refine iv_iald (M := mX8_comesWithout) (X := y2.toInt) (l1 := (-2147483648)) (l2 := 2147483647) dX8_comesWithout_34 ha0.2.1 rfl (by omega) (by omega) I ha0.2.2.2.1 35 rfl (fun v25 ev25 pv25 qv25 => ?_)
            refine pv_aload_n (M := mX8_comesWithout) 0 dX8_comesWithout_35 36 rfl rfl rfl ?_
            refine mv_get (M := mX8_comesWithout) (v := .ref (aT + 1)) dX8_comesWithout_36 FX8 0 wd187 (by decide) haT.1 rfl rfl 39 rfl ?_
            refine pv_iload_n (M := mX8_comesWithout) 3 dX8_comesWithout_39 40 rfl rfl rfl ?_
            refine iv_iald (M := mX8_comesWithout) (X := y1.toInt) (l1 := (-2147483648)) (l2 := 2147483647) dX8_comesWithout_40 haT.2.1 rfl (by omega) (by omega) I haT.2.2.2.1 41 rfl (fun v26 ev26 pv26 qv26 => ?_)
            refine pv_icmp_ne (M := mX8_comesWithout) (tgt := 47) dX8_comesWithout_41 44 rfl (by decide) (fun c27 => ?_) (fun c27 => ?_)
            · have c27 := iv_ne (X := v25.toInt) (Y := v26.toInt) c27 rfl rfl
              refine iv_inc (M := mX8_comesWithout) (C := 1) dX8_comesWithout_47 50 rfl rfl (by decide) rfl rfl (by decide) (by omega) (by omega) (fun v28 ev28 => ?_)
              show PV _ _ _ _ _ _ _ 50 [.ref aT, .ref a0, .int x1, .int y1, .int v28] [] _
              refine pv_goto (M := mX8_comesWithout) (tgt := 5) dX8_comesWithout_50 (by decide) ?_
              exact ih9 y1 v28 (by first | omega | assumption | exact (iv_rng _).2 | exact (iv_rng _).1 | decide) (by first | omega | assumption | exact (iv_rng _).2 | exact (iv_rng _).1 | decide) (by first | omega | assumption | exact (iv_rng _).2 | exact (iv_rng _).1 | decide) (by first | omega | assumption | exact (iv_rng _).2 | exact (iv_rng _).1 | decide) (by omega)
            · have c27 := iv_eq (X := v25.toInt) (Y := v26.toInt) c27 rfl rfl
              refine iv_inc (M := mX8_comesWithout) (C := 1) dX8_comesWithout_44 47 rfl rfl (by decide) rfl rfl (by decide) (by omega) (by omega) (fun v29 ev29 => ?_)
              show PV _ _ _ _ _ _ _ 47 [.ref aT, .ref a0, .int x1, .int v29, .int y2] [] _
              refine iv_inc (M := mX8_comesWithout) (C := 1) dX8_comesWithout_47 50 rfl rfl (by decide) rfl rfl (by decide) (by omega) (by omega) (fun v30 ev30 => ?_)
              show PV _ _ _ _ _ _ _ 50 [.ref aT, .ref a0, .int x1, .int v29, .int v30] [] _
              refine pv_goto (M := mX8_comesWithout) (tgt := 5) dX8_comesWithout_50 (by decide) ?_
              exact ih9 v29 v30 (by first | omega | assumption | exact (iv_rng _).2 | exact (iv_rng _).1 | decide) (by first | omega | assumption | exact (iv_rng _).2 | exact (iv_rng _).1 | decide) (by first | omega | assumption | exact (iv_rng _).2 | exact (iv_rng _).1 | decide) (by first | omega | assumption | exact (iv_rng _).2 | exact (iv_rng _).1 | decide) (by omega)
  have z31 : (0 : Int32).toInt = 0 := by decide
  have z32 : (0 : Int32).toInt = 0 := by decide
  exact lp8 (((48 - 0) : Int).toNat + 1) 0 0 (by first | omega | assumption | exact (iv_rng _).2 | exact (iv_rng _).1 | decide) (by first | omega | assumption | exact (iv_rng _).2 | exact (iv_rng _).1 | decide) (by first | omega | assumption | exact (iv_rng _).2 | exact (iv_rng _).1 | decide) (by first | omega | assumption | exact (iv_rng _).2 | exact (iv_rng _).1 | decide) (by omega)

set_option maxHeartbeats 2000000 in
set_option maxRecDepth 20000 in
theorem s_X8_comesFrom (g : pv_G) {T : List mv_T} {m : Nat → Nat → Int32} {n : Nat → Nat → Int64} {r : Nat → Value} (hT : TX T) (I : IV BB m) (aT : Nat) (rmT : Nat) (haT : RowAt T aT rmT) (a0 : Nat) (rm0 : Nat) (ha0 : RowAt T a0 rm0) : PM g mX8_comesFrom yX8_comesFrom (sqP (mk T m n r) 0 1 (fun v => True)) 2 0 0 [.ref aT, .ref a0] (mk T m n r) := by
  have Kp : fr (wl []) m m := fr.rf
  have zrT := haT.2.2.2.2
  have zr0 := ha0.2.2.2.2
  refine PM.of 0 (lo := [.ref aT, .ref a0]) rfl (by decide) rfl rfl (Nat.le_of_ble_eq_true rfl) ?_
  refine pv_aload_n (M := mX8_comesFrom) 0 dX8_comesFrom_0 1 rfl rfl rfl ?_
  refine pv_aload_n (M := mX8_comesFrom) 1 dX8_comesFrom_1 2 rfl rfl rfl ?_
  refine pv_iconst (M := mX8_comesFrom) (v := (-1)) dX8_comesFrom_2 3 rfl (by decide) ?_
  refine pv_callv (M := mX8_comesFrom) (as := [.ref a0, .int (-1)]) (st := []) (kc2 := 0) (ks2 := 0) dX8_comesFrom_3 wd1064 YX8_comesWithout ⟨wd1065, wd1066⟩ (mk_get haT.1) rfl rfl (s_X8_comesWithout g hT I aT rmT haT a0 rm0 ha0 (-1)) rfl rfl (Nat.le_of_ble_eq_true rfl) (by decide) rfl rfl 6 rfl (fun rv h1 q1 => ?_)
  obtain ⟨v2, rfl, rfl, pv2, qv2, rv2⟩ := q1
  show PV _ _ _ _ _ _ _ 6 [.ref aT, .ref a0] [.int v2] _
  exact pv_iret (M := mX8_comesFrom) dX8_comesFrom_6 rfl (iv_nz (by omega) (by omega)) ⟨_, rfl, rfl, by omega, by omega, trivial⟩

set_option maxHeartbeats 2000000 in
set_option maxRecDepth 20000 in
theorem s_X10_numberAt (g : pv_G) {T : List mv_T} {m : Nat → Nat → Int32} {n : Nat → Nat → Int64} {r : Nat → Value} (hT : TX T) (I : IV BB m) (x0 : Int32) : PM g mX10_numberAt yX10_numberAt (sqP (mk T m n r) (-2147483648) 2147483647 (fun v => True)) 1 0 0 [.ref 1, .int x0] (mk T m n r) := by
  have Kp : fr (wl []) m m := fr.rf
  refine PM.of 2 (lo := [.ref 1, .int x0, pv_U, pv_U]) rfl (by decide) rfl rfl (Nat.le_of_ble_eq_true rfl) ?_
  refine pv_iconst (M := mX10_numberAt) (v := 0) dX10_numberAt_0 1 rfl (by decide) ?_
  refine pv_istore_n (M := mX10_numberAt) 2 (lo2 := [.ref 1, .int x0, .int 0, pv_U]) dX10_numberAt_1 2 rfl rfl (by decide) rfl rfl ?_
  refine pv_iload_n (M := mX10_numberAt) 1 dX10_numberAt_2 3 rfl rfl rfl ?_
  refine pv_if_lt (M := mX10_numberAt) (tgt := 43) dX10_numberAt_3 6 rfl (by decide) (fun c1 => ?_) (fun c1 => ?_)
  · have c1 := iv_lt (X := x0.toInt) (Y := 0) c1 rfl (by decide)
    refine pv_iload_n (M := mX10_numberAt) 2 dX10_numberAt_43 44 rfl rfl rfl ?_
    exact pv_iret (M := mX10_numberAt) dX10_numberAt_44 rfl rfl ⟨_, rfl, rfl, by decide, by decide, trivial⟩
  · have c1 := iv_nlt (X := x0.toInt) (Y := 0) c1 rfl (by decide)
    refine pv_iload_n (M := mX10_numberAt) 1 dX10_numberAt_6 7 rfl rfl rfl ?_
    refine pv_bipush (M := mX10_numberAt) (v := 50) dX10_numberAt_7 9 rfl (by decide) ?_
    refine pv_icmp_ge (M := mX10_numberAt) (tgt := 43) dX10_numberAt_9 12 rfl (by decide) (fun c2 => ?_) (fun c2 => ?_)
    · have c2 := iv_le (X := 50) (Y := x0.toInt) c2 (by decide) rfl
      refine pv_iload_n (M := mX10_numberAt) 2 dX10_numberAt_43 44 rfl rfl rfl ?_
      exact pv_iret (M := mX10_numberAt) dX10_numberAt_44 rfl rfl ⟨_, rfl, rfl, by decide, by decide, trivial⟩
    · have c2 := iv_nle (X := 50) (Y := x0.toInt) c2 (by decide) rfl
      refine pv_iconst (M := mX10_numberAt) (v := 4) dX10_numberAt_12 13 rfl (by decide) ?_
      refine pv_iload_n (M := mX10_numberAt) 1 dX10_numberAt_13 14 rfl rfl rfl ?_
      refine iv_imul (M := mX10_numberAt) (X := 4) (Y := x0.toInt) dX10_numberAt_14 15 rfl (by decide) rfl (by omega) (by omega) (fun v3 ev3 => ?_)
      refine pv_istore_n (M := mX10_numberAt) 3 (lo2 := [.ref 1, .int x0, .int 0, .int v3]) dX10_numberAt_15 16 rfl rfl (by decide) rfl rfl ?_
      have lp11 : ∀ (fuel10 : Nat) (y4 : Int32) (y5 : Int32), (0 ≤ y5.toInt) → (y5.toInt ≤ 200) → ((200 - y5.toInt) : Int).toNat < fuel10 → PV none g mX10_numberAt (sqP (mk T m n r) (-2147483648) 2147483647 (fun v => True)) 1 0 0 16 [.ref 1, .int x0, .int y4, .int y5] [] (mk T m n r) := by
        intro fuel10
        induction fuel10 with
        | zero => intro y4 y5 b13 b14 z15; omega
        | succ fuel10 ih12 =>
          intro y4 y5 b13 b14 z15
          refine pv_iload_n (M := mX10_numberAt) 3 dX10_numberAt_16 17 rfl rfl rfl ?_
          refine pv_iconst (M := mX10_numberAt) (v := 4) dX10_numberAt_17 18 rfl (by decide) ?_
          refine pv_iload_n (M := mX10_numberAt) 1 dX10_numberAt_18 19 rfl rfl rfl ?_
          refine iv_imul (M := mX10_numberAt) (X := 4) (Y := x0.toInt) dX10_numberAt_19 20 rfl (by decide) rfl (by omega) (by omega) (fun v16 ev16 => ?_)
          refine pv_iconst (M := mX10_numberAt) (v := 4) dX10_numberAt_20 21 rfl (by decide) ?_
          refine iv_iadd (M := mX10_numberAt) (X := v16.toInt) (Y := 4) dX10_numberAt_21 22 rfl rfl (by decide) (by omega) (by omega) (fun v17 ev17 => ?_)
          refine pv_icmp_ge (M := mX10_numberAt) (tgt := 43) dX10_numberAt_22 25 rfl (by decide) (fun c18 => ?_) (fun c18 => ?_)
          · have c18 := iv_le (X := v17.toInt) (Y := y5.toInt) c18 rfl rfl
            refine pv_iload_n (M := mX10_numberAt) 2 dX10_numberAt_43 44 rfl rfl rfl ?_
            exact pv_iret (M := mX10_numberAt) dX10_numberAt_44 rfl rfl ⟨_, rfl, rfl, (iv_rng y4).1, (iv_rng y4).2, trivial⟩
          · have c18 := iv_nle (X := v17.toInt) (Y := y5.toInt) c18 rfl rfl
            refine pv_iload_n (M := mX10_numberAt) 2 dX10_numberAt_25 26 rfl rfl rfl ?_
            refine pv_bipush (M := mX10_numberAt) (v := 8) dX10_numberAt_26 28 rfl (by decide) ?_
            refine iv_shlU (M := mX10_numberAt) dX10_numberAt_28 29 rfl (fun v19 ev19 => ?_)
            refine pv_aload_n (M := mX10_numberAt) 0 dX10_numberAt_29 30 rfl rfl rfl ?_
            refine mv_get (M := mX10_numberAt) (v := .ref 2) dX10_numberAt_30 FX10 0 wd161 (by decide) (tl1 hT) rfl rfl 33 rfl ?_
            refine pv_iload_n (M := mX10_numberAt) 3 dX10_numberAt_33 34 rfl rfl rfl ?_
            refine iv_iald (M := mX10_numberAt) (X := y5.toInt) (l1 := 0) (l2 := 255) dX10_numberAt_34 (tl2 hT) rfl (by omega) (by omega) I (fun _ => rfl) 35 rfl (fun v20 ev20 pv20 qv20 => ?_)
            refine iv_orU (M := mX10_numberAt) dX10_numberAt_35 36 rfl (fun v21 ev21 => ?_)
            refine pv_istore_n (M := mX10_numberAt) 2 (lo2 := [.ref 1, .int x0, .int v21, .int y5]) dX10_numberAt_36 37 rfl rfl (by decide) rfl rfl ?_
            refine iv_inc (M := mX10_numberAt) (C := 1) dX10_numberAt_37 40 rfl rfl (by decide) rfl rfl (by decide) (by omega) (by omega) (fun v22 ev22 => ?_)
            show PV _ _ _ _ _ _ _ 40 [.ref 1, .int x0, .int v21, .int v22] [] _
            refine pv_goto (M := mX10_numberAt) (tgt := 16) dX10_numberAt_40 (by decide) ?_
            exact ih12 v21 v22 (by first | omega | assumption | exact (iv_rng _).2 | exact (iv_rng _).1 | decide) (by first | omega | assumption | exact (iv_rng _).2 | exact (iv_rng _).1 | decide) (by omega)
      have z23 : (0 : Int32).toInt = 0 := by decide
      exact lp11 (((200 - v3.toInt) : Int).toNat + 1) 0 v3 (by first | omega | assumption | exact (iv_rng _).2 | exact (iv_rng _).1 | decide) (by first | omega | assumption | exact (iv_rng _).2 | exact (iv_rng _).1 | decide) (by omega)

set_option maxHeartbeats 2000000 in
set_option maxRecDepth 20000 in
theorem s_X0_ownAt (g : pv_G) {T : List mv_T} {m : Nat → Nat → Int32} {n : Nat → Nat → Int64} {r : Nat → Value} (hT : TX T) (I : IV BB m) (aT : Nat) (haT : BlankAt T aT) (x0 : Int32) : PM g mX0_ownAt yX0_ownAt (sqP (mk T m n r) (-2147483648) 2147483647 (fun v => True)) 1 0 0 [.ref aT, .int x0] (mk T m n r) := by
  have Kp : fr (wl []) m m := fr.rf
  have zbT := haT.2.2.2.2.2.2.2
  refine PM.of 0 (lo := [.ref aT, .int x0]) rfl (by decide) rfl rfl (Nat.le_of_ble_eq_true rfl) ?_
  refine pv_iload_n (M := mX0_ownAt) 1 dX0_ownAt_0 1 rfl rfl rfl ?_
  refine pv_if_lt (M := mX0_ownAt) (tgt := 24) dX0_ownAt_1 4 rfl (by decide) (fun c1 => ?_) (fun c1 => ?_)
  · have c1 := iv_lt (X := x0.toInt) (Y := 0) c1 rfl (by decide)
    refine pv_iconst (M := mX0_ownAt) (v := (-1)) dX0_ownAt_24 25 rfl (by decide) ?_
    exact pv_iret (M := mX0_ownAt) dX0_ownAt_25 rfl rfl ⟨_, rfl, rfl, by decide, by decide, trivial⟩
  · have c1 := iv_nlt (X := x0.toInt) (Y := 0) c1 rfl (by decide)
    refine pv_iload_n (M := mX0_ownAt) 1 dX0_ownAt_4 5 rfl rfl rfl ?_
    refine pv_aload_n (M := mX0_ownAt) 0 dX0_ownAt_5 6 rfl rfl rfl ?_
    refine mv_get (M := mX0_ownAt) (v := .ref (aT + 3)) dX0_ownAt_6 FX0 1 wd209 (by decide) haT.1 rfl rfl 9 rfl ?_
    refine iv_get (M := mX0_ownAt) (l1 := 0) (l2 := 40) dX0_ownAt_9 FX8 1 wd195 (by decide) haT.2.2.1.1 rfl I haT.2.2.1.2.2.1 12 rfl (fun v2 ev2 pv2 qv2 => ?_)
    refine pv_icmp_ge (M := mX0_ownAt) (tgt := 24) dX0_ownAt_12 15 rfl (by decide) (fun c3 => ?_) (fun c3 => ?_)
    · have c3 := iv_le (X := v2.toInt) (Y := x0.toInt) c3 rfl rfl
      refine pv_iconst (M := mX0_ownAt) (v := (-1)) dX0_ownAt_24 25 rfl (by decide) ?_
      exact pv_iret (M := mX0_ownAt) dX0_ownAt_25 rfl rfl ⟨_, rfl, rfl, by decide, by decide, trivial⟩
    · have c3 := iv_nle (X := v2.toInt) (Y := x0.toInt) c3 rfl rfl
      refine pv_aload_n (M := mX0_ownAt) 0 dX0_ownAt_15 16 rfl rfl rfl ?_
      refine mv_get (M := mX0_ownAt) (v := .ref (aT + 5)) dX0_ownAt_16 FX0 2 wd212 (by decide) haT.1 rfl rfl 19 rfl ?_
      refine pv_iload_n (M := mX0_ownAt) 1 dX0_ownAt_19 20 rfl rfl rfl ?_
      refine iv_iald (M := mX0_ownAt) (X := x0.toInt) (l1 := (-2147483648)) (l2 := 2147483647) dX0_ownAt_20 haT.2.2.2.1 rfl (by omega) (by omega) I haT.2.2.2.2.1 21 rfl (fun v4 ev4 pv4 qv4 => ?_)
      refine pv_goto (M := mX0_ownAt) (tgt := 25) dX0_ownAt_21 (by decide) ?_
      exact pv_iret (M := mX0_ownAt) dX0_ownAt_25 rfl rfl ⟨_, rfl, rfl, (iv_rng v4).1, (iv_rng v4).2, trivial⟩

set_option maxHeartbeats 2000000 in
set_option maxRecDepth 20000 in
theorem s_X0_goneAt (g : pv_G) {T : List mv_T} {m : Nat → Nat → Int32} {n : Nat → Nat → Int64} {r : Nat → Value} (hT : TX T) (I : IV BB m) (aT : Nat) (haT : BlankAt T aT) (x0 : Int32) : PM g mX0_goneAt yX0_goneAt (sqP (mk T m n r) 0 1 (fun v => True)) 1 0 0 [.ref aT, .int x0] (mk T m n r) := by
  have Kp : fr (wl []) m m := fr.rf
  have zbT := haT.2.2.2.2.2.2.2
  refine PM.of 0 (lo := [.ref aT, .int x0]) rfl (by decide) rfl rfl (Nat.le_of_ble_eq_true rfl) ?_
  refine pv_iload_n (M := mX0_goneAt) 1 dX0_goneAt_0 1 rfl rfl rfl ?_
  refine pv_if_lt (M := mX0_goneAt) (tgt := 24) dX0_goneAt_1 4 rfl (by decide) (fun c1 => ?_) (fun c1 => ?_)
  · have c1 := iv_lt (X := x0.toInt) (Y := 0) c1 rfl (by decide)
    refine pv_iconst (M := mX0_goneAt) (v := 1) dX0_goneAt_24 25 rfl (by decide) ?_
    refine pv_goto (M := mX0_goneAt) (tgt := 29) dX0_goneAt_25 (by decide) ?_
    exact pv_iret (M := mX0_goneAt) dX0_goneAt_29 rfl rfl ⟨_, rfl, rfl, by decide, by decide, trivial⟩
  · have c1 := iv_nlt (X := x0.toInt) (Y := 0) c1 rfl (by decide)
    refine pv_iload_n (M := mX0_goneAt) 1 dX0_goneAt_4 5 rfl rfl rfl ?_
    refine pv_aload_n (M := mX0_goneAt) 0 dX0_goneAt_5 6 rfl rfl rfl ?_
    refine mv_get (M := mX0_goneAt) (v := .ref (aT + 1)) dX0_goneAt_6 FX0 0 wd207 (by decide) haT.1 rfl rfl 9 rfl ?_
    refine iv_get (M := mX0_goneAt) (l1 := 0) (l2 := 40) dX0_goneAt_9 FX8 1 wd195 (by decide) haT.2.1.1 rfl I haT.2.1.2.2.1 12 rfl (fun v2 ev2 pv2 qv2 => ?_)
    refine pv_icmp_ge (M := mX0_goneAt) (tgt := 24) dX0_goneAt_12 15 rfl (by decide) (fun c3 => ?_) (fun c3 => ?_)
    · have c3 := iv_le (X := v2.toInt) (Y := x0.toInt) c3 rfl rfl
      refine pv_iconst (M := mX0_goneAt) (v := 1) dX0_goneAt_24 25 rfl (by decide) ?_
      refine pv_goto (M := mX0_goneAt) (tgt := 29) dX0_goneAt_25 (by decide) ?_
      exact pv_iret (M := mX0_goneAt) dX0_goneAt_29 rfl rfl ⟨_, rfl, rfl, by decide, by decide, trivial⟩
    · have c3 := iv_nle (X := v2.toInt) (Y := x0.toInt) c3 rfl rfl
      refine pv_aload_n (M := mX0_goneAt) 0 dX0_goneAt_15 16 rfl rfl rfl ?_
      refine mv_get (M := mX0_goneAt) (v := .ref (aT + 6)) dX0_goneAt_16 FX0 3 wd213 (by decide) haT.1 rfl rfl 19 rfl ?_
      refine pv_iload_n (M := mX0_goneAt) 1 dX0_goneAt_19 20 rfl rfl rfl ?_
      refine iv_zald (M := mX0_goneAt) (X := x0.toInt) (l1 := 0) (l2 := 1) dX0_goneAt_20 haT.2.2.2.2.2.1 rfl (by omega) (by omega) I haT.2.2.2.2.2.2.1 21 rfl (fun v4 ev4 pv4 qv4 => ?_)
      refine pv_if_eq (M := mX0_goneAt) (tgt := 28) dX0_goneAt_21 24 rfl (by decide) (fun c5 => ?_) (fun c5 => ?_)
      · have c5 := iv_eq (X := v4.toInt) (Y := 0) c5 rfl (by decide)
        refine pv_iconst (M := mX0_goneAt) (v := 0) dX0_goneAt_28 29 rfl (by decide) ?_
        exact pv_iret (M := mX0_goneAt) dX0_goneAt_29 rfl rfl ⟨_, rfl, rfl, by decide, by decide, trivial⟩
      · have c5 := iv_ne (X := v4.toInt) (Y := 0) c5 rfl (by decide)
        refine pv_iconst (M := mX0_goneAt) (v := 1) dX0_goneAt_24 25 rfl (by decide) ?_
        refine pv_goto (M := mX0_goneAt) (tgt := 29) dX0_goneAt_25 (by decide) ?_
        exact pv_iret (M := mX0_goneAt) dX0_goneAt_29 rfl rfl ⟨_, rfl, rfl, by decide, by decide, trivial⟩

set_option maxHeartbeats 2000000 in
set_option maxRecDepth 20000 in
theorem s_X0_howOften (g : pv_G) {T : List mv_T} {m : Nat → Nat → Int32} {n : Nat → Nat → Int64} {r : Nat → Value} (hT : TX T) (I : IV BB m) (aT : Nat) (haT : BlankAt T aT) (x0 : Int32) : PM g mX0_howOften yX0_howOften (sqP (mk T m n r) 0 48 (fun v => True)) 1 0 0 [.ref aT, .int x0] (mk T m n r) := by
  have Kp : fr (wl []) m m := fr.rf
  have zbT := haT.2.2.2.2.2.2.2
  refine PM.of 2 (lo := [.ref aT, .int x0, pv_U, pv_U]) rfl (by decide) rfl rfl (Nat.le_of_ble_eq_true rfl) ?_
  refine pv_iconst (M := mX0_howOften) (v := 0) dX0_howOften_0 1 rfl (by decide) ?_
  refine pv_istore_n (M := mX0_howOften) 2 (lo2 := [.ref aT, .int x0, .int 0, pv_U]) dX0_howOften_1 2 rfl rfl (by decide) rfl rfl ?_
  refine pv_iconst (M := mX0_howOften) (v := 0) dX0_howOften_2 3 rfl (by decide) ?_
  refine pv_istore_n (M := mX0_howOften) 3 (lo2 := [.ref aT, .int x0, .int 0, .int 0]) dX0_howOften_3 4 rfl rfl (by decide) rfl rfl ?_
  have lp8 : ∀ (fuel7 : Nat) (y1 : Int32) (y2 : Int32), (0 ≤ y1.toInt) → (y1.toInt ≤ 48) → (0 ≤ y2.toInt) → (y2.toInt ≤ 40) → (y1.toInt ≤ y2.toInt) → ((40 - y2.toInt) : Int).toNat < fuel7 → PV none g mX0_howOften (sqP (mk T m n r) 0 48 (fun v => True)) 1 0 0 4 [.ref aT, .int x0, .int y1, .int y2] [] (mk T m n r) := by
    intro fuel7
    induction fuel7 with
    | zero => intro y1 y2 b10 b11 b12 b13 b14 z15; omega
    | succ fuel7 ih9 =>
      intro y1 y2 b10 b11 b12 b13 b14 z15
      refine pv_iload_n (M := mX0_howOften) 3 dX0_howOften_4 5 rfl rfl rfl ?_
      refine pv_aload_n (M := mX0_howOften) 0 dX0_howOften_5 6 rfl rfl rfl ?_
      refine mv_get (M := mX0_howOften) (v := .ref (aT + 3)) dX0_howOften_6 FX0 1 wd209 (by decide) haT.1 rfl rfl 9 rfl ?_
      refine iv_get (M := mX0_howOften) (l1 := 0) (l2 := 40) dX0_howOften_9 FX8 1 wd195 (by decide) haT.2.2.1.1 rfl I haT.2.2.1.2.2.1 12 rfl (fun v16 ev16 pv16 qv16 => ?_)
      refine pv_icmp_ge (M := mX0_howOften) (tgt := 37) dX0_howOften_12 15 rfl (by decide) (fun c17 => ?_) (fun c17 => ?_)
      · have c17 := iv_le (X := v16.toInt) (Y := y2.toInt) c17 rfl rfl
        refine pv_iload_n (M := mX0_howOften) 2 dX0_howOften_37 38 rfl rfl rfl ?_
        exact pv_iret (M := mX0_howOften) dX0_howOften_38 rfl rfl ⟨_, rfl, rfl, by omega, by omega, trivial⟩
      · have c17 := iv_nle (X := v16.toInt) (Y := y2.toInt) c17 rfl rfl
        refine pv_aload_n (M := mX0_howOften) 0 dX0_howOften_15 16 rfl rfl rfl ?_
        refine mv_get (M := mX0_howOften) (v := .ref (aT + 3)) dX0_howOften_16 FX0 1 wd209 (by decide) haT.1 rfl rfl 19 rfl ?_
        refine mv_get (M := mX0_howOften) (v := .ref ((aT + 3) + 1)) dX0_howOften_19 FX8 0 wd188 (by decide) haT.2.2.1.1 rfl rfl 22 rfl ?_
        refine pv_iload_n (M := mX0_howOften) 3 dX0_howOften_22 23 rfl rfl rfl ?_
        refine iv_iald (M := mX0_howOften) (X := y2.toInt) (l1 := (-2147483648)) (l2 := 2147483647) dX0_howOften_23 haT.2.2.1.2.1 rfl (by omega) (by omega) I haT.2.2.1.2.2.2.1 24 rfl (fun v18 ev18 pv18 qv18 => ?_)
        refine pv_iload_n (M := mX0_howOften) 1 dX0_howOften_24 25 rfl rfl rfl ?_
        refine pv_icmp_ne (M := mX0_howOften) (tgt := 31) dX0_howOften_25 28 rfl (by decide) (fun c19 => ?_) (fun c19 => ?_)
        · have c19 := iv_ne (X := v18.toInt) (Y := x0.toInt) c19 rfl rfl
          refine iv_inc (M := mX0_howOften) (C := 1) dX0_howOften_31 34 rfl rfl (by decide) rfl rfl (by decide) (by omega) (by omega) (fun v20 ev20 => ?_)
          show PV _ _ _ _ _ _ _ 34 [.ref aT, .int x0, .int y1, .int v20] [] _
          refine pv_goto (M := mX0_howOften) (tgt := 4) dX0_howOften_34 (by decide) ?_
          exact ih9 y1 v20 (by first | omega | assumption | exact (iv_rng _).2 | exact (iv_rng _).1 | decide) (by first | omega | assumption | exact (iv_rng _).2 | exact (iv_rng _).1 | decide) (by first | omega | assumption | exact (iv_rng _).2 | exact (iv_rng _).1 | decide) (by first | omega | assumption | exact (iv_rng _).2 | exact (iv_rng _).1 | decide) (by first | omega | assumption | (show y1.toInt ≤ v20.toInt; omega) | decide) (by omega)
        · have c19 := iv_eq (X := v18.toInt) (Y := x0.toInt) c19 rfl rfl
          refine iv_inc (M := mX0_howOften) (C := 1) dX0_howOften_28 31 rfl rfl (by decide) rfl rfl (by decide) (by omega) (by omega) (fun v21 ev21 => ?_)
          show PV _ _ _ _ _ _ _ 31 [.ref aT, .int x0, .int v21, .int y2] [] _
          refine iv_inc (M := mX0_howOften) (C := 1) dX0_howOften_31 34 rfl rfl (by decide) rfl rfl (by decide) (by omega) (by omega) (fun v22 ev22 => ?_)
          show PV _ _ _ _ _ _ _ 34 [.ref aT, .int x0, .int v21, .int v22] [] _
          refine pv_goto (M := mX0_howOften) (tgt := 4) dX0_howOften_34 (by decide) ?_
          exact ih9 v21 v22 (by first | omega | assumption | exact (iv_rng _).2 | exact (iv_rng _).1 | decide) (by first | omega | assumption | exact (iv_rng _).2 | exact (iv_rng _).1 | decide) (by first | omega | assumption | exact (iv_rng _).2 | exact (iv_rng _).1 | decide) (by first | omega | assumption | exact (iv_rng _).2 | exact (iv_rng _).1 | decide) (by first | omega | assumption | (show v21.toInt ≤ v22.toInt; omega) | decide) (by omega)
  have z23 : (0 : Int32).toInt = 0 := by decide
  have z24 : (0 : Int32).toInt = 0 := by decide
  exact lp8 (((40 - 0) : Int).toNat + 1) 0 0 (by first | omega | assumption | exact (iv_rng _).2 | exact (iv_rng _).1 | decide) (by first | omega | assumption | exact (iv_rng _).2 | exact (iv_rng _).1 | decide) (by first | omega | assumption | exact (iv_rng _).2 | exact (iv_rng _).1 | decide) (by first | omega | assumption | exact (iv_rng _).2 | exact (iv_rng _).1 | decide) (by first | omega | assumption | (show 0 ≤ 0; omega) | decide) (by omega)

set_option maxHeartbeats 2000000 in
set_option maxRecDepth 20000 in
theorem s_X1_numberOf (g : pv_G) {T : List mv_T} {m : Nat → Nat → Int32} {n : Nat → Nat → Int64} {r : Nat → Value} (hT : TX T) (I : IV BB m) (x0 : Int32) (x1 : Int32) : PM g mX1_numberOf yX1_numberOf (sqP (mk T m n r) (-2147483648) 2147483647 (fun v => True)) 1 0 0 [.ref 97, .int x0, .int x1] (mk T m n r) := by
  have Kp : fr (wl []) m m := fr.rf
  refine PM.of 1 (lo := [.ref 97, .int x0, .int x1, pv_U]) rfl (by decide) rfl rfl (Nat.le_of_ble_eq_true rfl) ?_
  refine pv_iload_n (M := mX1_numberOf) 1 dX1_numberOf_0 1 rfl rfl rfl ?_
  refine pv_if_lt (M := mX1_numberOf) (tgt := 30) dX1_numberOf_1 4 rfl (by decide) (fun c1 => ?_) (fun c1 => ?_)
  · have c1 := iv_lt (X := x0.toInt) (Y := 0) c1 rfl (by decide)
    refine pv_iconst (M := mX1_numberOf) (v := 0) dX1_numberOf_30 31 rfl (by decide) ?_
    refine pv_istore_n (M := mX1_numberOf) 3 (lo2 := [.ref 97, .int x0, .int x1, .int 0]) dX1_numberOf_31 32 rfl rfl (by decide) rfl rfl ?_
    refine pv_iload_n (M := mX1_numberOf) 3 dX1_numberOf_32 33 rfl rfl rfl ?_
    refine pv_if_eq (M := mX1_numberOf) (tgt := 50) dX1_numberOf_33 36 rfl (by decide) (fun _ => ?_) (fun q => absurd (by decide) q)
    refine pv_sipush (M := mX1_numberOf) (v := (-1000)) dX1_numberOf_50 53 rfl (by decide) ?_
    exact pv_iret (M := mX1_numberOf) dX1_numberOf_53 rfl rfl ⟨_, rfl, rfl, by decide, by decide, trivial⟩
  · have c1 := iv_nlt (X := x0.toInt) (Y := 0) c1 rfl (by decide)
    refine pv_iload_n (M := mX1_numberOf) 1 dX1_numberOf_4 5 rfl rfl rfl ?_
    refine pv_aload_n (M := mX1_numberOf) 0 dX1_numberOf_5 6 rfl rfl rfl ?_
    refine iv_get (M := mX1_numberOf) (l1 := 0) (l2 := 60) dX1_numberOf_6 FX1 6 wd309 (by decide) (tl97 hT) rfl I rfl 9 rfl (fun v3 ev3 pv3 qv3 => ?_)
    refine pv_icmp_ge (M := mX1_numberOf) (tgt := 30) dX1_numberOf_9 12 rfl (by decide) (fun c4 => ?_) (fun c4 => ?_)
    · have c4 := iv_le (X := v3.toInt) (Y := x0.toInt) c4 rfl rfl
      refine pv_iconst (M := mX1_numberOf) (v := 0) dX1_numberOf_30 31 rfl (by decide) ?_
      refine pv_istore_n (M := mX1_numberOf) 3 (lo2 := [.ref 97, .int x0, .int x1, .int 0]) dX1_numberOf_31 32 rfl rfl (by decide) rfl rfl ?_
      refine pv_iload_n (M := mX1_numberOf) 3 dX1_numberOf_32 33 rfl rfl rfl ?_
      refine pv_if_eq (M := mX1_numberOf) (tgt := 50) dX1_numberOf_33 36 rfl (by decide) (fun _ => ?_) (fun q => absurd (by decide) q)
      refine pv_sipush (M := mX1_numberOf) (v := (-1000)) dX1_numberOf_50 53 rfl (by decide) ?_
      exact pv_iret (M := mX1_numberOf) dX1_numberOf_53 rfl rfl ⟨_, rfl, rfl, by decide, by decide, trivial⟩
    · have c4 := iv_nle (X := v3.toInt) (Y := x0.toInt) c4 rfl rfl
      refine pv_iload_n (M := mX1_numberOf) 2 dX1_numberOf_12 13 rfl rfl rfl ?_
      refine pv_if_lt (M := mX1_numberOf) (tgt := 30) dX1_numberOf_13 16 rfl (by decide) (fun c6 => ?_) (fun c6 => ?_)
      · have c6 := iv_lt (X := x1.toInt) (Y := 0) c6 rfl (by decide)
        refine pv_iconst (M := mX1_numberOf) (v := 0) dX1_numberOf_30 31 rfl (by decide) ?_
        refine pv_istore_n (M := mX1_numberOf) 3 (lo2 := [.ref 97, .int x0, .int x1, .int 0]) dX1_numberOf_31 32 rfl rfl (by decide) rfl rfl ?_
        refine pv_iload_n (M := mX1_numberOf) 3 dX1_numberOf_32 33 rfl rfl rfl ?_
        refine pv_if_eq (M := mX1_numberOf) (tgt := 50) dX1_numberOf_33 36 rfl (by decide) (fun _ => ?_) (fun q => absurd (by decide) q)
        refine pv_sipush (M := mX1_numberOf) (v := (-1000)) dX1_numberOf_50 53 rfl (by decide) ?_
        exact pv_iret (M := mX1_numberOf) dX1_numberOf_53 rfl rfl ⟨_, rfl, rfl, by decide, by decide, trivial⟩
      · have c6 := iv_nlt (X := x1.toInt) (Y := 0) c6 rfl (by decide)
        refine pv_iload_n (M := mX1_numberOf) 2 dX1_numberOf_16 17 rfl rfl rfl ?_
        refine pv_aload_n (M := mX1_numberOf) 0 dX1_numberOf_17 18 rfl rfl rfl ?_
        refine mv_get (M := mX1_numberOf) (v := .ref 102) dX1_numberOf_18 FX1 4 wd306 (by decide) (tl97 hT) rfl rfl 21 rfl ?_
        refine pv_iload_n (M := mX1_numberOf) 1 dX1_numberOf_21 22 rfl rfl rfl ?_
        refine iv_iald (M := mX1_numberOf) (X := x0.toInt) (l1 := 0) (l2 := 9) dX1_numberOf_22 (tl102 hT) rfl (by omega) (by omega) I (fun _ => rfl) 23 rfl (fun v8 ev8 pv8 qv8 => ?_)
        refine pv_icmp_ge (M := mX1_numberOf) (tgt := 30) dX1_numberOf_23 26 rfl (by decide) (fun c9 => ?_) (fun c9 => ?_)
        · have c9 := iv_le (X := v8.toInt) (Y := x1.toInt) c9 rfl rfl
          refine pv_iconst (M := mX1_numberOf) (v := 0) dX1_numberOf_30 31 rfl (by decide) ?_
          refine pv_istore_n (M := mX1_numberOf) 3 (lo2 := [.ref 97, .int x0, .int x1, .int 0]) dX1_numberOf_31 32 rfl rfl (by decide) rfl rfl ?_
          refine pv_iload_n (M := mX1_numberOf) 3 dX1_numberOf_32 33 rfl rfl rfl ?_
          refine pv_if_eq (M := mX1_numberOf) (tgt := 50) dX1_numberOf_33 36 rfl (by decide) (fun _ => ?_) (fun q => absurd (by decide) q)
          refine pv_sipush (M := mX1_numberOf) (v := (-1000)) dX1_numberOf_50 53 rfl (by decide) ?_
          exact pv_iret (M := mX1_numberOf) dX1_numberOf_53 rfl rfl ⟨_, rfl, rfl, by decide, by decide, trivial⟩
        · have c9 := iv_nle (X := v8.toInt) (Y := x1.toInt) c9 rfl rfl
          refine pv_iconst (M := mX1_numberOf) (v := 1) dX1_numberOf_26 27 rfl (by decide) ?_
          refine pv_goto (M := mX1_numberOf) (tgt := 31) dX1_numberOf_27 (by decide) ?_
          refine pv_istore_n (M := mX1_numberOf) 3 (lo2 := [.ref 97, .int x0, .int x1, .int 1]) dX1_numberOf_31 32 rfl rfl (by decide) rfl rfl ?_
          refine pv_iload_n (M := mX1_numberOf) 3 dX1_numberOf_32 33 rfl rfl rfl ?_
          refine pv_if_eq (M := mX1_numberOf) (tgt := 50) dX1_numberOf_33 36 rfl (by decide) (fun q => absurd q (by decide)) (fun _ => ?_)
          refine pv_aload_n (M := mX1_numberOf) 0 dX1_numberOf_36 37 rfl rfl rfl ?_
          refine mv_get (M := mX1_numberOf) (v := .ref 103) dX1_numberOf_37 FX1 5 wd308 (by decide) (tl97 hT) rfl rfl 40 rfl ?_
          refine pv_iload_n (M := mX1_numberOf) 1 dX1_numberOf_40 41 rfl rfl rfl ?_
          refine pv_bipush (M := mX1_numberOf) (v := 9) dX1_numberOf_41 43 rfl (by decide) ?_
          refine iv_imul (M := mX1_numberOf) (X := x0.toInt) (Y := 9) dX1_numberOf_43 44 rfl rfl (by decide) (by omega) (by omega) (fun v12 ev12 => ?_)
          refine pv_iload_n (M := mX1_numberOf) 2 dX1_numberOf_44 45 rfl rfl rfl ?_
          refine iv_iadd (M := mX1_numberOf) (X := v12.toInt) (Y := x1.toInt) dX1_numberOf_45 46 rfl rfl rfl (by omega) (by omega) (fun v13 ev13 => ?_)
          refine iv_iald (M := mX1_numberOf) (X := v13.toInt) (l1 := (-2147483648)) (l2 := 2147483647) dX1_numberOf_46 (tl103 hT) rfl (by omega) (by omega) I (fun _ => rfl) 47 rfl (fun v14 ev14 pv14 qv14 => ?_)
          refine pv_goto (M := mX1_numberOf) (tgt := 53) dX1_numberOf_47 (by decide) ?_
          exact pv_iret (M := mX1_numberOf) dX1_numberOf_53 rfl rfl ⟨_, rfl, rfl, (iv_rng v14).1, (iv_rng v14).2, trivial⟩

set_option maxHeartbeats 2000000 in
set_option maxRecDepth 20000 in
theorem s_X1_costOfAll (g : pv_G) {T : List mv_T} {m : Nat → Nat → Int32} {n : Nat → Nat → Int64} {r : Nat → Value} (hT : TX T) (I : IV BB m) : PM g mX1_costOfAll yX1_costOfAll (sqP (mk T m n r) (-2147483648) 2147483647 (fun v => True)) 1 0 0 [.ref 97] (mk T m n r) := by
  have Kp : fr (wl []) m m := fr.rf
  refine PM.of 2 (lo := [.ref 97, pv_U, pv_U]) rfl (by decide) rfl rfl (Nat.le_of_ble_eq_true rfl) ?_
  refine pv_iconst (M := mX1_costOfAll) (v := 0) dX1_costOfAll_0 1 rfl (by decide) ?_
  refine pv_istore_n (M := mX1_costOfAll) 1 (lo2 := [.ref 97, .int 0, pv_U]) dX1_costOfAll_1 2 rfl rfl (by decide) rfl rfl ?_
  refine pv_iconst (M := mX1_costOfAll) (v := 0) dX1_costOfAll_2 3 rfl (by decide) ?_
  refine pv_istore_n (M := mX1_costOfAll) 2 (lo2 := [.ref 97, .int 0, .int 0]) dX1_costOfAll_3 4 rfl rfl (by decide) rfl rfl ?_
  have lp8 : ∀ (fuel7 : Nat) (y1 : Int32) (y2 : Int32), (0 ≤ y2.toInt) → (y2.toInt ≤ 60) → ((60 - y2.toInt) : Int).toNat < fuel7 → PV none g mX1_costOfAll (sqP (mk T m n r) (-2147483648) 2147483647 (fun v => True)) 1 0 0 4 [.ref 97, .int y1, .int y2] [] (mk T m n r) := by
    intro fuel7
    induction fuel7 with
    | zero => intro y1 y2 b10 b11 z12; omega
    | succ fuel7 ih9 =>
      intro y1 y2 b10 b11 z12
      refine pv_iload_n (M := mX1_costOfAll) 2 dX1_costOfAll_4 5 rfl rfl rfl ?_
      refine pv_aload_n (M := mX1_costOfAll) 0 dX1_costOfAll_5 6 rfl rfl rfl ?_
      refine iv_get (M := mX1_costOfAll) (l1 := 0) (l2 := 60) dX1_costOfAll_6 FX1 6 wd309 (by decide) (tl97 hT) rfl I rfl 9 rfl (fun v13 ev13 pv13 qv13 => ?_)
      refine pv_icmp_ge (M := mX1_costOfAll) (tgt := 27) dX1_costOfAll_9 12 rfl (by decide) (fun c14 => ?_) (fun c14 => ?_)
      · have c14 := iv_le (X := v13.toInt) (Y := y2.toInt) c14 rfl rfl
        refine pv_iload_n (M := mX1_costOfAll) 1 dX1_costOfAll_27 28 rfl rfl rfl ?_
        exact pv_iret (M := mX1_costOfAll) dX1_costOfAll_28 rfl rfl ⟨_, rfl, rfl, (iv_rng y1).1, (iv_rng y1).2, trivial⟩
      · have c14 := iv_nle (X := v13.toInt) (Y := y2.toInt) c14 rfl rfl
        refine pv_iload_n (M := mX1_costOfAll) 1 dX1_costOfAll_12 13 rfl rfl rfl ?_
        refine pv_aload_n (M := mX1_costOfAll) 0 dX1_costOfAll_13 14 rfl rfl rfl ?_
        refine mv_get (M := mX1_costOfAll) (v := .ref 101) dX1_costOfAll_14 FX1 3 wd305 (by decide) (tl97 hT) rfl rfl 17 rfl ?_
        refine pv_iload_n (M := mX1_costOfAll) 2 dX1_costOfAll_17 18 rfl rfl rfl ?_
        refine iv_iald (M := mX1_costOfAll) (X := y2.toInt) (l1 := (-2147483648)) (l2 := 2147483647) dX1_costOfAll_18 (tl101 hT) rfl (by omega) (by omega) I (fun _ => rfl) 19 rfl (fun v15 ev15 pv15 qv15 => ?_)
        refine iv_addU (M := mX1_costOfAll) dX1_costOfAll_19 20 rfl (fun v16 ev16 => ?_)
        refine pv_istore_n (M := mX1_costOfAll) 1 (lo2 := [.ref 97, .int v16, .int y2]) dX1_costOfAll_20 21 rfl rfl (by decide) rfl rfl ?_
        refine iv_inc (M := mX1_costOfAll) (C := 1) dX1_costOfAll_21 24 rfl rfl (by decide) rfl rfl (by decide) (by omega) (by omega) (fun v17 ev17 => ?_)
        show PV _ _ _ _ _ _ _ 24 [.ref 97, .int v16, .int v17] [] _
        refine pv_goto (M := mX1_costOfAll) (tgt := 4) dX1_costOfAll_24 (by decide) ?_
        exact ih9 v16 v17 (by first | omega | assumption | exact (iv_rng _).2 | exact (iv_rng _).1 | decide) (by first | omega | assumption | exact (iv_rng _).2 | exact (iv_rng _).1 | decide) (by omega)
  have z18 : (0 : Int32).toInt = 0 := by decide
  have z19 : (0 : Int32).toInt = 0 := by decide
  exact lp8 (((60 - 0) : Int).toNat + 1) 0 0 (by first | omega | assumption | exact (iv_rng _).2 | exact (iv_rng _).1 | decide) (by first | omega | assumption | exact (iv_rng _).2 | exact (iv_rng _).1 | decide) (by omega)

set_option maxHeartbeats 2000000 in
set_option maxRecDepth 20000 in
theorem s_X1_tell (g : pv_G) {T : List mv_T} {m : Nat → Nat → Int32} {n : Nat → Nat → Int64} {r : Nat → Value} (hT : TX T) (I : IV BB m) (x0 : Int32) (x1 : Int32) : PM g mX1_tell yX1_tell (sqP (mk T m n r) (-2147483648) 2147483647 (fun v => True)) 2 0 0 [.ref 97, .int x0, .int x1] (mk T m n r) := by
  have Kp : fr (wl []) m m := fr.rf
  refine PM.of 0 (lo := [.ref 97, .int x0, .int x1]) rfl (by decide) rfl rfl (Nat.le_of_ble_eq_true rfl) ?_
  refine pv_iload_n (M := mX1_tell) 1 dX1_tell_0 1 rfl rfl rfl ?_
  refine pv_if_lt (M := mX1_tell) (tgt := 12) dX1_tell_1 4 rfl (by decide) (fun c1 => ?_) (fun c1 => ?_)
  · have c1 := iv_lt (X := x0.toInt) (Y := 0) c1 rfl (by decide)
    refine pv_sipush (M := mX1_tell) (v := (-1000)) dX1_tell_12 15 rfl (by decide) ?_
    exact pv_iret (M := mX1_tell) dX1_tell_15 rfl rfl ⟨_, rfl, rfl, by decide, by decide, trivial⟩
  · have c1 := iv_nlt (X := x0.toInt) (Y := 0) c1 rfl (by decide)
    refine pv_iload_n (M := mX1_tell) 1 dX1_tell_4 5 rfl rfl rfl ?_
    refine pv_aload_n (M := mX1_tell) 0 dX1_tell_5 6 rfl rfl rfl ?_
    refine iv_get (M := mX1_tell) (l1 := 0) (l2 := 60) dX1_tell_6 FX1 6 wd309 (by decide) (tl97 hT) rfl I rfl 9 rfl (fun v2 ev2 pv2 qv2 => ?_)
    refine pv_icmp_lt (M := mX1_tell) (tgt := 16) dX1_tell_9 12 rfl (by decide) (fun c3 => ?_) (fun c3 => ?_)
    · have c3 := iv_lt (X := x0.toInt) (Y := v2.toInt) c3 rfl rfl
      refine pv_iload_n (M := mX1_tell) 2 dX1_tell_16 17 rfl rfl rfl ?_
      by_cases c4 : x1.toInt = 0
      · refine iv_tabIn (M := mX1_tell) (X := 0) (off := 35) (tgt := 52) dX1_tell_17 c4 (by decide) (by decide) (by decide) (by decide) ?_
        refine pv_aload_n (M := mX1_tell) 0 dX1_tell_52 53 rfl rfl rfl ?_
        refine mv_get (M := mX1_tell) (v := .ref 98) dX1_tell_53 FX1 0 wd302 (by decide) (tl97 hT) rfl rfl 56 rfl ?_
        refine pv_iload_n (M := mX1_tell) 1 dX1_tell_56 57 rfl rfl rfl ?_
        refine iv_iald (M := mX1_tell) (X := x0.toInt) (l1 := (-2147483648)) (l2 := 2147483647) dX1_tell_57 (tl98 hT) rfl (by omega) (by omega) I (fun _ => rfl) 58 rfl (fun v5 ev5 pv5 qv5 => ?_)
        exact pv_iret (M := mX1_tell) dX1_tell_58 rfl rfl ⟨_, rfl, rfl, (iv_rng v5).1, (iv_rng v5).2, trivial⟩
      by_cases c6 : x1.toInt = 1
      · refine iv_tabIn (M := mX1_tell) (X := 1) (off := 42) (tgt := 59) dX1_tell_17 c6 (by decide) (by decide) (by decide) (by decide) ?_
        refine pv_aload_n (M := mX1_tell) 0 dX1_tell_59 60 rfl rfl rfl ?_
        refine mv_get (M := mX1_tell) (v := .ref 99) dX1_tell_60 FX1 1 wd303 (by decide) (tl97 hT) rfl rfl 63 rfl ?_
        refine pv_iload_n (M := mX1_tell) 1 dX1_tell_63 64 rfl rfl rfl ?_
        refine iv_iald (M := mX1_tell) (X := x0.toInt) (l1 := (-2147483648)) (l2 := 2147483647) dX1_tell_64 (tl99 hT) rfl (by omega) (by omega) I (fun _ => rfl) 65 rfl (fun v7 ev7 pv7 qv7 => ?_)
        exact pv_iret (M := mX1_tell) dX1_tell_65 rfl rfl ⟨_, rfl, rfl, (iv_rng v7).1, (iv_rng v7).2, trivial⟩
      by_cases c8 : x1.toInt = 2
      · refine iv_tabIn (M := mX1_tell) (X := 2) (off := 49) (tgt := 66) dX1_tell_17 c8 (by decide) (by decide) (by decide) (by decide) ?_
        refine pv_aload_n (M := mX1_tell) 0 dX1_tell_66 67 rfl rfl rfl ?_
        refine mv_get (M := mX1_tell) (v := .ref 100) dX1_tell_67 FX1 2 wd304 (by decide) (tl97 hT) rfl rfl 70 rfl ?_
        refine pv_iload_n (M := mX1_tell) 1 dX1_tell_70 71 rfl rfl rfl ?_
        refine iv_iald (M := mX1_tell) (X := x0.toInt) (l1 := (-2147483648)) (l2 := 2147483647) dX1_tell_71 (tl100 hT) rfl (by omega) (by omega) I (fun _ => rfl) 72 rfl (fun v9 ev9 pv9 qv9 => ?_)
        exact pv_iret (M := mX1_tell) dX1_tell_72 rfl rfl ⟨_, rfl, rfl, (iv_rng v9).1, (iv_rng v9).2, trivial⟩
      by_cases c10 : x1.toInt = 3
      · refine iv_tabIn (M := mX1_tell) (X := 3) (off := 56) (tgt := 73) dX1_tell_17 c10 (by decide) (by decide) (by decide) (by decide) ?_
        refine pv_aload_n (M := mX1_tell) 0 dX1_tell_73 74 rfl rfl rfl ?_
        refine mv_get (M := mX1_tell) (v := .ref 101) dX1_tell_74 FX1 3 wd305 (by decide) (tl97 hT) rfl rfl 77 rfl ?_
        refine pv_iload_n (M := mX1_tell) 1 dX1_tell_77 78 rfl rfl rfl ?_
        refine iv_iald (M := mX1_tell) (X := x0.toInt) (l1 := (-2147483648)) (l2 := 2147483647) dX1_tell_78 (tl101 hT) rfl (by omega) (by omega) I (fun _ => rfl) 79 rfl (fun v11 ev11 pv11 qv11 => ?_)
        exact pv_iret (M := mX1_tell) dX1_tell_79 rfl rfl ⟨_, rfl, rfl, (iv_rng v11).1, (iv_rng v11).2, trivial⟩
      by_cases c12 : x1.toInt = 4
      · refine iv_tabIn (M := mX1_tell) (X := 4) (off := 63) (tgt := 80) dX1_tell_17 c12 (by decide) (by decide) (by decide) (by decide) ?_
        refine pv_aload_n (M := mX1_tell) 0 dX1_tell_80 81 rfl rfl rfl ?_
        refine mv_get (M := mX1_tell) (v := .ref 102) dX1_tell_81 FX1 4 wd306 (by decide) (tl97 hT) rfl rfl 84 rfl ?_
        refine pv_iload_n (M := mX1_tell) 1 dX1_tell_84 85 rfl rfl rfl ?_
        refine iv_iald (M := mX1_tell) (X := x0.toInt) (l1 := 0) (l2 := 9) dX1_tell_85 (tl102 hT) rfl (by omega) (by omega) I (fun _ => rfl) 86 rfl (fun v13 ev13 pv13 qv13 => ?_)
        exact pv_iret (M := mX1_tell) dX1_tell_86 rfl rfl ⟨_, rfl, rfl, (iv_rng v13).1, (iv_rng v13).2, trivial⟩
      refine pv_tableOut (M := mX1_tell) (tgt := 87) dX1_tell_17 (by omega) (by decide) ?_
      refine pv_iload_n (M := mX1_tell) 2 dX1_tell_87 88 rfl rfl rfl ?_
      refine pv_bipush (M := mX1_tell) (v := 10) dX1_tell_88 90 rfl (by decide) ?_
      refine pv_icmp_ge (M := mX1_tell) (tgt := 99) dX1_tell_90 93 rfl (by decide) (fun c14 => ?_) (fun c14 => ?_)
      · have c14 := iv_le (X := 10) (Y := x1.toInt) c14 (by decide) rfl
        refine pv_aload_n (M := mX1_tell) 0 dX1_tell_99 100 rfl rfl rfl ?_
        refine pv_iload_n (M := mX1_tell) 1 dX1_tell_100 101 rfl rfl rfl ?_
        refine pv_iload_n (M := mX1_tell) 2 dX1_tell_101 102 rfl rfl rfl ?_
        refine pv_bipush (M := mX1_tell) (v := 10) dX1_tell_102 104 rfl (by decide) ?_
        have z16 := iv_rng x1
        refine iv_isub (M := mX1_tell) (X := x1.toInt) (Y := 10) dX1_tell_104 105 rfl rfl (by decide) (by omega) (by omega) (fun v15 ev15 => ?_)
        refine pv_callv (M := mX1_tell) (as := [.int x0, .int v15]) (st := []) (kc2 := 0) (ks2 := 0) dX1_tell_105 wd823 YX1_numberOf ⟨wd803, wd804⟩ (mk_get (tl97 hT)) rfl rfl (s_X1_numberOf g hT I x0 v15) rfl rfl (Nat.le_of_ble_eq_true rfl) (by decide) rfl rfl 108 rfl (fun rv h1 q17 => ?_)
        obtain ⟨v18, rfl, rfl, pv18, qv18, rv18⟩ := q17
        show PV _ _ _ _ _ _ _ 108 [.ref 97, .int x0, .int x1] [.int v18] _
        exact pv_iret (M := mX1_tell) dX1_tell_108 rfl rfl ⟨_, rfl, rfl, (iv_rng v18).1, (iv_rng v18).2, trivial⟩
      · have c14 := iv_nle (X := 10) (Y := x1.toInt) c14 (by decide) rfl
        refine pv_sipush (M := mX1_tell) (v := (-1000)) dX1_tell_93 96 rfl (by decide) ?_
        refine pv_goto (M := mX1_tell) (tgt := 108) dX1_tell_96 (by decide) ?_
        exact pv_iret (M := mX1_tell) dX1_tell_108 rfl rfl ⟨_, rfl, rfl, by decide, by decide, trivial⟩
    · have c3 := iv_nlt (X := x0.toInt) (Y := v2.toInt) c3 rfl rfl
      refine pv_sipush (M := mX1_tell) (v := (-1000)) dX1_tell_12 15 rfl (by decide) ?_
      exact pv_iret (M := mX1_tell) dX1_tell_15 rfl rfl ⟨_, rfl, rfl, by decide, by decide, trivial⟩

set_option maxHeartbeats 2000000 in
set_option maxRecDepth 20000 in
theorem s_X6_push (g : pv_G) {T : List mv_T} {m : Nat → Nat → Int32} {n : Nat → Nat → Int64} {r : Nat → Value} (hT : TX T) (I : IV BB m) (aT : Nat) (haT : LawAt T aT) (x0 : Int32) : PM g mX6_push yX6_push (sqV T BB (wsL aT) r m (fun m' => True)) 1 0 0 [.ref aT, .int x0] (mk T m n r) := by
  have Kp : fr (wsL aT) m m := fr.rf
  have zwT := haT.1
  refine PM.of 0 (lo := [.ref aT, .int x0]) rfl (by decide) rfl rfl (Nat.le_of_ble_eq_true rfl) ?_
  refine pv_aload_n (M := mX6_push) 0 dX6_push_0 1 rfl rfl rfl ?_
  refine iv_get (M := mX6_push) (l1 := 0) (l2 := 32) dX6_push_1 FX6 10 wd245 (by decide) haT.2.1 rfl I (law_b10 haT) 4 rfl (fun v1 ev1 pv1 qv1 => ?_)
  have wv1 : v1.toInt = (m aT 10).toInt := congrArg Int32.toInt ev1
  refine pv_bipush (M := mX6_push) (v := 32) dX6_push_4 6 rfl (by decide) ?_
  refine pv_icmp_ge (M := mX6_push) (tgt := 29) dX6_push_6 9 rfl (by decide) (fun c2 => ?_) (fun c2 => ?_)
  · have c2 := iv_le (X := 32) (Y := v1.toInt) c2 (by decide) rfl
    exact pv_vret (M := mX6_push) dX6_push_29 rfl ⟨_, _, rfl, rfl, I, Kp, trivial⟩
  · have c2 := iv_nle (X := 32) (Y := v1.toInt) c2 (by decide) rfl
    refine pv_aload_n (M := mX6_push) 0 dX6_push_9 10 rfl rfl rfl ?_
    refine mv_get (M := mX6_push) (v := .ref (aT + 8)) dX6_push_10 FX6 9 wd244 (by decide) haT.2.1 rfl rfl 13 rfl ?_
    refine pv_aload_n (M := mX6_push) 0 dX6_push_13 14 rfl rfl rfl ?_
    refine iv_get (M := mX6_push) (l1 := 0) (l2 := 32) dX6_push_14 FX6 10 wd245 (by decide) haT.2.1 rfl I (law_b10 haT) 17 rfl (fun v3 ev3 pv3 qv3 => ?_)
    have wv3 : v3.toInt = (m aT 10).toInt := congrArg Int32.toInt ev3
    refine pv_iload_n (M := mX6_push) 1 dX6_push_17 18 rfl rfl rfl ?_
    refine iv_iast (M := mX6_push) (X := v3.toInt) (l1 := (-2147483648)) (l2 := 2147483647) dX6_push_18 (law_a8 haT) rfl (by omega) (by omega) I (law_c8 haT) (iv_rng x0).1 (iv_rng x0).2 19 rfl (fun m4 e7 I5 => ?_)
    have K6 := Kp.set e7 (by first | exact wsL_10 | exact wsL_11 | exact wsL_8)
    have w8 : (m4 aT 10).toInt = (m aT 10).toInt := by rw [e7, up2_ne (by omega)]
    refine pv_aload_n (M := mX6_push) 0 dX6_push_19 20 rfl rfl rfl ?_
    refine pv_dup (M := mX6_push) dX6_push_20 21 rfl rfl ?_
    refine iv_get (M := mX6_push) (l1 := 0) (l2 := 32) dX6_push_21 FX6 10 wd245 (by decide) haT.2.1 rfl I5 (law_b10 haT) 24 rfl (fun v9 ev9 pv9 qv9 => ?_)
    have wv9 : v9.toInt = (m4 aT 10).toInt := congrArg Int32.toInt ev9
    refine pv_iconst (M := mX6_push) (v := 1) dX6_push_24 25 rfl (by decide) ?_
    refine iv_iadd (M := mX6_push) (X := v9.toInt) (Y := 1) dX6_push_25 26 rfl rfl (by decide) (by omega) (by omega) (fun v10 ev10 => ?_)
    refine iv_put (M := mX6_push) (l1 := 0) (l2 := 32) dX6_push_26 FX6 10 wd245 (by decide) rfl haT.2.1 rfl rfl rfl I5 (law_b10 haT) (by omega) (by omega) 29 rfl (fun m11 e14 I12 => ?_)
    have K13 := K6.set e14 (by first | exact wsL_10 | exact wsL_11 | exact wsL_8)
    have w15 : (m11 aT 10).toInt = v10.toInt := by rw [e14, up2_eq]
    exact pv_vret (M := mX6_push) dX6_push_29 rfl ⟨_, _, rfl, rfl, I12, K13, trivial⟩

set_option maxHeartbeats 2000000 in
set_option maxRecDepth 20000 in
theorem s_X6_pop (g : pv_G) {T : List mv_T} {m : Nat → Nat → Int32} {n : Nat → Nat → Int64} {r : Nat → Value} (hT : TX T) (I : IV BB m) (aT : Nat) (haT : LawAt T aT) : PM g mX6_pop yX6_pop (sqI T BB (wsL aT) r m (-2147483648) 2147483647 (fun m' v => True)) 1 0 0 [.ref aT] (mk T m n r) := by
  have Kp : fr (wsL aT) m m := fr.rf
  have zwT := haT.1
  refine PM.of 0 (lo := [.ref aT]) rfl (by decide) rfl rfl (Nat.le_of_ble_eq_true rfl) ?_
  refine pv_aload_n (M := mX6_pop) 0 dX6_pop_0 1 rfl rfl rfl ?_
  refine iv_get (M := mX6_pop) (l1 := 0) (l2 := 32) dX6_pop_1 FX6 10 wd245 (by decide) haT.2.1 rfl I (law_b10 haT) 4 rfl (fun v1 ev1 pv1 qv1 => ?_)
  have wv1 : v1.toInt = (m aT 10).toInt := congrArg Int32.toInt ev1
  refine pv_if_ne (M := mX6_pop) (tgt := 9) dX6_pop_4 7 rfl (by decide) (fun c2 => ?_) (fun c2 => ?_)
  · have c2 := iv_ne (X := v1.toInt) (Y := 0) c2 rfl (by decide)
    refine pv_aload_n (M := mX6_pop) 0 dX6_pop_9 10 rfl rfl rfl ?_
    refine pv_dup (M := mX6_pop) dX6_pop_10 11 rfl rfl ?_
    refine iv_get (M := mX6_pop) (l1 := 0) (l2 := 32) dX6_pop_11 FX6 10 wd245 (by decide) haT.2.1 rfl I (law_b10 haT) 14 rfl (fun v3 ev3 pv3 qv3 => ?_)
    have wv3 : v3.toInt = (m aT 10).toInt := congrArg Int32.toInt ev3
    refine pv_iconst (M := mX6_pop) (v := 1) dX6_pop_14 15 rfl (by decide) ?_
    refine iv_isub (M := mX6_pop) (X := v3.toInt) (Y := 1) dX6_pop_15 16 rfl rfl (by decide) (by omega) (by omega) (fun v4 ev4 => ?_)
    refine iv_put (M := mX6_pop) (l1 := 0) (l2 := 32) dX6_pop_16 FX6 10 wd245 (by decide) rfl haT.2.1 rfl rfl rfl I (law_b10 haT) (by omega) (by omega) 19 rfl (fun m5 e8 I6 => ?_)
    have K7 := Kp.set e8 (by first | exact wsL_10 | exact wsL_11 | exact wsL_8)
    have w9 : (m5 aT 10).toInt = v4.toInt := by rw [e8, up2_eq]
    refine pv_aload_n (M := mX6_pop) 0 dX6_pop_19 20 rfl rfl rfl ?_
    refine mv_get (M := mX6_pop) (v := .ref (aT + 8)) dX6_pop_20 FX6 9 wd244 (by decide) haT.2.1 rfl rfl 23 rfl ?_
    refine pv_aload_n (M := mX6_pop) 0 dX6_pop_23 24 rfl rfl rfl ?_
    refine iv_get (M := mX6_pop) (l1 := 0) (l2 := 32) dX6_pop_24 FX6 10 wd245 (by decide) haT.2.1 rfl I6 (law_b10 haT) 27 rfl (fun v10 ev10 pv10 qv10 => ?_)
    have wv10 : v10.toInt = (m5 aT 10).toInt := congrArg Int32.toInt ev10
    refine iv_iald (M := mX6_pop) (X := v10.toInt) (l1 := (-2147483648)) (l2 := 2147483647) dX6_pop_27 (law_a8 haT) rfl (by omega) (by omega) I6 (law_c8 haT) 28 rfl (fun v11 ev11 pv11 qv11 => ?_)
    exact pv_iret (M := mX6_pop) dX6_pop_28 rfl rfl ⟨_, _, _, rfl, rfl, I6, K7, (iv_rng v11).1, (iv_rng v11).2, trivial⟩
  · have c2 := iv_eq (X := v1.toInt) (Y := 0) c2 rfl (by decide)
    refine pv_iconst (M := mX6_pop) (v := 0) dX6_pop_7 8 rfl (by decide) ?_
    exact pv_iret (M := mX6_pop) dX6_pop_8 rfl rfl ⟨_, _, _, rfl, rfl, I, Kp, by decide, by decide, trivial⟩

set_option maxHeartbeats 2000000 in
set_option maxRecDepth 20000 in
theorem s_X6_join (g : pv_G) {T : List mv_T} {m : Nat → Nat → Int32} {n : Nat → Nat → Int64} {r : Nat → Value} (hT : TX T) (I : IV BB m) (x0 : Int32) (x1 : Int32) (x2 : Int32) : PM g mX6_join yX6_join (sqP (mk T m n r) (-2147483648) 2147483647 (fun v => True)) 1 0 0 [.int x0, .int x1, .int x2] (mk T m n r) := by
  have Kp : fr (wl []) m m := fr.rf
  refine PM.of 0 (lo := [.int x0, .int x1, .int x2]) rfl (by decide) rfl rfl (Nat.le_of_ble_eq_true rfl) ?_
  refine pv_iload_n (M := mX6_join) 0 dX6_join_0 1 rfl rfl rfl ?_
  by_cases c1 : x0.toInt = 37
  · refine iv_lk (M := mX6_join) (X := 37) (off := 91) (tgt := 92) dX6_join_1 (by decide) c1 (by decide) (by decide) ?_
    refine pv_iload_n (M := mX6_join) 2 dX6_join_92 93 rfl rfl rfl ?_
    refine pv_if_ne (M := mX6_join) (tgt := 100) dX6_join_93 96 rfl (by decide) (fun c2 => ?_) (fun c2 => ?_)
    · have c2 := iv_ne (X := x2.toInt) (Y := 0) c2 rfl (by decide)
      refine pv_iload_n (M := mX6_join) 1 dX6_join_100 101 rfl rfl rfl ?_
      refine pv_iload_n (M := mX6_join) 2 dX6_join_101 102 rfl rfl rfl ?_
      refine iv_remU (M := mX6_join) (Y := x2.toInt) dX6_join_102 103 rfl rfl (by omega) (fun v3 ev3 => ?_)
      exact pv_iret (M := mX6_join) dX6_join_103 rfl rfl ⟨_, rfl, rfl, (iv_rng v3).1, (iv_rng v3).2, trivial⟩
    · have c2 := iv_eq (X := x2.toInt) (Y := 0) c2 rfl (by decide)
      refine pv_iconst (M := mX6_join) (v := 0) dX6_join_96 97 rfl (by decide) ?_
      refine pv_goto (M := mX6_join) (tgt := 103) dX6_join_97 (by decide) ?_
      exact pv_iret (M := mX6_join) dX6_join_103 rfl rfl ⟨_, rfl, rfl, by decide, by decide, trivial⟩
  by_cases c4 : x0.toInt = 42
  · refine iv_lk (M := mX6_join) (X := 42) (off := 75) (tgt := 76) dX6_join_1 (by decide) c4 (by decide) (by decide) ?_
    refine pv_iload_n (M := mX6_join) 1 dX6_join_76 77 rfl rfl rfl ?_
    refine pv_iload_n (M := mX6_join) 2 dX6_join_77 78 rfl rfl rfl ?_
    refine iv_mulU (M := mX6_join) dX6_join_78 79 rfl (fun v5 ev5 => ?_)
    exact pv_iret (M := mX6_join) dX6_join_79 rfl rfl ⟨_, rfl, rfl, (iv_rng v5).1, (iv_rng v5).2, trivial⟩
  by_cases c6 : x0.toInt = 43
  · refine iv_lk (M := mX6_join) (X := 43) (off := 67) (tgt := 68) dX6_join_1 (by decide) c6 (by decide) (by decide) ?_
    refine pv_iload_n (M := mX6_join) 1 dX6_join_68 69 rfl rfl rfl ?_
    refine pv_iload_n (M := mX6_join) 2 dX6_join_69 70 rfl rfl rfl ?_
    refine iv_addU (M := mX6_join) dX6_join_70 71 rfl (fun v7 ev7 => ?_)
    exact pv_iret (M := mX6_join) dX6_join_71 rfl rfl ⟨_, rfl, rfl, (iv_rng v7).1, (iv_rng v7).2, trivial⟩
  by_cases c8 : x0.toInt = 45
  · refine iv_lk (M := mX6_join) (X := 45) (off := 71) (tgt := 72) dX6_join_1 (by decide) c8 (by decide) (by decide) ?_
    refine pv_iload_n (M := mX6_join) 1 dX6_join_72 73 rfl rfl rfl ?_
    refine pv_iload_n (M := mX6_join) 2 dX6_join_73 74 rfl rfl rfl ?_
    refine iv_subU (M := mX6_join) dX6_join_74 75 rfl (fun v9 ev9 => ?_)
    exact pv_iret (M := mX6_join) dX6_join_75 rfl rfl ⟨_, rfl, rfl, (iv_rng v9).1, (iv_rng v9).2, trivial⟩
  by_cases c10 : x0.toInt = 47
  · refine iv_lk (M := mX6_join) (X := 47) (off := 79) (tgt := 80) dX6_join_1 (by decide) c10 (by decide) (by decide) ?_
    refine pv_iload_n (M := mX6_join) 2 dX6_join_80 81 rfl rfl rfl ?_
    refine pv_if_ne (M := mX6_join) (tgt := 88) dX6_join_81 84 rfl (by decide) (fun c11 => ?_) (fun c11 => ?_)
    · have c11 := iv_ne (X := x2.toInt) (Y := 0) c11 rfl (by decide)
      refine pv_iload_n (M := mX6_join) 1 dX6_join_88 89 rfl rfl rfl ?_
      refine pv_iload_n (M := mX6_join) 2 dX6_join_89 90 rfl rfl rfl ?_
      refine iv_divU (M := mX6_join) (Y := x2.toInt) dX6_join_90 91 rfl rfl (by omega) (fun v12 ev12 => ?_)
      exact pv_iret (M := mX6_join) dX6_join_91 rfl rfl ⟨_, rfl, rfl, (iv_rng v12).1, (iv_rng v12).2, trivial⟩
    · have c11 := iv_eq (X := x2.toInt) (Y := 0) c11 rfl (by decide)
      refine pv_iconst (M := mX6_join) (v := 0) dX6_join_84 85 rfl (by decide) ?_
      refine pv_goto (M := mX6_join) (tgt := 91) dX6_join_85 (by decide) ?_
      exact pv_iret (M := mX6_join) dX6_join_91 rfl rfl ⟨_, rfl, rfl, by decide, by decide, trivial⟩
  by_cases c13 : x0.toInt = 60
  · refine iv_lk (M := mX6_join) (X := 60) (off := 103) (tgt := 104) dX6_join_1 (by decide) c13 (by decide) (by decide) ?_
    refine pv_iload_n (M := mX6_join) 1 dX6_join_104 105 rfl rfl rfl ?_
    refine pv_iload_n (M := mX6_join) 2 dX6_join_105 106 rfl rfl rfl ?_
    refine pv_icmp_ge (M := mX6_join) (tgt := 113) dX6_join_106 109 rfl (by decide) (fun c14 => ?_) (fun c14 => ?_)
    · have c14 := iv_le (X := x2.toInt) (Y := x1.toInt) c14 rfl rfl
      refine pv_iconst (M := mX6_join) (v := 0) dX6_join_113 114 rfl (by decide) ?_
      exact pv_iret (M := mX6_join) dX6_join_114 rfl rfl ⟨_, rfl, rfl, by decide, by decide, trivial⟩
    · have c14 := iv_nle (X := x2.toInt) (Y := x1.toInt) c14 rfl rfl
      refine pv_iconst (M := mX6_join) (v := 1) dX6_join_109 110 rfl (by decide) ?_
      refine pv_goto (M := mX6_join) (tgt := 114) dX6_join_110 (by decide) ?_
      exact pv_iret (M := mX6_join) dX6_join_114 rfl rfl ⟨_, rfl, rfl, by decide, by decide, trivial⟩
  by_cases c15 : x0.toInt = 62
  · refine iv_lk (M := mX6_join) (X := 62) (off := 114) (tgt := 115) dX6_join_1 (by decide) c15 (by decide) (by decide) ?_
    refine pv_iload_n (M := mX6_join) 1 dX6_join_115 116 rfl rfl rfl ?_
    refine pv_iload_n (M := mX6_join) 2 dX6_join_116 117 rfl rfl rfl ?_
    refine pv_icmp_le (M := mX6_join) (tgt := 124) dX6_join_117 120 rfl (by decide) (fun c16 => ?_) (fun c16 => ?_)
    · have c16 := iv_le (X := x1.toInt) (Y := x2.toInt) c16 rfl rfl
      refine pv_iconst (M := mX6_join) (v := 0) dX6_join_124 125 rfl (by decide) ?_
      exact pv_iret (M := mX6_join) dX6_join_125 rfl rfl ⟨_, rfl, rfl, by decide, by decide, trivial⟩
    · have c16 := iv_nle (X := x1.toInt) (Y := x2.toInt) c16 rfl rfl
      refine pv_iconst (M := mX6_join) (v := 1) dX6_join_120 121 rfl (by decide) ?_
      refine pv_goto (M := mX6_join) (tgt := 125) dX6_join_121 (by decide) ?_
      exact pv_iret (M := mX6_join) dX6_join_125 rfl rfl ⟨_, rfl, rfl, by decide, by decide, trivial⟩
  refine pv_lookup (M := mX6_join) (off := 125) (tgt := 126) dX6_join_1 (by decide) (by simp only [Op.lookupswitch.offset]; repeat (rw [if_neg (by omega)])) (by decide) ?_
  refine pv_iload_n (M := mX6_join) 1 dX6_join_126 127 rfl rfl rfl ?_
  refine pv_iload_n (M := mX6_join) 2 dX6_join_127 128 rfl rfl rfl ?_
  refine pv_icmp_ne (M := mX6_join) (tgt := 135) dX6_join_128 131 rfl (by decide) (fun c17 => ?_) (fun c17 => ?_)
  · have c17 := iv_ne (X := x1.toInt) (Y := x2.toInt) c17 rfl rfl
    refine pv_iconst (M := mX6_join) (v := 0) dX6_join_135 136 rfl (by decide) ?_
    exact pv_iret (M := mX6_join) dX6_join_136 rfl rfl ⟨_, rfl, rfl, by decide, by decide, trivial⟩
  · have c17 := iv_eq (X := x1.toInt) (Y := x2.toInt) c17 rfl rfl
    refine pv_iconst (M := mX6_join) (v := 1) dX6_join_131 132 rfl (by decide) ?_
    refine pv_goto (M := mX6_join) (tgt := 136) dX6_join_132 (by decide) ?_
    exact pv_iret (M := mX6_join) dX6_join_136 rfl rfl ⟨_, rfl, rfl, by decide, by decide, trivial⟩

set_option maxHeartbeats 2000000 in
set_option maxRecDepth 20000 in
theorem s_X6_takeStep (g : pv_G) {T : List mv_T} {m : Nat → Nat → Int32} {n : Nat → Nat → Int64} {r : Nat → Value} (hT : TX T) (I : IV BB m) (aT : Nat) (haT : LawAt T aT) (x0 : Int32) (x1 : Int32) : PM g mX6_takeStep yX6_takeStep (sqV T BB (wsL aT) r m (fun m' => True)) 2 0 0 [.ref aT, .int x0, .int x1] (mk T m n r) := by
  have Kp : fr (wsL aT) m m := fr.rf
  have zwT := haT.1
  refine PM.of 1 (lo := [.ref aT, .int x0, .int x1, pv_U]) rfl (by decide) rfl rfl (Nat.le_of_ble_eq_true rfl) ?_
  refine pv_iload_n (M := mX6_takeStep) 1 dX6_takeStep_0 1 rfl rfl rfl ?_
  refine pv_bipush (M := mX6_takeStep) (v := 35) dX6_takeStep_1 3 rfl (by decide) ?_
  refine pv_icmp_ne (M := mX6_takeStep) (tgt := 14) dX6_takeStep_3 6 rfl (by decide) (fun c1 => ?_) (fun c1 => ?_)
  · have c1 := iv_ne (X := x0.toInt) (Y := 35) c1 rfl (by decide)
    refine pv_iload_n (M := mX6_takeStep) 1 dX6_takeStep_14 15 rfl rfl rfl ?_
    refine pv_bipush (M := mX6_takeStep) (v := 36) dX6_takeStep_15 17 rfl (by decide) ?_
    refine pv_icmp_ne (M := mX6_takeStep) (tgt := 50) dX6_takeStep_17 20 rfl (by decide) (fun c2 => ?_) (fun c2 => ?_)
    · have c2 := iv_ne (X := x0.toInt) (Y := 36) c2 rfl (by decide)
      refine pv_iload_n (M := mX6_takeStep) 1 dX6_takeStep_50 51 rfl rfl rfl ?_
      refine pv_bipush (M := mX6_takeStep) (v := 33) dX6_takeStep_51 53 rfl (by decide) ?_
      refine pv_icmp_ne (M := mX6_takeStep) (tgt := 75) dX6_takeStep_53 56 rfl (by decide) (fun c3 => ?_) (fun c3 => ?_)
      · have c3 := iv_ne (X := x0.toInt) (Y := 33) c3 rfl (by decide)
        refine pv_aload_n (M := mX6_takeStep) 0 dX6_takeStep_75 76 rfl rfl rfl ?_
        refine pv_callv (M := mX6_takeStep) (as := []) (st := []) (kc2 := 0) (ks2 := 0) dX6_takeStep_76 wd749 YX6_pop ⟨wd751, wd20⟩ (mk_get haT.2.1) rfl rfl (s_X6_pop g hT I aT haT) rfl rfl (Nat.le_of_ble_eq_true rfl) (by decide) rfl rfl 79 rfl (fun rv h1 q4 => ?_)
        obtain ⟨m5, n6, v9, rfl, rfl, I7, K8, pv9, qv9, rv9⟩ := q4
        have K8c := K8
        have K8 := Kp.trans (K8.sub (fun _ _ q => q))
        show PV _ _ _ _ _ _ _ 79 [.ref aT, .int x0, .int x1, pv_U] [.int v9] _
        refine pv_istore_n (M := mX6_takeStep) 3 (lo2 := [.ref aT, .int x0, .int x1, .int v9]) dX6_takeStep_79 80 rfl rfl (by decide) rfl rfl ?_
        refine pv_aload_n (M := mX6_takeStep) 0 dX6_takeStep_80 81 rfl rfl rfl ?_
        refine pv_iload_n (M := mX6_takeStep) 3 dX6_takeStep_81 82 rfl rfl rfl ?_
        refine pv_if_ne (M := mX6_takeStep) (tgt := 101) dX6_takeStep_82 85 rfl (by decide) (fun c10 => ?_) (fun c10 => ?_)
        · have c10 := iv_ne (X := v9.toInt) (Y := 0) c10 rfl (by decide)
          refine pv_iconst (M := mX6_takeStep) (v := 0) dX6_takeStep_101 102 rfl (by decide) ?_
          refine iv_put (M := mX6_takeStep) (l1 := 0) (l2 := 1) dX6_takeStep_102 FX6 11 wd246 (by decide) rfl haT.2.1 rfl rfl rfl I7 (law_b11 haT) (by decide) (by decide) 105 rfl (fun m11 e14 I12 => ?_)
          have K13 := K8.set e14 (by first | exact wsL_10 | exact wsL_11 | exact wsL_8)
          refine pv_aload_n (M := mX6_takeStep) 0 dX6_takeStep_105 106 rfl rfl rfl ?_
          refine pv_iload_n (M := mX6_takeStep) 1 dX6_takeStep_106 107 rfl rfl rfl ?_
          refine pv_aload_n (M := mX6_takeStep) 0 dX6_takeStep_107 108 rfl rfl rfl ?_
          refine pv_callv (M := mX6_takeStep) (as := []) (st := [.int x0, .ref aT]) (kc2 := 0) (ks2 := 0) dX6_takeStep_108 wd749 YX6_pop ⟨wd751, wd20⟩ (mk_get haT.2.1) rfl rfl (s_X6_pop g hT I12 aT haT) rfl rfl (Nat.le_of_ble_eq_true rfl) (by decide) rfl rfl 111 rfl (fun rv h1 q15 => ?_)
          obtain ⟨m16, n17, v20, rfl, rfl, I18, K19, pv20, qv20, rv20⟩ := q15
          have K19c := K19
          have K19 := K13.trans (K19.sub (fun _ _ q => q))
          show PV _ _ _ _ _ _ _ 111 [.ref aT, .int x0, .int x1, .int v9] [.int v20, .int x0, .ref aT] _
          refine pv_iload_n (M := mX6_takeStep) 3 dX6_takeStep_111 112 rfl rfl rfl ?_
          refine pv_calls (M := mX6_takeStep) (as := [.int x0, .int v20, .int v9]) (st := [.ref aT]) (kc2 := 0) (ks2 := 0) dX6_takeStep_112 wd761 YX6_join wd762 (s_X6_join g hT I18 x0 v20 v9) rfl rfl (Nat.le_of_ble_eq_true rfl) (by decide) rfl rfl 115 rfl (fun rv h1 q21 => ?_)
          obtain ⟨v22, rfl, rfl, pv22, qv22, rv22⟩ := q21
          show PV _ _ _ _ _ _ _ 115 [.ref aT, .int x0, .int x1, .int v9] [.int v22, .ref aT] _
          refine pv_callv (M := mX6_takeStep) (as := [.int v22]) (st := []) (kc2 := 0) (ks2 := 0) dX6_takeStep_115 wd753 YX6_push ⟨wd755, wd21⟩ (mk_get haT.2.1) rfl rfl (s_X6_push g hT I18 aT haT v22) rfl rfl (Nat.le_of_ble_eq_true rfl) (by decide) rfl rfl 118 rfl (fun rv h1 q23 => ?_)
          obtain ⟨m24, n25, rfl, rfl, I26, K27, rm24⟩ := q23
          have K27c := K27
          have K27 := K19.trans (K27.sub (fun _ _ q => q))
          show PV _ _ _ _ _ _ _ 118 [.ref aT, .int x0, .int x1, .int v9] [] _
          exact pv_vret (M := mX6_takeStep) dX6_takeStep_118 rfl ⟨_, _, rfl, rfl, I26, K27, trivial⟩
        · have c10 := iv_eq (X := v9.toInt) (Y := 0) c10 rfl (by decide)
          refine pv_iload_n (M := mX6_takeStep) 1 dX6_takeStep_85 86 rfl rfl rfl ?_
          refine pv_bipush (M := mX6_takeStep) (v := 47) dX6_takeStep_86 88 rfl (by decide) ?_
          refine pv_icmp_eq (M := mX6_takeStep) (tgt := 97) dX6_takeStep_88 91 rfl (by decide) (fun c28 => ?_) (fun c28 => ?_)
          · have c28 := iv_eq (X := x0.toInt) (Y := 47) c28 rfl (by decide)
            refine pv_iconst (M := mX6_takeStep) (v := 1) dX6_takeStep_97 98 rfl (by decide) ?_
            refine pv_goto (M := mX6_takeStep) (tgt := 102) dX6_takeStep_98 (by decide) ?_
            refine iv_put (M := mX6_takeStep) (l1 := 0) (l2 := 1) dX6_takeStep_102 FX6 11 wd246 (by decide) rfl haT.2.1 rfl rfl rfl I7 (law_b11 haT) (by decide) (by decide) 105 rfl (fun m29 e32 I30 => ?_)
            have K31 := K8.set e32 (by first | exact wsL_10 | exact wsL_11 | exact wsL_8)
            refine pv_aload_n (M := mX6_takeStep) 0 dX6_takeStep_105 106 rfl rfl rfl ?_
            refine pv_iload_n (M := mX6_takeStep) 1 dX6_takeStep_106 107 rfl rfl rfl ?_
            refine pv_aload_n (M := mX6_takeStep) 0 dX6_takeStep_107 108 rfl rfl rfl ?_
            refine pv_callv (M := mX6_takeStep) (as := []) (st := [.int x0, .ref aT]) (kc2 := 0) (ks2 := 0) dX6_takeStep_108 wd749 YX6_pop ⟨wd751, wd20⟩ (mk_get haT.2.1) rfl rfl (s_X6_pop g hT I30 aT haT) rfl rfl (Nat.le_of_ble_eq_true rfl) (by decide) rfl rfl 111 rfl (fun rv h1 q33 => ?_)
            obtain ⟨m34, n35, v38, rfl, rfl, I36, K37, pv38, qv38, rv38⟩ := q33
            have K37c := K37
            have K37 := K31.trans (K37.sub (fun _ _ q => q))
            show PV _ _ _ _ _ _ _ 111 [.ref aT, .int x0, .int x1, .int v9] [.int v38, .int x0, .ref aT] _
            refine pv_iload_n (M := mX6_takeStep) 3 dX6_takeStep_111 112 rfl rfl rfl ?_
            refine pv_calls (M := mX6_takeStep) (as := [.int x0, .int v38, .int v9]) (st := [.ref aT]) (kc2 := 0) (ks2 := 0) dX6_takeStep_112 wd761 YX6_join wd762 (s_X6_join g hT I36 x0 v38 v9) rfl rfl (Nat.le_of_ble_eq_true rfl) (by decide) rfl rfl 115 rfl (fun rv h1 q39 => ?_)
            obtain ⟨v40, rfl, rfl, pv40, qv40, rv40⟩ := q39
            show PV _ _ _ _ _ _ _ 115 [.ref aT, .int x0, .int x1, .int v9] [.int v40, .ref aT] _
            refine pv_callv (M := mX6_takeStep) (as := [.int v40]) (st := []) (kc2 := 0) (ks2 := 0) dX6_takeStep_115 wd753 YX6_push ⟨wd755, wd21⟩ (mk_get haT.2.1) rfl rfl (s_X6_push g hT I36 aT haT v40) rfl rfl (Nat.le_of_ble_eq_true rfl) (by decide) rfl rfl 118 rfl (fun rv h1 q41 => ?_)
            obtain ⟨m42, n43, rfl, rfl, I44, K45, rm42⟩ := q41
            have K45c := K45
            have K45 := K37.trans (K45.sub (fun _ _ q => q))
            show PV _ _ _ _ _ _ _ 118 [.ref aT, .int x0, .int x1, .int v9] [] _
            exact pv_vret (M := mX6_takeStep) dX6_takeStep_118 rfl ⟨_, _, rfl, rfl, I44, K45, trivial⟩
          · have c28 := iv_ne (X := x0.toInt) (Y := 47) c28 rfl (by decide)
            refine pv_iload_n (M := mX6_takeStep) 1 dX6_takeStep_91 92 rfl rfl rfl ?_
            refine pv_bipush (M := mX6_takeStep) (v := 37) dX6_takeStep_92 94 rfl (by decide) ?_
            refine pv_icmp_ne (M := mX6_takeStep) (tgt := 101) dX6_takeStep_94 97 rfl (by decide) (fun c46 => ?_) (fun c46 => ?_)
            · have c46 := iv_ne (X := x0.toInt) (Y := 37) c46 rfl (by decide)
              refine pv_iconst (M := mX6_takeStep) (v := 0) dX6_takeStep_101 102 rfl (by decide) ?_
              refine iv_put (M := mX6_takeStep) (l1 := 0) (l2 := 1) dX6_takeStep_102 FX6 11 wd246 (by decide) rfl haT.2.1 rfl rfl rfl I7 (law_b11 haT) (by decide) (by decide) 105 rfl (fun m47 e50 I48 => ?_)
              have K49 := K8.set e50 (by first | exact wsL_10 | exact wsL_11 | exact wsL_8)
              refine pv_aload_n (M := mX6_takeStep) 0 dX6_takeStep_105 106 rfl rfl rfl ?_
              refine pv_iload_n (M := mX6_takeStep) 1 dX6_takeStep_106 107 rfl rfl rfl ?_
              refine pv_aload_n (M := mX6_takeStep) 0 dX6_takeStep_107 108 rfl rfl rfl ?_
              refine pv_callv (M := mX6_takeStep) (as := []) (st := [.int x0, .ref aT]) (kc2 := 0) (ks2 := 0) dX6_takeStep_108 wd749 YX6_pop ⟨wd751, wd20⟩ (mk_get haT.2.1) rfl rfl (s_X6_pop g hT I48 aT haT) rfl rfl (Nat.le_of_ble_eq_true rfl) (by decide) rfl rfl 111 rfl (fun rv h1 q51 => ?_)
              obtain ⟨m52, n53, v56, rfl, rfl, I54, K55, pv56, qv56, rv56⟩ := q51
              have K55c := K55
              have K55 := K49.trans (K55.sub (fun _ _ q => q))
              show PV _ _ _ _ _ _ _ 111 [.ref aT, .int x0, .int x1, .int v9] [.int v56, .int x0, .ref aT] _
              refine pv_iload_n (M := mX6_takeStep) 3 dX6_takeStep_111 112 rfl rfl rfl ?_
              refine pv_calls (M := mX6_takeStep) (as := [.int x0, .int v56, .int v9]) (st := [.ref aT]) (kc2 := 0) (ks2 := 0) dX6_takeStep_112 wd761 YX6_join wd762 (s_X6_join g hT I54 x0 v56 v9) rfl rfl (Nat.le_of_ble_eq_true rfl) (by decide) rfl rfl 115 rfl (fun rv h1 q57 => ?_)
              obtain ⟨v58, rfl, rfl, pv58, qv58, rv58⟩ := q57
              show PV _ _ _ _ _ _ _ 115 [.ref aT, .int x0, .int x1, .int v9] [.int v58, .ref aT] _
              refine pv_callv (M := mX6_takeStep) (as := [.int v58]) (st := []) (kc2 := 0) (ks2 := 0) dX6_takeStep_115 wd753 YX6_push ⟨wd755, wd21⟩ (mk_get haT.2.1) rfl rfl (s_X6_push g hT I54 aT haT v58) rfl rfl (Nat.le_of_ble_eq_true rfl) (by decide) rfl rfl 118 rfl (fun rv h1 q59 => ?_)
              obtain ⟨m60, n61, rfl, rfl, I62, K63, rm60⟩ := q59
              have K63c := K63
              have K63 := K55.trans (K63.sub (fun _ _ q => q))
              show PV _ _ _ _ _ _ _ 118 [.ref aT, .int x0, .int x1, .int v9] [] _
              exact pv_vret (M := mX6_takeStep) dX6_takeStep_118 rfl ⟨_, _, rfl, rfl, I62, K63, trivial⟩
            · have c46 := iv_eq (X := x0.toInt) (Y := 37) c46 rfl (by decide)
              refine pv_iconst (M := mX6_takeStep) (v := 1) dX6_takeStep_97 98 rfl (by decide) ?_
              refine pv_goto (M := mX6_takeStep) (tgt := 102) dX6_takeStep_98 (by decide) ?_
              refine iv_put (M := mX6_takeStep) (l1 := 0) (l2 := 1) dX6_takeStep_102 FX6 11 wd246 (by decide) rfl haT.2.1 rfl rfl rfl I7 (law_b11 haT) (by decide) (by decide) 105 rfl (fun m64 e67 I65 => ?_)
              have K66 := K8.set e67 (by first | exact wsL_10 | exact wsL_11 | exact wsL_8)
              refine pv_aload_n (M := mX6_takeStep) 0 dX6_takeStep_105 106 rfl rfl rfl ?_
              refine pv_iload_n (M := mX6_takeStep) 1 dX6_takeStep_106 107 rfl rfl rfl ?_
              refine pv_aload_n (M := mX6_takeStep) 0 dX6_takeStep_107 108 rfl rfl rfl ?_
              refine pv_callv (M := mX6_takeStep) (as := []) (st := [.int x0, .ref aT]) (kc2 := 0) (ks2 := 0) dX6_takeStep_108 wd749 YX6_pop ⟨wd751, wd20⟩ (mk_get haT.2.1) rfl rfl (s_X6_pop g hT I65 aT haT) rfl rfl (Nat.le_of_ble_eq_true rfl) (by decide) rfl rfl 111 rfl (fun rv h1 q68 => ?_)
              obtain ⟨m69, n70, v73, rfl, rfl, I71, K72, pv73, qv73, rv73⟩ := q68
              have K72c := K72
              have K72 := K66.trans (K72.sub (fun _ _ q => q))
              show PV _ _ _ _ _ _ _ 111 [.ref aT, .int x0, .int x1, .int v9] [.int v73, .int x0, .ref aT] _
              refine pv_iload_n (M := mX6_takeStep) 3 dX6_takeStep_111 112 rfl rfl rfl ?_
              refine pv_calls (M := mX6_takeStep) (as := [.int x0, .int v73, .int v9]) (st := [.ref aT]) (kc2 := 0) (ks2 := 0) dX6_takeStep_112 wd761 YX6_join wd762 (s_X6_join g hT I71 x0 v73 v9) rfl rfl (Nat.le_of_ble_eq_true rfl) (by decide) rfl rfl 115 rfl (fun rv h1 q74 => ?_)
              obtain ⟨v75, rfl, rfl, pv75, qv75, rv75⟩ := q74
              show PV _ _ _ _ _ _ _ 115 [.ref aT, .int x0, .int x1, .int v9] [.int v75, .ref aT] _
              refine pv_callv (M := mX6_takeStep) (as := [.int v75]) (st := []) (kc2 := 0) (ks2 := 0) dX6_takeStep_115 wd753 YX6_push ⟨wd755, wd21⟩ (mk_get haT.2.1) rfl rfl (s_X6_push g hT I71 aT haT v75) rfl rfl (Nat.le_of_ble_eq_true rfl) (by decide) rfl rfl 118 rfl (fun rv h1 q76 => ?_)
              obtain ⟨m77, n78, rfl, rfl, I79, K80, rm77⟩ := q76
              have K80c := K80
              have K80 := K72.trans (K80.sub (fun _ _ q => q))
              show PV _ _ _ _ _ _ _ 118 [.ref aT, .int x0, .int x1, .int v9] [] _
              exact pv_vret (M := mX6_takeStep) dX6_takeStep_118 rfl ⟨_, _, rfl, rfl, I79, K80, trivial⟩
      · have c3 := iv_eq (X := x0.toInt) (Y := 33) c3 rfl (by decide)
        refine pv_aload_n (M := mX6_takeStep) 0 dX6_takeStep_56 57 rfl rfl rfl ?_
        refine pv_aload_n (M := mX6_takeStep) 0 dX6_takeStep_57 58 rfl rfl rfl ?_
        refine pv_callv (M := mX6_takeStep) (as := []) (st := [.ref aT]) (kc2 := 0) (ks2 := 0) dX6_takeStep_58 wd749 YX6_pop ⟨wd751, wd20⟩ (mk_get haT.2.1) rfl rfl (s_X6_pop g hT I aT haT) rfl rfl (Nat.le_of_ble_eq_true rfl) (by decide) rfl rfl 61 rfl (fun rv h1 q81 => ?_)
        obtain ⟨m82, n83, v86, rfl, rfl, I84, K85, pv86, qv86, rv86⟩ := q81
        have K85c := K85
        have K85 := Kp.trans (K85.sub (fun _ _ q => q))
        show PV _ _ _ _ _ _ _ 61 [.ref aT, .int x0, .int x1, pv_U] [.int v86, .ref aT] _
        refine pv_if_ne (M := mX6_takeStep) (tgt := 68) dX6_takeStep_61 64 rfl (by decide) (fun c87 => ?_) (fun c87 => ?_)
        · have c87 := iv_ne (X := v86.toInt) (Y := 0) c87 rfl (by decide)
          refine pv_iconst (M := mX6_takeStep) (v := 0) dX6_takeStep_68 69 rfl (by decide) ?_
          refine pv_callv (M := mX6_takeStep) (as := [.int 0]) (st := []) (kc2 := 0) (ks2 := 0) dX6_takeStep_69 wd753 YX6_push ⟨wd755, wd21⟩ (mk_get haT.2.1) rfl rfl (s_X6_push g hT I84 aT haT 0) rfl rfl (Nat.le_of_ble_eq_true rfl) (by decide) rfl rfl 72 rfl (fun rv h1 q88 => ?_)
          obtain ⟨m89, n90, rfl, rfl, I91, K92, rm89⟩ := q88
          have K92c := K92
          have K92 := K85.trans (K92.sub (fun _ _ q => q))
          show PV _ _ _ _ _ _ _ 72 [.ref aT, .int x0, .int x1, pv_U] [] _
          refine pv_goto (M := mX6_takeStep) (tgt := 118) dX6_takeStep_72 (by decide) ?_
          exact pv_vret (M := mX6_takeStep) dX6_takeStep_118 rfl ⟨_, _, rfl, rfl, I91, K92, trivial⟩
        · have c87 := iv_eq (X := v86.toInt) (Y := 0) c87 rfl (by decide)
          refine pv_iconst (M := mX6_takeStep) (v := 1) dX6_takeStep_64 65 rfl (by decide) ?_
          refine pv_goto (M := mX6_takeStep) (tgt := 69) dX6_takeStep_65 (by decide) ?_
          refine pv_callv (M := mX6_takeStep) (as := [.int 1]) (st := []) (kc2 := 0) (ks2 := 0) dX6_takeStep_69 wd753 YX6_push ⟨wd755, wd21⟩ (mk_get haT.2.1) rfl rfl (s_X6_push g hT I84 aT haT 1) rfl rfl (Nat.le_of_ble_eq_true rfl) (by decide) rfl rfl 72 rfl (fun rv h1 q93 => ?_)
          obtain ⟨m94, n95, rfl, rfl, I96, K97, rm94⟩ := q93
          have K97c := K97
          have K97 := K85.trans (K97.sub (fun _ _ q => q))
          show PV _ _ _ _ _ _ _ 72 [.ref aT, .int x0, .int x1, pv_U] [] _
          refine pv_goto (M := mX6_takeStep) (tgt := 118) dX6_takeStep_72 (by decide) ?_
          exact pv_vret (M := mX6_takeStep) dX6_takeStep_118 rfl ⟨_, _, rfl, rfl, I96, K97, trivial⟩
    · have c2 := iv_eq (X := x0.toInt) (Y := 36) c2 rfl (by decide)
      refine pv_aload_n (M := mX6_takeStep) 0 dX6_takeStep_20 21 rfl rfl rfl ?_
      refine pv_iload_n (M := mX6_takeStep) 2 dX6_takeStep_21 22 rfl rfl rfl ?_
      refine pv_if_lt (M := mX6_takeStep) (tgt := 43) dX6_takeStep_22 25 rfl (by decide) (fun c98 => ?_) (fun c98 => ?_)
      · have c98 := iv_lt (X := x1.toInt) (Y := 0) c98 rfl (by decide)
        refine pv_iconst (M := mX6_takeStep) (v := 0) dX6_takeStep_43 44 rfl (by decide) ?_
        refine pv_callv (M := mX6_takeStep) (as := [.int 0]) (st := []) (kc2 := 0) (ks2 := 0) dX6_takeStep_44 wd753 YX6_push ⟨wd755, wd21⟩ (mk_get haT.2.1) rfl rfl (s_X6_push g hT I aT haT 0) rfl rfl (Nat.le_of_ble_eq_true rfl) (by decide) rfl rfl 47 rfl (fun rv h1 q99 => ?_)
        obtain ⟨m100, n101, rfl, rfl, I102, K103, rm100⟩ := q99
        have K103c := K103
        have K103 := Kp.trans (K103.sub (fun _ _ q => q))
        show PV _ _ _ _ _ _ _ 47 [.ref aT, .int x0, .int x1, pv_U] [] _
        refine pv_goto (M := mX6_takeStep) (tgt := 118) dX6_takeStep_47 (by decide) ?_
        exact pv_vret (M := mX6_takeStep) dX6_takeStep_118 rfl ⟨_, _, rfl, rfl, I102, K103, trivial⟩
      · have c98 := iv_nlt (X := x1.toInt) (Y := 0) c98 rfl (by decide)
        refine pv_iload_n (M := mX6_takeStep) 2 dX6_takeStep_25 26 rfl rfl rfl ?_
        refine pv_aload_n (M := mX6_takeStep) 0 dX6_takeStep_26 27 rfl rfl rfl ?_
        refine mv_get (M := mX6_takeStep) (v := .ref (aT + 7)) dX6_takeStep_27 FX6 8 wd243 (by decide) haT.2.1 rfl rfl 30 rfl ?_
        refine pv_alen (M := mX6_takeStep) (v := 10) dX6_takeStep_30 (mk_get (law_a7 haT)) (by decide) (show Int32.ofNat 10 = 10 by decide) 31 rfl ?_
        refine pv_icmp_ge (M := mX6_takeStep) (tgt := 43) dX6_takeStep_31 34 rfl (by decide) (fun c105 => ?_) (fun c105 => ?_)
        · have c105 := iv_le (X := 10) (Y := x1.toInt) c105 (by decide) rfl
          refine pv_iconst (M := mX6_takeStep) (v := 0) dX6_takeStep_43 44 rfl (by decide) ?_
          refine pv_callv (M := mX6_takeStep) (as := [.int 0]) (st := []) (kc2 := 0) (ks2 := 0) dX6_takeStep_44 wd753 YX6_push ⟨wd755, wd21⟩ (mk_get haT.2.1) rfl rfl (s_X6_push g hT I aT haT 0) rfl rfl (Nat.le_of_ble_eq_true rfl) (by decide) rfl rfl 47 rfl (fun rv h1 q106 => ?_)
          obtain ⟨m107, n108, rfl, rfl, I109, K110, rm107⟩ := q106
          have K110c := K110
          have K110 := Kp.trans (K110.sub (fun _ _ q => q))
          show PV _ _ _ _ _ _ _ 47 [.ref aT, .int x0, .int x1, pv_U] [] _
          refine pv_goto (M := mX6_takeStep) (tgt := 118) dX6_takeStep_47 (by decide) ?_
          exact pv_vret (M := mX6_takeStep) dX6_takeStep_118 rfl ⟨_, _, rfl, rfl, I109, K110, trivial⟩
        · have c105 := iv_nle (X := 10) (Y := x1.toInt) c105 (by decide) rfl
          refine pv_aload_n (M := mX6_takeStep) 0 dX6_takeStep_34 35 rfl rfl rfl ?_
          refine mv_get (M := mX6_takeStep) (v := .ref (aT + 7)) dX6_takeStep_35 FX6 8 wd243 (by decide) haT.2.1 rfl rfl 38 rfl ?_
          refine pv_iload_n (M := mX6_takeStep) 2 dX6_takeStep_38 39 rfl rfl rfl ?_
          refine iv_iald (M := mX6_takeStep) (X := x1.toInt) (l1 := (-2147483648)) (l2 := 2147483647) dX6_takeStep_39 (law_a7 haT) rfl (by omega) (by omega) I (law_c7 haT) 40 rfl (fun v111 ev111 pv111 qv111 => ?_)
          refine pv_goto (M := mX6_takeStep) (tgt := 44) dX6_takeStep_40 (by decide) ?_
          refine pv_callv (M := mX6_takeStep) (as := [.int v111]) (st := []) (kc2 := 0) (ks2 := 0) dX6_takeStep_44 wd753 YX6_push ⟨wd755, wd21⟩ (mk_get haT.2.1) rfl rfl (s_X6_push g hT I aT haT v111) rfl rfl (Nat.le_of_ble_eq_true rfl) (by decide) rfl rfl 47 rfl (fun rv h1 q112 => ?_)
          obtain ⟨m113, n114, rfl, rfl, I115, K116, rm113⟩ := q112
          have K116c := K116
          have K116 := Kp.trans (K116.sub (fun _ _ q => q))
          show PV _ _ _ _ _ _ _ 47 [.ref aT, .int x0, .int x1, pv_U] [] _
          refine pv_goto (M := mX6_takeStep) (tgt := 118) dX6_takeStep_47 (by decide) ?_
          exact pv_vret (M := mX6_takeStep) dX6_takeStep_118 rfl ⟨_, _, rfl, rfl, I115, K116, trivial⟩
  · have c1 := iv_eq (X := x0.toInt) (Y := 35) c1 rfl (by decide)
    refine pv_aload_n (M := mX6_takeStep) 0 dX6_takeStep_6 7 rfl rfl rfl ?_
    refine pv_iload_n (M := mX6_takeStep) 2 dX6_takeStep_7 8 rfl rfl rfl ?_
    refine pv_callv (M := mX6_takeStep) (as := [.int x1]) (st := []) (kc2 := 0) (ks2 := 0) dX6_takeStep_8 wd753 YX6_push ⟨wd755, wd21⟩ (mk_get haT.2.1) rfl rfl (s_X6_push g hT I aT haT x1) rfl rfl (Nat.le_of_ble_eq_true rfl) (by decide) rfl rfl 11 rfl (fun rv h1 q117 => ?_)
    obtain ⟨m118, n119, rfl, rfl, I120, K121, rm118⟩ := q117
    have K121c := K121
    have K121 := Kp.trans (K121.sub (fun _ _ q => q))
    show PV _ _ _ _ _ _ _ 11 [.ref aT, .int x0, .int x1, pv_U] [] _
    refine pv_goto (M := mX6_takeStep) (tgt := 118) dX6_takeStep_11 (by decide) ?_
    exact pv_vret (M := mX6_takeStep) dX6_takeStep_118 rfl ⟨_, _, rfl, rfl, I120, K121, trivial⟩

set_option maxHeartbeats 2000000 in
set_option maxRecDepth 20000 in
theorem s_X6_reckon (g : pv_G) {T : List mv_T} {m : Nat → Nat → Int32} {n : Nat → Nat → Int64} {r : Nat → Value} (hT : TX T) (I : IV BB m) (aT : Nat) (haT : LawAt T aT) (x0 : Int32) (hl0 : 0 ≤ x0.toInt) (hh0 : x0.toInt ≤ 160) (x1 : Int32) (hl1 : 0 ≤ x1.toInt) (hh1 : x1.toInt ≤ 160) : PM g mX6_reckon yX6_reckon (sqI T BB (wsL aT) r m (-2147483648) 2147483647 (fun m' v => True)) 3 0 0 [.ref aT, .int x0, .int x1] (mk T m n r) := by
  have Kp : fr (wsL aT) m m := fr.rf
  have zwT := haT.1
  refine PM.of 2 (lo := [.ref aT, .int x0, .int x1, pv_U, pv_U]) rfl (by decide) rfl rfl (Nat.le_of_ble_eq_true rfl) ?_
  refine pv_aload_n (M := mX6_reckon) 0 dX6_reckon_0 1 rfl rfl rfl ?_
  refine pv_iconst (M := mX6_reckon) (v := 0) dX6_reckon_1 2 rfl (by decide) ?_
  refine iv_put (M := mX6_reckon) (l1 := 0) (l2 := 32) dX6_reckon_2 FX6 10 wd245 (by decide) rfl haT.2.1 rfl rfl rfl I (law_b10 haT) (by decide) (by decide) 5 rfl (fun m1 e4 I2 => ?_)
  have K3 := Kp.set e4 (by first | exact wsL_10 | exact wsL_11 | exact wsL_8)
  refine pv_aload_n (M := mX6_reckon) 0 dX6_reckon_5 6 rfl rfl rfl ?_
  refine pv_iconst (M := mX6_reckon) (v := 0) dX6_reckon_6 7 rfl (by decide) ?_
  refine iv_put (M := mX6_reckon) (l1 := 0) (l2 := 1) dX6_reckon_7 FX6 11 wd246 (by decide) rfl haT.2.1 rfl rfl rfl I2 (law_b11 haT) (by decide) (by decide) 10 rfl (fun m5 e8 I6 => ?_)
  have K7 := K3.set e8 (by first | exact wsL_10 | exact wsL_11 | exact wsL_8)
  refine pv_iload_n (M := mX6_reckon) 1 dX6_reckon_10 11 rfl rfl rfl ?_
  refine pv_istore_n (M := mX6_reckon) 3 (lo2 := [.ref aT, .int x0, .int x1, .int x0, pv_U]) dX6_reckon_11 12 rfl rfl (by decide) rfl rfl ?_
  have lp15 : ∀ (fuel14 : Nat) (y9 : Int32) (m10 : Nat → Nat → Int32) (n11 : Nat → Nat → Int64), (0 ≤ y9.toInt) → (y9.toInt ≤ 100000) → IV BB m10 → fr (wsL aT) m m10 → ((160 - y9.toInt) : Int).toNat < fuel14 → PV none g mX6_reckon (sqI T BB (wsL aT) r m (-2147483648) 2147483647 (fun m' v => True)) 3 0 0 12 [.ref aT, .int x0, .int x1, .int y9, pv_U] [] (mk T m10 n11 r) := by
    intro fuel14
    induction fuel14 with
    | zero => intro y9 m10 n11 b17 b18 I12 K13 z19; omega
    | succ fuel14 ih16 =>
      intro y9 m10 n11 b17 b18 I12 K13 z19
      refine pv_iload_n (M := mX6_reckon) 3 dX6_reckon_12 13 rfl rfl rfl ?_
      refine pv_iload_n (M := mX6_reckon) 2 dX6_reckon_13 14 rfl rfl rfl ?_
      refine pv_icmp_ge (M := mX6_reckon) (tgt := 125) dX6_reckon_14 17 rfl (by decide) (fun c20 => ?_) (fun c20 => ?_)
      · have c20 := iv_le (X := x1.toInt) (Y := y9.toInt) c20 rfl rfl
        refine pv_aload_n (M := mX6_reckon) 0 dX6_reckon_125 126 rfl rfl rfl ?_
        refine pv_callv (M := mX6_reckon) (as := []) (st := []) (kc2 := 0) (ks2 := 0) dX6_reckon_126 wd749 YX6_pop ⟨wd751, wd20⟩ (mk_get haT.2.1) rfl rfl (s_X6_pop g hT I12 aT haT) rfl rfl (Nat.le_of_ble_eq_true rfl) (by decide) rfl rfl 129 rfl (fun rv h1 q21 => ?_)
        obtain ⟨m22, n23, v26, rfl, rfl, I24, K25, pv26, qv26, rv26⟩ := q21
        have K25c := K25
        have K25 := K13.trans (K25.sub (fun _ _ q => q))
        show PV _ _ _ _ _ _ _ 129 [.ref aT, .int x0, .int x1, .int y9, pv_U] [.int v26] _
        exact pv_iret (M := mX6_reckon) dX6_reckon_129 rfl rfl ⟨_, _, _, rfl, rfl, I24, K25, (iv_rng v26).1, (iv_rng v26).2, trivial⟩
      · have c20 := iv_nle (X := x1.toInt) (Y := y9.toInt) c20 rfl rfl
        refine pv_aload_n (M := mX6_reckon) 0 dX6_reckon_17 18 rfl rfl rfl ?_
        refine iv_get (M := mX6_reckon) (l1 := 0) (l2 := 1) dX6_reckon_18 FX6 11 wd246 (by decide) haT.2.1 rfl I12 (law_b11 haT) 21 rfl (fun v27 ev27 pv27 qv27 => ?_)
        refine pv_if_ne (M := mX6_reckon) (tgt := 125) dX6_reckon_21 24 rfl (by decide) (fun c28 => ?_) (fun c28 => ?_)
        · have c28 := iv_ne (X := v27.toInt) (Y := 0) c28 rfl (by decide)
          refine pv_aload_n (M := mX6_reckon) 0 dX6_reckon_125 126 rfl rfl rfl ?_
          refine pv_callv (M := mX6_reckon) (as := []) (st := []) (kc2 := 0) (ks2 := 0) dX6_reckon_126 wd749 YX6_pop ⟨wd751, wd20⟩ (mk_get haT.2.1) rfl rfl (s_X6_pop g hT I12 aT haT) rfl rfl (Nat.le_of_ble_eq_true rfl) (by decide) rfl rfl 129 rfl (fun rv h1 q29 => ?_)
          obtain ⟨m30, n31, v34, rfl, rfl, I32, K33, pv34, qv34, rv34⟩ := q29
          have K33c := K33
          have K33 := K13.trans (K33.sub (fun _ _ q => q))
          show PV _ _ _ _ _ _ _ 129 [.ref aT, .int x0, .int x1, .int y9, pv_U] [.int v34] _
          exact pv_iret (M := mX6_reckon) dX6_reckon_129 rfl rfl ⟨_, _, _, rfl, rfl, I32, K33, (iv_rng v34).1, (iv_rng v34).2, trivial⟩
        · have c28 := iv_eq (X := v27.toInt) (Y := 0) c28 rfl (by decide)
          refine pv_aload_n (M := mX6_reckon) 0 dX6_reckon_24 25 rfl rfl rfl ?_
          refine mv_get (M := mX6_reckon) (v := .ref (aT + 1)) dX6_reckon_25 FX6 0 wd233 (by decide) haT.2.1 rfl rfl 28 rfl ?_
          refine pv_iload_n (M := mX6_reckon) 3 dX6_reckon_28 29 rfl rfl rfl ?_
          refine iv_iald (M := mX6_reckon) (X := y9.toInt) (l1 := (-2147483648)) (l2 := 2147483647) dX6_reckon_29 (law_a1 haT) rfl (by omega) (by omega) I12 (law_c1 haT) 30 rfl (fun v35 ev35 pv35 qv35 => ?_)
          refine pv_bipush (M := mX6_reckon) (v := 124) dX6_reckon_30 32 rfl (by decide) ?_
          refine pv_icmp_eq (M := mX6_reckon) (tgt := 46) dX6_reckon_32 35 rfl (by decide) (fun c36 => ?_) (fun c36 => ?_)
          · have c36 := iv_eq (X := v35.toInt) (Y := 124) c36 rfl (by decide)
            refine pv_aload_n (M := mX6_reckon) 0 dX6_reckon_46 47 rfl rfl rfl ?_
            refine pv_callv (M := mX6_reckon) (as := []) (st := []) (kc2 := 0) (ks2 := 0) dX6_reckon_47 wd749 YX6_pop ⟨wd751, wd20⟩ (mk_get haT.2.1) rfl rfl (s_X6_pop g hT I12 aT haT) rfl rfl (Nat.le_of_ble_eq_true rfl) (by decide) rfl rfl 50 rfl (fun rv h1 q37 => ?_)
            obtain ⟨m38, n39, v42, rfl, rfl, I40, K41, pv42, qv42, rv42⟩ := q37
            have K41c := K41
            have K41 := K13.trans (K41.sub (fun _ _ q => q))
            show PV _ _ _ _ _ _ _ 50 [.ref aT, .int x0, .int x1, .int y9, pv_U] [.int v42] _
            refine pv_istore (M := mX6_reckon) (lo2 := [.ref aT, .int x0, .int x1, .int y9, .int v42]) dX6_reckon_50 52 rfl (by decide) rfl rfl ?_
            refine pv_iload (M := mX6_reckon) dX6_reckon_52 54 rfl rfl ?_
            refine pv_if_eq (M := mX6_reckon) (tgt := 61) dX6_reckon_54 57 rfl (by decide) (fun c43 => ?_) (fun c43 => ?_)
            · have c43 := iv_eq (X := v42.toInt) (Y := 0) c43 rfl (by decide)
              refine pv_iconst (M := mX6_reckon) (v := 0) dX6_reckon_61 62 rfl (by decide) ?_
              refine pv_aload_n (M := mX6_reckon) 0 dX6_reckon_62 63 rfl rfl rfl ?_
              refine mv_get (M := mX6_reckon) (v := .ref (aT + 1)) dX6_reckon_63 FX6 0 wd233 (by decide) haT.2.1 rfl rfl 66 rfl ?_
              refine pv_iload_n (M := mX6_reckon) 3 dX6_reckon_66 67 rfl rfl rfl ?_
              refine iv_iald (M := mX6_reckon) (X := y9.toInt) (l1 := (-2147483648)) (l2 := 2147483647) dX6_reckon_67 (law_a1 haT) rfl (by omega) (by omega) I40 (law_c1 haT) 68 rfl (fun v44 ev44 pv44 qv44 => ?_)
              refine pv_bipush (M := mX6_reckon) (v := 124) dX6_reckon_68 70 rfl (by decide) ?_
              refine pv_icmp_ne (M := mX6_reckon) (tgt := 77) dX6_reckon_70 73 rfl (by decide) (fun c45 => ?_) (fun c45 => ?_)
              · have c45 := iv_ne (X := v44.toInt) (Y := 124) c45 rfl (by decide)
                refine pv_iconst (M := mX6_reckon) (v := 0) dX6_reckon_77 78 rfl (by decide) ?_
                refine pv_icmp_ne (M := mX6_reckon) (tgt := 100) dX6_reckon_78 81 rfl (by decide) (fun q => absurd (by decide) q) (fun _ => ?_)
                refine pv_aload_n (M := mX6_reckon) 0 dX6_reckon_81 82 rfl rfl rfl ?_
                refine pv_iload (M := mX6_reckon) dX6_reckon_82 84 rfl rfl ?_
                refine pv_callv (M := mX6_reckon) (as := [.int v42]) (st := []) (kc2 := 0) (ks2 := 0) dX6_reckon_84 wd753 YX6_push ⟨wd755, wd21⟩ (mk_get haT.2.1) rfl rfl (s_X6_push g hT I40 aT haT v42) rfl rfl (Nat.le_of_ble_eq_true rfl) (by decide) rfl rfl 87 rfl (fun rv h1 q47 => ?_)
                obtain ⟨m48, n49, rfl, rfl, I50, K51, rm48⟩ := q47
                have K51c := K51
                have K51 := K41.trans (K51.sub (fun _ _ q => q))
                show PV _ _ _ _ _ _ _ 87 [.ref aT, .int x0, .int x1, .int y9, .int v42] [] _
                refine pv_iload_n (M := mX6_reckon) 3 dX6_reckon_87 88 rfl rfl rfl ?_
                refine pv_aload_n (M := mX6_reckon) 0 dX6_reckon_88 89 rfl rfl rfl ?_
                refine mv_get (M := mX6_reckon) (v := .ref (aT + 2)) dX6_reckon_89 FX6 1 wd234 (by decide) haT.2.1 rfl rfl 92 rfl ?_
                refine pv_iload_n (M := mX6_reckon) 3 dX6_reckon_92 93 rfl rfl rfl ?_
                refine iv_iald (M := mX6_reckon) (X := y9.toInt) (l1 := (-1)) (l2 := 99999) dX6_reckon_93 (law_a2 haT) rfl (by omega) (by omega) I50 (law_c2 haT) 94 rfl (fun v52 ev52 pv52 qv52 => ?_)
                refine pv_iconst (M := mX6_reckon) (v := 1) dX6_reckon_94 95 rfl (by decide) ?_
                refine iv_isub (M := mX6_reckon) (X := v52.toInt) (Y := 1) dX6_reckon_95 96 rfl rfl (by decide) (by omega) (by omega) (fun v53 ev53 => ?_)
                refine iv_max (M := mX6_reckon) (X := y9.toInt) (Y := v53.toInt) dX6_reckon_96 wd682 Wmmax (Nat.le_of_ble_eq_true rfl) (by decide) rfl rfl 99 rfl (fun v54 ev54 fv54 gv54 => ?_)
                refine pv_istore_n (M := mX6_reckon) 3 (lo2 := [.ref aT, .int x0, .int x1, .int v54, .int v42]) dX6_reckon_99 100 rfl rfl (by decide) rfl rfl ?_
                refine pv_goto (M := mX6_reckon) (tgt := 119) dX6_reckon_100 (by decide) ?_
                refine iv_inc (M := mX6_reckon) (C := 1) dX6_reckon_119 122 rfl rfl (by decide) rfl rfl (by decide) (by omega) (by omega) (fun v55 ev55 => ?_)
                show PV _ _ _ _ _ _ _ 122 [.ref aT, .int x0, .int x1, .int v55, .int v42] [] _
                refine pv_goto (M := mX6_reckon) (tgt := 12) dX6_reckon_122 (by decide) ?_
                refine pv_fg (lo2 := [.ref aT, .int x0, .int x1, .int v55, pv_U]) ⟨Or.inr rfl, ⟨Or.inr rfl, ⟨Or.inr rfl, ⟨Or.inr rfl, ⟨Or.inl rfl, trivial⟩⟩⟩⟩⟩ ?_
                exact ih16 v55 m48 n49 (by first | omega | assumption | exact (iv_rng _).2 | exact (iv_rng _).1 | decide) (by first | omega | assumption | exact (iv_rng _).2 | exact (iv_rng _).1 | decide) I50 K51 (by omega)
              · have c45 := iv_eq (X := v44.toInt) (Y := 124) c45 rfl (by decide)
                refine pv_iconst (M := mX6_reckon) (v := 1) dX6_reckon_73 74 rfl (by decide) ?_
                refine pv_goto (M := mX6_reckon) (tgt := 78) dX6_reckon_74 (by decide) ?_
                refine pv_icmp_ne (M := mX6_reckon) (tgt := 100) dX6_reckon_78 81 rfl (by decide) (fun _ => ?_) (fun q => absurd q (by decide))
                refine pv_goto (M := mX6_reckon) (tgt := 119) dX6_reckon_100 (by decide) ?_
                refine iv_inc (M := mX6_reckon) (C := 1) dX6_reckon_119 122 rfl rfl (by decide) rfl rfl (by decide) (by omega) (by omega) (fun v57 ev57 => ?_)
                show PV _ _ _ _ _ _ _ 122 [.ref aT, .int x0, .int x1, .int v57, .int v42] [] _
                refine pv_goto (M := mX6_reckon) (tgt := 12) dX6_reckon_122 (by decide) ?_
                refine pv_fg (lo2 := [.ref aT, .int x0, .int x1, .int v57, pv_U]) ⟨Or.inr rfl, ⟨Or.inr rfl, ⟨Or.inr rfl, ⟨Or.inr rfl, ⟨Or.inl rfl, trivial⟩⟩⟩⟩⟩ ?_
                exact ih16 v57 m38 n39 (by first | omega | assumption | exact (iv_rng _).2 | exact (iv_rng _).1 | decide) (by first | omega | assumption | exact (iv_rng _).2 | exact (iv_rng _).1 | decide) I40 K41 (by omega)
            · have c43 := iv_ne (X := v42.toInt) (Y := 0) c43 rfl (by decide)
              refine pv_iconst (M := mX6_reckon) (v := 1) dX6_reckon_57 58 rfl (by decide) ?_
              refine pv_goto (M := mX6_reckon) (tgt := 62) dX6_reckon_58 (by decide) ?_
              refine pv_aload_n (M := mX6_reckon) 0 dX6_reckon_62 63 rfl rfl rfl ?_
              refine mv_get (M := mX6_reckon) (v := .ref (aT + 1)) dX6_reckon_63 FX6 0 wd233 (by decide) haT.2.1 rfl rfl 66 rfl ?_
              refine pv_iload_n (M := mX6_reckon) 3 dX6_reckon_66 67 rfl rfl rfl ?_
              refine iv_iald (M := mX6_reckon) (X := y9.toInt) (l1 := (-2147483648)) (l2 := 2147483647) dX6_reckon_67 (law_a1 haT) rfl (by omega) (by omega) I40 (law_c1 haT) 68 rfl (fun v58 ev58 pv58 qv58 => ?_)
              refine pv_bipush (M := mX6_reckon) (v := 124) dX6_reckon_68 70 rfl (by decide) ?_
              refine pv_icmp_ne (M := mX6_reckon) (tgt := 77) dX6_reckon_70 73 rfl (by decide) (fun c59 => ?_) (fun c59 => ?_)
              · have c59 := iv_ne (X := v58.toInt) (Y := 124) c59 rfl (by decide)
                refine pv_iconst (M := mX6_reckon) (v := 0) dX6_reckon_77 78 rfl (by decide) ?_
                refine pv_icmp_ne (M := mX6_reckon) (tgt := 100) dX6_reckon_78 81 rfl (by decide) (fun _ => ?_) (fun q => absurd q (by decide))
                refine pv_goto (M := mX6_reckon) (tgt := 119) dX6_reckon_100 (by decide) ?_
                refine iv_inc (M := mX6_reckon) (C := 1) dX6_reckon_119 122 rfl rfl (by decide) rfl rfl (by decide) (by omega) (by omega) (fun v61 ev61 => ?_)
                show PV _ _ _ _ _ _ _ 122 [.ref aT, .int x0, .int x1, .int v61, .int v42] [] _
                refine pv_goto (M := mX6_reckon) (tgt := 12) dX6_reckon_122 (by decide) ?_
                refine pv_fg (lo2 := [.ref aT, .int x0, .int x1, .int v61, pv_U]) ⟨Or.inr rfl, ⟨Or.inr rfl, ⟨Or.inr rfl, ⟨Or.inr rfl, ⟨Or.inl rfl, trivial⟩⟩⟩⟩⟩ ?_
                exact ih16 v61 m38 n39 (by first | omega | assumption | exact (iv_rng _).2 | exact (iv_rng _).1 | decide) (by first | omega | assumption | exact (iv_rng _).2 | exact (iv_rng _).1 | decide) I40 K41 (by omega)
              · have c59 := iv_eq (X := v58.toInt) (Y := 124) c59 rfl (by decide)
                refine pv_iconst (M := mX6_reckon) (v := 1) dX6_reckon_73 74 rfl (by decide) ?_
                refine pv_goto (M := mX6_reckon) (tgt := 78) dX6_reckon_74 (by decide) ?_
                refine pv_icmp_ne (M := mX6_reckon) (tgt := 100) dX6_reckon_78 81 rfl (by decide) (fun q => absurd (by decide) q) (fun _ => ?_)
                refine pv_aload_n (M := mX6_reckon) 0 dX6_reckon_81 82 rfl rfl rfl ?_
                refine pv_iload (M := mX6_reckon) dX6_reckon_82 84 rfl rfl ?_
                refine pv_callv (M := mX6_reckon) (as := [.int v42]) (st := []) (kc2 := 0) (ks2 := 0) dX6_reckon_84 wd753 YX6_push ⟨wd755, wd21⟩ (mk_get haT.2.1) rfl rfl (s_X6_push g hT I40 aT haT v42) rfl rfl (Nat.le_of_ble_eq_true rfl) (by decide) rfl rfl 87 rfl (fun rv h1 q63 => ?_)
                obtain ⟨m64, n65, rfl, rfl, I66, K67, rm64⟩ := q63
                have K67c := K67
                have K67 := K41.trans (K67.sub (fun _ _ q => q))
                show PV _ _ _ _ _ _ _ 87 [.ref aT, .int x0, .int x1, .int y9, .int v42] [] _
                refine pv_iload_n (M := mX6_reckon) 3 dX6_reckon_87 88 rfl rfl rfl ?_
                refine pv_aload_n (M := mX6_reckon) 0 dX6_reckon_88 89 rfl rfl rfl ?_
                refine mv_get (M := mX6_reckon) (v := .ref (aT + 2)) dX6_reckon_89 FX6 1 wd234 (by decide) haT.2.1 rfl rfl 92 rfl ?_
                refine pv_iload_n (M := mX6_reckon) 3 dX6_reckon_92 93 rfl rfl rfl ?_
                refine iv_iald (M := mX6_reckon) (X := y9.toInt) (l1 := (-1)) (l2 := 99999) dX6_reckon_93 (law_a2 haT) rfl (by omega) (by omega) I66 (law_c2 haT) 94 rfl (fun v68 ev68 pv68 qv68 => ?_)
                refine pv_iconst (M := mX6_reckon) (v := 1) dX6_reckon_94 95 rfl (by decide) ?_
                refine iv_isub (M := mX6_reckon) (X := v68.toInt) (Y := 1) dX6_reckon_95 96 rfl rfl (by decide) (by omega) (by omega) (fun v69 ev69 => ?_)
                refine iv_max (M := mX6_reckon) (X := y9.toInt) (Y := v69.toInt) dX6_reckon_96 wd682 Wmmax (Nat.le_of_ble_eq_true rfl) (by decide) rfl rfl 99 rfl (fun v70 ev70 fv70 gv70 => ?_)
                refine pv_istore_n (M := mX6_reckon) 3 (lo2 := [.ref aT, .int x0, .int x1, .int v70, .int v42]) dX6_reckon_99 100 rfl rfl (by decide) rfl rfl ?_
                refine pv_goto (M := mX6_reckon) (tgt := 119) dX6_reckon_100 (by decide) ?_
                refine iv_inc (M := mX6_reckon) (C := 1) dX6_reckon_119 122 rfl rfl (by decide) rfl rfl (by decide) (by omega) (by omega) (fun v71 ev71 => ?_)
                show PV _ _ _ _ _ _ _ 122 [.ref aT, .int x0, .int x1, .int v71, .int v42] [] _
                refine pv_goto (M := mX6_reckon) (tgt := 12) dX6_reckon_122 (by decide) ?_
                refine pv_fg (lo2 := [.ref aT, .int x0, .int x1, .int v71, pv_U]) ⟨Or.inr rfl, ⟨Or.inr rfl, ⟨Or.inr rfl, ⟨Or.inr rfl, ⟨Or.inl rfl, trivial⟩⟩⟩⟩⟩ ?_
                exact ih16 v71 m64 n65 (by first | omega | assumption | exact (iv_rng _).2 | exact (iv_rng _).1 | decide) (by first | omega | assumption | exact (iv_rng _).2 | exact (iv_rng _).1 | decide) I66 K67 (by omega)
          · have c36 := iv_ne (X := v35.toInt) (Y := 124) c36 rfl (by decide)
            refine pv_aload_n (M := mX6_reckon) 0 dX6_reckon_35 36 rfl rfl rfl ?_
            refine mv_get (M := mX6_reckon) (v := .ref (aT + 1)) dX6_reckon_36 FX6 0 wd233 (by decide) haT.2.1 rfl rfl 39 rfl ?_
            refine pv_iload_n (M := mX6_reckon) 3 dX6_reckon_39 40 rfl rfl rfl ?_
            refine iv_iald (M := mX6_reckon) (X := y9.toInt) (l1 := (-2147483648)) (l2 := 2147483647) dX6_reckon_40 (law_a1 haT) rfl (by omega) (by omega) I12 (law_c1 haT) 41 rfl (fun v72 ev72 pv72 qv72 => ?_)
            refine pv_bipush (M := mX6_reckon) (v := 38) dX6_reckon_41 43 rfl (by decide) ?_
            refine pv_icmp_ne (M := mX6_reckon) (tgt := 103) dX6_reckon_43 46 rfl (by decide) (fun c73 => ?_) (fun c73 => ?_)
            · have c73 := iv_ne (X := v72.toInt) (Y := 38) c73 rfl (by decide)
              refine pv_aload_n (M := mX6_reckon) 0 dX6_reckon_103 104 rfl rfl rfl ?_
              refine pv_aload_n (M := mX6_reckon) 0 dX6_reckon_104 105 rfl rfl rfl ?_
              refine mv_get (M := mX6_reckon) (v := .ref (aT + 1)) dX6_reckon_105 FX6 0 wd233 (by decide) haT.2.1 rfl rfl 108 rfl ?_
              refine pv_iload_n (M := mX6_reckon) 3 dX6_reckon_108 109 rfl rfl rfl ?_
              refine iv_iald (M := mX6_reckon) (X := y9.toInt) (l1 := (-2147483648)) (l2 := 2147483647) dX6_reckon_109 (law_a1 haT) rfl (by omega) (by omega) I12 (law_c1 haT) 110 rfl (fun v74 ev74 pv74 qv74 => ?_)
              refine pv_aload_n (M := mX6_reckon) 0 dX6_reckon_110 111 rfl rfl rfl ?_
              refine mv_get (M := mX6_reckon) (v := .ref (aT + 2)) dX6_reckon_111 FX6 1 wd234 (by decide) haT.2.1 rfl rfl 114 rfl ?_
              refine pv_iload_n (M := mX6_reckon) 3 dX6_reckon_114 115 rfl rfl rfl ?_
              refine iv_iald (M := mX6_reckon) (X := y9.toInt) (l1 := (-1)) (l2 := 99999) dX6_reckon_115 (law_a2 haT) rfl (by omega) (by omega) I12 (law_c2 haT) 116 rfl (fun v75 ev75 pv75 qv75 => ?_)
              refine pv_callv (M := mX6_reckon) (as := [.int v74, .int v75]) (st := []) (kc2 := 0) (ks2 := 0) dX6_reckon_116 wd757 YX6_takeStep ⟨wd759, wd22⟩ (mk_get haT.2.1) rfl rfl (s_X6_takeStep g hT I12 aT haT v74 v75) rfl rfl (Nat.le_of_ble_eq_true rfl) (by decide) rfl rfl 119 rfl (fun rv h1 q76 => ?_)
              obtain ⟨m77, n78, rfl, rfl, I79, K80, rm77⟩ := q76
              have K80c := K80
              have K80 := K13.trans (K80.sub (fun _ _ q => q))
              show PV _ _ _ _ _ _ _ 119 [.ref aT, .int x0, .int x1, .int y9, pv_U] [] _
              refine iv_inc (M := mX6_reckon) (C := 1) dX6_reckon_119 122 rfl rfl (by decide) rfl rfl (by decide) (by omega) (by omega) (fun v81 ev81 => ?_)
              show PV _ _ _ _ _ _ _ 122 [.ref aT, .int x0, .int x1, .int v81, pv_U] [] _
              refine pv_goto (M := mX6_reckon) (tgt := 12) dX6_reckon_122 (by decide) ?_
              exact ih16 v81 m77 n78 (by first | omega | assumption | exact (iv_rng _).2 | exact (iv_rng _).1 | decide) (by first | omega | assumption | exact (iv_rng _).2 | exact (iv_rng _).1 | decide) I79 K80 (by omega)
            · have c73 := iv_eq (X := v72.toInt) (Y := 38) c73 rfl (by decide)
              refine pv_aload_n (M := mX6_reckon) 0 dX6_reckon_46 47 rfl rfl rfl ?_
              refine pv_callv (M := mX6_reckon) (as := []) (st := []) (kc2 := 0) (ks2 := 0) dX6_reckon_47 wd749 YX6_pop ⟨wd751, wd20⟩ (mk_get haT.2.1) rfl rfl (s_X6_pop g hT I12 aT haT) rfl rfl (Nat.le_of_ble_eq_true rfl) (by decide) rfl rfl 50 rfl (fun rv h1 q82 => ?_)
              obtain ⟨m83, n84, v87, rfl, rfl, I85, K86, pv87, qv87, rv87⟩ := q82
              have K86c := K86
              have K86 := K13.trans (K86.sub (fun _ _ q => q))
              show PV _ _ _ _ _ _ _ 50 [.ref aT, .int x0, .int x1, .int y9, pv_U] [.int v87] _
              refine pv_istore (M := mX6_reckon) (lo2 := [.ref aT, .int x0, .int x1, .int y9, .int v87]) dX6_reckon_50 52 rfl (by decide) rfl rfl ?_
              refine pv_iload (M := mX6_reckon) dX6_reckon_52 54 rfl rfl ?_
              refine pv_if_eq (M := mX6_reckon) (tgt := 61) dX6_reckon_54 57 rfl (by decide) (fun c88 => ?_) (fun c88 => ?_)
              · have c88 := iv_eq (X := v87.toInt) (Y := 0) c88 rfl (by decide)
                refine pv_iconst (M := mX6_reckon) (v := 0) dX6_reckon_61 62 rfl (by decide) ?_
                refine pv_aload_n (M := mX6_reckon) 0 dX6_reckon_62 63 rfl rfl rfl ?_
                refine mv_get (M := mX6_reckon) (v := .ref (aT + 1)) dX6_reckon_63 FX6 0 wd233 (by decide) haT.2.1 rfl rfl 66 rfl ?_
                refine pv_iload_n (M := mX6_reckon) 3 dX6_reckon_66 67 rfl rfl rfl ?_
                refine iv_iald (M := mX6_reckon) (X := y9.toInt) (l1 := (-2147483648)) (l2 := 2147483647) dX6_reckon_67 (law_a1 haT) rfl (by omega) (by omega) I85 (law_c1 haT) 68 rfl (fun v89 ev89 pv89 qv89 => ?_)
                refine pv_bipush (M := mX6_reckon) (v := 124) dX6_reckon_68 70 rfl (by decide) ?_
                refine pv_icmp_ne (M := mX6_reckon) (tgt := 77) dX6_reckon_70 73 rfl (by decide) (fun c90 => ?_) (fun c90 => ?_)
                · have c90 := iv_ne (X := v89.toInt) (Y := 124) c90 rfl (by decide)
                  refine pv_iconst (M := mX6_reckon) (v := 0) dX6_reckon_77 78 rfl (by decide) ?_
                  refine pv_icmp_ne (M := mX6_reckon) (tgt := 100) dX6_reckon_78 81 rfl (by decide) (fun q => absurd (by decide) q) (fun _ => ?_)
                  refine pv_aload_n (M := mX6_reckon) 0 dX6_reckon_81 82 rfl rfl rfl ?_
                  refine pv_iload (M := mX6_reckon) dX6_reckon_82 84 rfl rfl ?_
                  refine pv_callv (M := mX6_reckon) (as := [.int v87]) (st := []) (kc2 := 0) (ks2 := 0) dX6_reckon_84 wd753 YX6_push ⟨wd755, wd21⟩ (mk_get haT.2.1) rfl rfl (s_X6_push g hT I85 aT haT v87) rfl rfl (Nat.le_of_ble_eq_true rfl) (by decide) rfl rfl 87 rfl (fun rv h1 q92 => ?_)
                  obtain ⟨m93, n94, rfl, rfl, I95, K96, rm93⟩ := q92
                  have K96c := K96
                  have K96 := K86.trans (K96.sub (fun _ _ q => q))
                  show PV _ _ _ _ _ _ _ 87 [.ref aT, .int x0, .int x1, .int y9, .int v87] [] _
                  refine pv_iload_n (M := mX6_reckon) 3 dX6_reckon_87 88 rfl rfl rfl ?_
                  refine pv_aload_n (M := mX6_reckon) 0 dX6_reckon_88 89 rfl rfl rfl ?_
                  refine mv_get (M := mX6_reckon) (v := .ref (aT + 2)) dX6_reckon_89 FX6 1 wd234 (by decide) haT.2.1 rfl rfl 92 rfl ?_
                  refine pv_iload_n (M := mX6_reckon) 3 dX6_reckon_92 93 rfl rfl rfl ?_
                  refine iv_iald (M := mX6_reckon) (X := y9.toInt) (l1 := (-1)) (l2 := 99999) dX6_reckon_93 (law_a2 haT) rfl (by omega) (by omega) I95 (law_c2 haT) 94 rfl (fun v97 ev97 pv97 qv97 => ?_)
                  refine pv_iconst (M := mX6_reckon) (v := 1) dX6_reckon_94 95 rfl (by decide) ?_
                  refine iv_isub (M := mX6_reckon) (X := v97.toInt) (Y := 1) dX6_reckon_95 96 rfl rfl (by decide) (by omega) (by omega) (fun v98 ev98 => ?_)
                  refine iv_max (M := mX6_reckon) (X := y9.toInt) (Y := v98.toInt) dX6_reckon_96 wd682 Wmmax (Nat.le_of_ble_eq_true rfl) (by decide) rfl rfl 99 rfl (fun v99 ev99 fv99 gv99 => ?_)
                  refine pv_istore_n (M := mX6_reckon) 3 (lo2 := [.ref aT, .int x0, .int x1, .int v99, .int v87]) dX6_reckon_99 100 rfl rfl (by decide) rfl rfl ?_
                  refine pv_goto (M := mX6_reckon) (tgt := 119) dX6_reckon_100 (by decide) ?_
                  refine iv_inc (M := mX6_reckon) (C := 1) dX6_reckon_119 122 rfl rfl (by decide) rfl rfl (by decide) (by omega) (by omega) (fun v100 ev100 => ?_)
                  show PV _ _ _ _ _ _ _ 122 [.ref aT, .int x0, .int x1, .int v100, .int v87] [] _
                  refine pv_goto (M := mX6_reckon) (tgt := 12) dX6_reckon_122 (by decide) ?_
                  refine pv_fg (lo2 := [.ref aT, .int x0, .int x1, .int v100, pv_U]) ⟨Or.inr rfl, ⟨Or.inr rfl, ⟨Or.inr rfl, ⟨Or.inr rfl, ⟨Or.inl rfl, trivial⟩⟩⟩⟩⟩ ?_
                  exact ih16 v100 m93 n94 (by first | omega | assumption | exact (iv_rng _).2 | exact (iv_rng _).1 | decide) (by first | omega | assumption | exact (iv_rng _).2 | exact (iv_rng _).1 | decide) I95 K96 (by omega)
                · have c90 := iv_eq (X := v89.toInt) (Y := 124) c90 rfl (by decide)
                  refine pv_iconst (M := mX6_reckon) (v := 1) dX6_reckon_73 74 rfl (by decide) ?_
                  refine pv_goto (M := mX6_reckon) (tgt := 78) dX6_reckon_74 (by decide) ?_
                  refine pv_icmp_ne (M := mX6_reckon) (tgt := 100) dX6_reckon_78 81 rfl (by decide) (fun _ => ?_) (fun q => absurd q (by decide))
                  refine pv_goto (M := mX6_reckon) (tgt := 119) dX6_reckon_100 (by decide) ?_
                  refine iv_inc (M := mX6_reckon) (C := 1) dX6_reckon_119 122 rfl rfl (by decide) rfl rfl (by decide) (by omega) (by omega) (fun v102 ev102 => ?_)
                  show PV _ _ _ _ _ _ _ 122 [.ref aT, .int x0, .int x1, .int v102, .int v87] [] _
                  refine pv_goto (M := mX6_reckon) (tgt := 12) dX6_reckon_122 (by decide) ?_
                  refine pv_fg (lo2 := [.ref aT, .int x0, .int x1, .int v102, pv_U]) ⟨Or.inr rfl, ⟨Or.inr rfl, ⟨Or.inr rfl, ⟨Or.inr rfl, ⟨Or.inl rfl, trivial⟩⟩⟩⟩⟩ ?_
                  exact ih16 v102 m83 n84 (by first | omega | assumption | exact (iv_rng _).2 | exact (iv_rng _).1 | decide) (by first | omega | assumption | exact (iv_rng _).2 | exact (iv_rng _).1 | decide) I85 K86 (by omega)
              · have c88 := iv_ne (X := v87.toInt) (Y := 0) c88 rfl (by decide)
                refine pv_iconst (M := mX6_reckon) (v := 1) dX6_reckon_57 58 rfl (by decide) ?_
                refine pv_goto (M := mX6_reckon) (tgt := 62) dX6_reckon_58 (by decide) ?_
                refine pv_aload_n (M := mX6_reckon) 0 dX6_reckon_62 63 rfl rfl rfl ?_
                refine mv_get (M := mX6_reckon) (v := .ref (aT + 1)) dX6_reckon_63 FX6 0 wd233 (by decide) haT.2.1 rfl rfl 66 rfl ?_
                refine pv_iload_n (M := mX6_reckon) 3 dX6_reckon_66 67 rfl rfl rfl ?_
                refine iv_iald (M := mX6_reckon) (X := y9.toInt) (l1 := (-2147483648)) (l2 := 2147483647) dX6_reckon_67 (law_a1 haT) rfl (by omega) (by omega) I85 (law_c1 haT) 68 rfl (fun v103 ev103 pv103 qv103 => ?_)
                refine pv_bipush (M := mX6_reckon) (v := 124) dX6_reckon_68 70 rfl (by decide) ?_
                refine pv_icmp_ne (M := mX6_reckon) (tgt := 77) dX6_reckon_70 73 rfl (by decide) (fun c104 => ?_) (fun c104 => ?_)
                · have c104 := iv_ne (X := v103.toInt) (Y := 124) c104 rfl (by decide)
                  refine pv_iconst (M := mX6_reckon) (v := 0) dX6_reckon_77 78 rfl (by decide) ?_
                  refine pv_icmp_ne (M := mX6_reckon) (tgt := 100) dX6_reckon_78 81 rfl (by decide) (fun _ => ?_) (fun q => absurd q (by decide))
                  refine pv_goto (M := mX6_reckon) (tgt := 119) dX6_reckon_100 (by decide) ?_
                  refine iv_inc (M := mX6_reckon) (C := 1) dX6_reckon_119 122 rfl rfl (by decide) rfl rfl (by decide) (by omega) (by omega) (fun v106 ev106 => ?_)
                  show PV _ _ _ _ _ _ _ 122 [.ref aT, .int x0, .int x1, .int v106, .int v87] [] _
                  refine pv_goto (M := mX6_reckon) (tgt := 12) dX6_reckon_122 (by decide) ?_
                  refine pv_fg (lo2 := [.ref aT, .int x0, .int x1, .int v106, pv_U]) ⟨Or.inr rfl, ⟨Or.inr rfl, ⟨Or.inr rfl, ⟨Or.inr rfl, ⟨Or.inl rfl, trivial⟩⟩⟩⟩⟩ ?_
                  exact ih16 v106 m83 n84 (by first | omega | assumption | exact (iv_rng _).2 | exact (iv_rng _).1 | decide) (by first | omega | assumption | exact (iv_rng _).2 | exact (iv_rng _).1 | decide) I85 K86 (by omega)
                · have c104 := iv_eq (X := v103.toInt) (Y := 124) c104 rfl (by decide)
                  refine pv_iconst (M := mX6_reckon) (v := 1) dX6_reckon_73 74 rfl (by decide) ?_
                  refine pv_goto (M := mX6_reckon) (tgt := 78) dX6_reckon_74 (by decide) ?_
                  refine pv_icmp_ne (M := mX6_reckon) (tgt := 100) dX6_reckon_78 81 rfl (by decide) (fun q => absurd (by decide) q) (fun _ => ?_)
                  refine pv_aload_n (M := mX6_reckon) 0 dX6_reckon_81 82 rfl rfl rfl ?_
                  refine pv_iload (M := mX6_reckon) dX6_reckon_82 84 rfl rfl ?_
                  refine pv_callv (M := mX6_reckon) (as := [.int v87]) (st := []) (kc2 := 0) (ks2 := 0) dX6_reckon_84 wd753 YX6_push ⟨wd755, wd21⟩ (mk_get haT.2.1) rfl rfl (s_X6_push g hT I85 aT haT v87) rfl rfl (Nat.le_of_ble_eq_true rfl) (by decide) rfl rfl 87 rfl (fun rv h1 q108 => ?_)
                  obtain ⟨m109, n110, rfl, rfl, I111, K112, rm109⟩ := q108
                  have K112c := K112
                  have K112 := K86.trans (K112.sub (fun _ _ q => q))
                  show PV _ _ _ _ _ _ _ 87 [.ref aT, .int x0, .int x1, .int y9, .int v87] [] _
                  refine pv_iload_n (M := mX6_reckon) 3 dX6_reckon_87 88 rfl rfl rfl ?_
                  refine pv_aload_n (M := mX6_reckon) 0 dX6_reckon_88 89 rfl rfl rfl ?_
                  refine mv_get (M := mX6_reckon) (v := .ref (aT + 2)) dX6_reckon_89 FX6 1 wd234 (by decide) haT.2.1 rfl rfl 92 rfl ?_
                  refine pv_iload_n (M := mX6_reckon) 3 dX6_reckon_92 93 rfl rfl rfl ?_
                  refine iv_iald (M := mX6_reckon) (X := y9.toInt) (l1 := (-1)) (l2 := 99999) dX6_reckon_93 (law_a2 haT) rfl (by omega) (by omega) I111 (law_c2 haT) 94 rfl (fun v113 ev113 pv113 qv113 => ?_)
                  refine pv_iconst (M := mX6_reckon) (v := 1) dX6_reckon_94 95 rfl (by decide) ?_
                  refine iv_isub (M := mX6_reckon) (X := v113.toInt) (Y := 1) dX6_reckon_95 96 rfl rfl (by decide) (by omega) (by omega) (fun v114 ev114 => ?_)
                  refine iv_max (M := mX6_reckon) (X := y9.toInt) (Y := v114.toInt) dX6_reckon_96 wd682 Wmmax (Nat.le_of_ble_eq_true rfl) (by decide) rfl rfl 99 rfl (fun v115 ev115 fv115 gv115 => ?_)
                  refine pv_istore_n (M := mX6_reckon) 3 (lo2 := [.ref aT, .int x0, .int x1, .int v115, .int v87]) dX6_reckon_99 100 rfl rfl (by decide) rfl rfl ?_
                  refine pv_goto (M := mX6_reckon) (tgt := 119) dX6_reckon_100 (by decide) ?_
                  refine iv_inc (M := mX6_reckon) (C := 1) dX6_reckon_119 122 rfl rfl (by decide) rfl rfl (by decide) (by omega) (by omega) (fun v116 ev116 => ?_)
                  show PV _ _ _ _ _ _ _ 122 [.ref aT, .int x0, .int x1, .int v116, .int v87] [] _
                  refine pv_goto (M := mX6_reckon) (tgt := 12) dX6_reckon_122 (by decide) ?_
                  refine pv_fg (lo2 := [.ref aT, .int x0, .int x1, .int v116, pv_U]) ⟨Or.inr rfl, ⟨Or.inr rfl, ⟨Or.inr rfl, ⟨Or.inr rfl, ⟨Or.inl rfl, trivial⟩⟩⟩⟩⟩ ?_
                  exact ih16 v116 m109 n110 (by first | omega | assumption | exact (iv_rng _).2 | exact (iv_rng _).1 | decide) (by first | omega | assumption | exact (iv_rng _).2 | exact (iv_rng _).1 | decide) I111 K112 (by omega)
  exact lp15 (((160 - x0.toInt) : Int).toNat + 1) x0 m5 n (by first | omega | assumption | exact (iv_rng _).2 | exact (iv_rng _).1 | decide) (by first | omega | assumption | exact (iv_rng _).2 | exact (iv_rng _).1 | decide) I6 K7 (by omega)

set_option maxHeartbeats 2000000 in
set_option maxRecDepth 20000 in
theorem s_X6_holds (g : pv_G) {T : List mv_T} {m : Nat → Nat → Int32} {n : Nat → Nat → Int64} {r : Nat → Value} (hT : TX T) (I : IV BB m) (aT : Nat) (haT : LawAt T aT) (x0 : Int32) (hl0 : 0 ≤ x0.toInt) (hh0 : x0.toInt ≤ 11) : PM g mX6_holds yX6_holds (sqI T BB (wsL aT) r m 0 1 (fun m' v => True)) 4 0 0 [.ref aT, .int x0] (mk T m n r) := by
  have Kp : fr (wsL aT) m m := fr.rf
  have zwT := haT.1
  refine PM.of 1 (lo := [.ref aT, .int x0, pv_U]) rfl (by decide) rfl rfl (Nat.le_of_ble_eq_true rfl) ?_
  refine pv_aload_n (M := mX6_holds) 0 dX6_holds_0 1 rfl rfl rfl ?_
  refine pv_aload_n (M := mX6_holds) 0 dX6_holds_1 2 rfl rfl rfl ?_
  refine mv_get (M := mX6_holds) (v := .ref (aT + 5)) dX6_holds_2 FX6 5 wd238 (by decide) haT.2.1 rfl rfl 5 rfl ?_
  refine pv_iload_n (M := mX6_holds) 1 dX6_holds_5 6 rfl rfl rfl ?_
  refine iv_iald (M := mX6_holds) (X := x0.toInt) (l1 := 0) (l2 := 160) dX6_holds_6 (law_a5 haT) rfl (by omega) (by omega) I (law_c5 haT) 7 rfl (fun v1 ev1 pv1 qv1 => ?_)
  refine pv_aload_n (M := mX6_holds) 0 dX6_holds_7 8 rfl rfl rfl ?_
  refine mv_get (M := mX6_holds) (v := .ref (aT + 6)) dX6_holds_8 FX6 6 wd239 (by decide) haT.2.1 rfl rfl 11 rfl ?_
  refine pv_iload_n (M := mX6_holds) 1 dX6_holds_11 12 rfl rfl rfl ?_
  refine iv_iald (M := mX6_holds) (X := x0.toInt) (l1 := 0) (l2 := 160) dX6_holds_12 (law_a6 haT) rfl (by omega) (by omega) I (law_c6 haT) 13 rfl (fun v2 ev2 pv2 qv2 => ?_)
  refine pv_callv (M := mX6_holds) (as := [.int v1, .int v2]) (st := []) (kc2 := 0) (ks2 := 0) dX6_holds_13 wd745 YX6_reckon ⟨wd747, wd19⟩ (mk_get haT.2.1) rfl rfl (s_X6_reckon g hT I aT haT v1 (by omega) (by omega) v2 (by omega) (by omega)) rfl rfl (Nat.le_of_ble_eq_true rfl) (by decide) rfl rfl 16 rfl (fun rv h1 q3 => ?_)
  obtain ⟨m4, n5, v8, rfl, rfl, I6, K7, pv8, qv8, rv8⟩ := q3
  have K7c := K7
  have K7 := Kp.trans (K7.sub (fun _ _ q => q))
  show PV _ _ _ _ _ _ _ 16 [.ref aT, .int x0, pv_U] [.int v8] _
  refine pv_istore_n (M := mX6_holds) 2 (lo2 := [.ref aT, .int x0, .int v8]) dX6_holds_16 17 rfl rfl (by decide) rfl rfl ?_
  refine pv_aload_n (M := mX6_holds) 0 dX6_holds_17 18 rfl rfl rfl ?_
  refine iv_get (M := mX6_holds) (l1 := 0) (l2 := 1) dX6_holds_18 FX6 11 wd246 (by decide) haT.2.1 rfl I6 (law_b11 haT) 21 rfl (fun v9 ev9 pv9 qv9 => ?_)
  refine pv_if_ne (M := mX6_holds) (tgt := 32) dX6_holds_21 24 rfl (by decide) (fun c10 => ?_) (fun c10 => ?_)
  · have c10 := iv_ne (X := v9.toInt) (Y := 0) c10 rfl (by decide)
    refine pv_iconst (M := mX6_holds) (v := 0) dX6_holds_32 33 rfl (by decide) ?_
    exact pv_iret (M := mX6_holds) dX6_holds_33 rfl rfl ⟨_, _, _, rfl, rfl, I6, K7, by decide, by decide, trivial⟩
  · have c10 := iv_eq (X := v9.toInt) (Y := 0) c10 rfl (by decide)
    refine pv_iload_n (M := mX6_holds) 2 dX6_holds_24 25 rfl rfl rfl ?_
    refine pv_if_eq (M := mX6_holds) (tgt := 32) dX6_holds_25 28 rfl (by decide) (fun c11 => ?_) (fun c11 => ?_)
    · have c11 := iv_eq (X := v8.toInt) (Y := 0) c11 rfl (by decide)
      refine pv_iconst (M := mX6_holds) (v := 0) dX6_holds_32 33 rfl (by decide) ?_
      exact pv_iret (M := mX6_holds) dX6_holds_33 rfl rfl ⟨_, _, _, rfl, rfl, I6, K7, by decide, by decide, trivial⟩
    · have c11 := iv_ne (X := v8.toInt) (Y := 0) c11 rfl (by decide)
      refine pv_iconst (M := mX6_holds) (v := 1) dX6_holds_28 29 rfl (by decide) ?_
      refine pv_goto (M := mX6_holds) (tgt := 33) dX6_holds_29 (by decide) ?_
      exact pv_iret (M := mX6_holds) dX6_holds_33 rfl rfl ⟨_, _, _, rfl, rfl, I6, K7, by decide, by decide, trivial⟩

set_option maxHeartbeats 2000000 in
set_option maxRecDepth 20000 in
theorem s_X6_forbids (g : pv_G) {T : List mv_T} {m : Nat → Nat → Int32} {n : Nat → Nat → Int64} {r : Nat → Value} (hT : TX T) (I : IV BB m) (aT : Nat) (haT : LawAt T aT) : PM g mX6_forbids yX6_forbids (sqI T BB (wsL aT) r m 0 1 (fun m' v => True)) 5 0 0 [.ref aT] (mk T m n r) := by
  have Kp : fr (wsL aT) m m := fr.rf
  have zwT := haT.1
  refine PM.of 1 (lo := [.ref aT, pv_U]) rfl (by decide) rfl rfl (Nat.le_of_ble_eq_true rfl) ?_
  refine pv_iconst (M := mX6_forbids) (v := 0) dX6_forbids_0 1 rfl (by decide) ?_
  refine pv_istore_n (M := mX6_forbids) 1 (lo2 := [.ref aT, .int 0]) dX6_forbids_1 2 rfl rfl (by decide) rfl rfl ?_
  have lp7 : ∀ (fuel6 : Nat) (y1 : Int32) (m2 : Nat → Nat → Int32) (n3 : Nat → Nat → Int64), (0 ≤ y1.toInt) → (y1.toInt ≤ 12) → IV BB m2 → fr (wsL aT) m m2 → ((12 - y1.toInt) : Int).toNat < fuel6 → PV none g mX6_forbids (sqI T BB (wsL aT) r m 0 1 (fun m' v => True)) 5 0 0 2 [.ref aT, .int y1] [] (mk T m2 n3 r) := by
    intro fuel6
    induction fuel6 with
    | zero => intro y1 m2 n3 b9 b10 I4 K5 z11; omega
    | succ fuel6 ih8 =>
      intro y1 m2 n3 b9 b10 I4 K5 z11
      refine pv_iload_n (M := mX6_forbids) 1 dX6_forbids_2 3 rfl rfl rfl ?_
      refine pv_aload_n (M := mX6_forbids) 0 dX6_forbids_3 4 rfl rfl rfl ?_
      refine iv_get (M := mX6_forbids) (l1 := 0) (l2 := 12) dX6_forbids_4 FX6 7 wd240 (by decide) haT.2.1 rfl I4 (law_b7 haT) 7 rfl (fun v12 ev12 pv12 qv12 => ?_)
      refine pv_icmp_ge (M := mX6_forbids) (tgt := 37) dX6_forbids_7 10 rfl (by decide) (fun c13 => ?_) (fun c13 => ?_)
      · have c13 := iv_le (X := v12.toInt) (Y := y1.toInt) c13 rfl rfl
        refine pv_iconst (M := mX6_forbids) (v := 0) dX6_forbids_37 38 rfl (by decide) ?_
        exact pv_iret (M := mX6_forbids) dX6_forbids_38 rfl rfl ⟨_, _, _, rfl, rfl, I4, K5, by decide, by decide, trivial⟩
      · have c13 := iv_nle (X := v12.toInt) (Y := y1.toInt) c13 rfl rfl
        refine pv_aload_n (M := mX6_forbids) 0 dX6_forbids_10 11 rfl rfl rfl ?_
        refine mv_get (M := mX6_forbids) (v := .ref (aT + 3)) dX6_forbids_11 FX6 3 wd236 (by decide) haT.2.1 rfl rfl 14 rfl ?_
        refine pv_iload_n (M := mX6_forbids) 1 dX6_forbids_14 15 rfl rfl rfl ?_
        refine iv_iald (M := mX6_forbids) (X := y1.toInt) (l1 := (-2147483648)) (l2 := 2147483647) dX6_forbids_15 (law_a3 haT) rfl (by omega) (by omega) I4 (law_c3 haT) 16 rfl (fun v14 ev14 pv14 qv14 => ?_)
        refine pv_bipush (M := mX6_forbids) (v := 110) dX6_forbids_16 18 rfl (by decide) ?_
        refine pv_icmp_ne (M := mX6_forbids) (tgt := 31) dX6_forbids_18 21 rfl (by decide) (fun c15 => ?_) (fun c15 => ?_)
        · have c15 := iv_ne (X := v14.toInt) (Y := 110) c15 rfl (by decide)
          refine iv_inc (M := mX6_forbids) (C := 1) dX6_forbids_31 34 rfl rfl (by decide) rfl rfl (by decide) (by omega) (by omega) (fun v16 ev16 => ?_)
          show PV _ _ _ _ _ _ _ 34 [.ref aT, .int v16] [] _
          refine pv_goto (M := mX6_forbids) (tgt := 2) dX6_forbids_34 (by decide) ?_
          exact ih8 v16 m2 n3 (by first | omega | assumption | exact (iv_rng _).2 | exact (iv_rng _).1 | decide) (by first | omega | assumption | exact (iv_rng _).2 | exact (iv_rng _).1 | decide) I4 K5 (by omega)
        · have c15 := iv_eq (X := v14.toInt) (Y := 110) c15 rfl (by decide)
          refine pv_aload_n (M := mX6_forbids) 0 dX6_forbids_21 22 rfl rfl rfl ?_
          refine pv_iload_n (M := mX6_forbids) 1 dX6_forbids_22 23 rfl rfl rfl ?_
          refine pv_callv (M := mX6_forbids) (as := [.int y1]) (st := []) (kc2 := 0) (ks2 := 0) dX6_forbids_23 wd741 YX6_holds ⟨wd743, wd18⟩ (mk_get haT.2.1) rfl rfl (s_X6_holds g hT I4 aT haT y1 (by omega) (by omega)) rfl rfl (Nat.le_of_ble_eq_true rfl) (by decide) rfl rfl 26 rfl (fun rv h1 q17 => ?_)
          obtain ⟨m18, n19, v22, rfl, rfl, I20, K21, pv22, qv22, rv22⟩ := q17
          have K21c := K21
          have K21 := K5.trans (K21.sub (fun _ _ q => q))
          show PV _ _ _ _ _ _ _ 26 [.ref aT, .int y1] [.int v22] _
          refine pv_if_eq (M := mX6_forbids) (tgt := 31) dX6_forbids_26 29 rfl (by decide) (fun c23 => ?_) (fun c23 => ?_)
          · have c23 := iv_eq (X := v22.toInt) (Y := 0) c23 rfl (by decide)
            refine iv_inc (M := mX6_forbids) (C := 1) dX6_forbids_31 34 rfl rfl (by decide) rfl rfl (by decide) (by omega) (by omega) (fun v24 ev24 => ?_)
            show PV _ _ _ _ _ _ _ 34 [.ref aT, .int v24] [] _
            refine pv_goto (M := mX6_forbids) (tgt := 2) dX6_forbids_34 (by decide) ?_
            exact ih8 v24 m18 n19 (by first | omega | assumption | exact (iv_rng _).2 | exact (iv_rng _).1 | decide) (by first | omega | assumption | exact (iv_rng _).2 | exact (iv_rng _).1 | decide) I20 K21 (by omega)
          · have c23 := iv_ne (X := v22.toInt) (Y := 0) c23 rfl (by decide)
            refine pv_iconst (M := mX6_forbids) (v := 1) dX6_forbids_29 30 rfl (by decide) ?_
            exact pv_iret (M := mX6_forbids) dX6_forbids_30 rfl rfl ⟨_, _, _, rfl, rfl, I20, K21, by decide, by decide, trivial⟩
  have z25 : (0 : Int32).toInt = 0 := by decide
  exact lp7 (((12 - 0) : Int).toNat + 1) 0 m n (by first | omega | assumption | exact (iv_rng _).2 | exact (iv_rng _).1 | decide) (by first | omega | assumption | exact (iv_rng _).2 | exact (iv_rng _).1 | decide) I Kp (by omega)

set_option maxHeartbeats 2000000 in
set_option maxRecDepth 20000 in
theorem s_X6_priceNow (g : pv_G) {T : List mv_T} {m : Nat → Nat → Int32} {n : Nat → Nat → Int64} {r : Nat → Value} (hT : TX T) (I : IV BB m) (aT : Nat) (haT : LawAt T aT) : PM g mX6_priceNow yX6_priceNow (sqI T BB (wsL aT) r m (-2147483648) 2147483647 (fun m' v => True)) 5 0 0 [.ref aT] (mk T m n r) := by
  have Kp : fr (wsL aT) m m := fr.rf
  have zwT := haT.1
  refine PM.of 2 (lo := [.ref aT, pv_U, pv_U]) rfl (by decide) rfl rfl (Nat.le_of_ble_eq_true rfl) ?_
  refine pv_iconst (M := mX6_priceNow) (v := 0) dX6_priceNow_0 1 rfl (by decide) ?_
  refine pv_istore_n (M := mX6_priceNow) 1 (lo2 := [.ref aT, .int 0, pv_U]) dX6_priceNow_1 2 rfl rfl (by decide) rfl rfl ?_
  have lp7 : ∀ (fuel6 : Nat) (y1 : Int32) (m2 : Nat → Nat → Int32) (n3 : Nat → Nat → Int64), (0 ≤ y1.toInt) → (y1.toInt ≤ 12) → IV BB m2 → fr (wsL aT) m m2 → ((12 - y1.toInt) : Int).toNat < fuel6 → PV none g mX6_priceNow (sqI T BB (wsL aT) r m (-2147483648) 2147483647 (fun m' v => True)) 5 0 0 2 [.ref aT, .int y1, pv_U] [] (mk T m2 n3 r) := by
    intro fuel6
    induction fuel6 with
    | zero => intro y1 m2 n3 b9 b10 I4 K5 z11; omega
    | succ fuel6 ih8 =>
      intro y1 m2 n3 b9 b10 I4 K5 z11
      refine pv_iload_n (M := mX6_priceNow) 1 dX6_priceNow_2 3 rfl rfl rfl ?_
      refine pv_aload_n (M := mX6_priceNow) 0 dX6_priceNow_3 4 rfl rfl rfl ?_
      refine iv_get (M := mX6_priceNow) (l1 := 0) (l2 := 12) dX6_priceNow_4 FX6 7 wd240 (by decide) haT.2.1 rfl I4 (law_b7 haT) 7 rfl (fun v12 ev12 pv12 qv12 => ?_)
      refine pv_icmp_ge (M := mX6_priceNow) (tgt := 74) dX6_priceNow_7 10 rfl (by decide) (fun c13 => ?_) (fun c13 => ?_)
      · have c13 := iv_le (X := v12.toInt) (Y := y1.toInt) c13 rfl rfl
        refine pv_iconst (M := mX6_priceNow) (v := 1) dX6_priceNow_74 75 rfl (by decide) ?_
        exact pv_iret (M := mX6_priceNow) dX6_priceNow_75 rfl rfl ⟨_, _, _, rfl, rfl, I4, K5, by decide, by decide, trivial⟩
      · have c13 := iv_nle (X := v12.toInt) (Y := y1.toInt) c13 rfl rfl
        refine pv_aload_n (M := mX6_priceNow) 0 dX6_priceNow_10 11 rfl rfl rfl ?_
        refine mv_get (M := mX6_priceNow) (v := .ref (aT + 3)) dX6_priceNow_11 FX6 3 wd236 (by decide) haT.2.1 rfl rfl 14 rfl ?_
        refine pv_iload_n (M := mX6_priceNow) 1 dX6_priceNow_14 15 rfl rfl rfl ?_
        refine iv_iald (M := mX6_priceNow) (X := y1.toInt) (l1 := (-2147483648)) (l2 := 2147483647) dX6_priceNow_15 (law_a3 haT) rfl (by omega) (by omega) I4 (law_c3 haT) 16 rfl (fun v14 ev14 pv14 qv14 => ?_)
        refine pv_bipush (M := mX6_priceNow) (v := 112) dX6_priceNow_16 18 rfl (by decide) ?_
        refine pv_icmp_ne (M := mX6_priceNow) (tgt := 68) dX6_priceNow_18 21 rfl (by decide) (fun c15 => ?_) (fun c15 => ?_)
        · have c15 := iv_ne (X := v14.toInt) (Y := 112) c15 rfl (by decide)
          refine iv_inc (M := mX6_priceNow) (C := 1) dX6_priceNow_68 71 rfl rfl (by decide) rfl rfl (by decide) (by omega) (by omega) (fun v16 ev16 => ?_)
          show PV _ _ _ _ _ _ _ 71 [.ref aT, .int v16, pv_U] [] _
          refine pv_goto (M := mX6_priceNow) (tgt := 2) dX6_priceNow_71 (by decide) ?_
          exact ih8 v16 m2 n3 (by first | omega | assumption | exact (iv_rng _).2 | exact (iv_rng _).1 | decide) (by first | omega | assumption | exact (iv_rng _).2 | exact (iv_rng _).1 | decide) I4 K5 (by omega)
        · have c15 := iv_eq (X := v14.toInt) (Y := 112) c15 rfl (by decide)
          refine pv_aload_n (M := mX6_priceNow) 0 dX6_priceNow_21 22 rfl rfl rfl ?_
          refine pv_iload_n (M := mX6_priceNow) 1 dX6_priceNow_22 23 rfl rfl rfl ?_
          refine pv_callv (M := mX6_priceNow) (as := [.int y1]) (st := []) (kc2 := 0) (ks2 := 0) dX6_priceNow_23 wd741 YX6_holds ⟨wd743, wd18⟩ (mk_get haT.2.1) rfl rfl (s_X6_holds g hT I4 aT haT y1 (by omega) (by omega)) rfl rfl (Nat.le_of_ble_eq_true rfl) (by decide) rfl rfl 26 rfl (fun rv h1 q17 => ?_)
          obtain ⟨m18, n19, v22, rfl, rfl, I20, K21, pv22, qv22, rv22⟩ := q17
          have K21c := K21
          have K21 := K5.trans (K21.sub (fun _ _ q => q))
          show PV _ _ _ _ _ _ _ 26 [.ref aT, .int y1, pv_U] [.int v22] _
          refine pv_if_eq (M := mX6_priceNow) (tgt := 68) dX6_priceNow_26 29 rfl (by decide) (fun c23 => ?_) (fun c23 => ?_)
          · have c23 := iv_eq (X := v22.toInt) (Y := 0) c23 rfl (by decide)
            refine iv_inc (M := mX6_priceNow) (C := 1) dX6_priceNow_68 71 rfl rfl (by decide) rfl rfl (by decide) (by omega) (by omega) (fun v24 ev24 => ?_)
            show PV _ _ _ _ _ _ _ 71 [.ref aT, .int v24, pv_U] [] _
            refine pv_goto (M := mX6_priceNow) (tgt := 2) dX6_priceNow_71 (by decide) ?_
            exact ih8 v24 m18 n19 (by first | omega | assumption | exact (iv_rng _).2 | exact (iv_rng _).1 | decide) (by first | omega | assumption | exact (iv_rng _).2 | exact (iv_rng _).1 | decide) I20 K21 (by omega)
          · have c23 := iv_ne (X := v22.toInt) (Y := 0) c23 rfl (by decide)
            refine pv_aload_n (M := mX6_priceNow) 0 dX6_priceNow_29 30 rfl rfl rfl ?_
            refine pv_aload_n (M := mX6_priceNow) 0 dX6_priceNow_30 31 rfl rfl rfl ?_
            refine mv_get (M := mX6_priceNow) (v := .ref (aT + 4)) dX6_priceNow_31 FX6 4 wd237 (by decide) haT.2.1 rfl rfl 34 rfl ?_
            refine pv_iload_n (M := mX6_priceNow) 1 dX6_priceNow_34 35 rfl rfl rfl ?_
            refine iv_iald (M := mX6_priceNow) (X := y1.toInt) (l1 := 0) (l2 := 160) dX6_priceNow_35 (law_a4 haT) rfl (by omega) (by omega) I20 (law_c4 haT) 36 rfl (fun v25 ev25 pv25 qv25 => ?_)
            refine pv_aload_n (M := mX6_priceNow) 0 dX6_priceNow_36 37 rfl rfl rfl ?_
            refine mv_get (M := mX6_priceNow) (v := .ref (aT + 5)) dX6_priceNow_37 FX6 5 wd238 (by decide) haT.2.1 rfl rfl 40 rfl ?_
            refine pv_iload_n (M := mX6_priceNow) 1 dX6_priceNow_40 41 rfl rfl rfl ?_
            refine iv_iald (M := mX6_priceNow) (X := y1.toInt) (l1 := 0) (l2 := 160) dX6_priceNow_41 (law_a5 haT) rfl (by omega) (by omega) I20 (law_c5 haT) 42 rfl (fun v26 ev26 pv26 qv26 => ?_)
            refine pv_callv (M := mX6_priceNow) (as := [.int v25, .int v26]) (st := []) (kc2 := 0) (ks2 := 0) dX6_priceNow_42 wd745 YX6_reckon ⟨wd747, wd19⟩ (mk_get haT.2.1) rfl rfl (s_X6_reckon g hT I20 aT haT v25 (by omega) (by omega) v26 (by omega) (by omega)) rfl rfl (Nat.le_of_ble_eq_true rfl) (by decide) rfl rfl 45 rfl (fun rv h1 q27 => ?_)
            obtain ⟨m28, n29, v32, rfl, rfl, I30, K31, pv32, qv32, rv32⟩ := q27
            have K31c := K31
            have K31 := K21.trans (K31.sub (fun _ _ q => q))
            show PV _ _ _ _ _ _ _ 45 [.ref aT, .int y1, pv_U] [.int v32] _
            refine pv_istore_n (M := mX6_priceNow) 2 (lo2 := [.ref aT, .int y1, .int v32]) dX6_priceNow_45 46 rfl rfl (by decide) rfl rfl ?_
            refine pv_aload_n (M := mX6_priceNow) 0 dX6_priceNow_46 47 rfl rfl rfl ?_
            refine iv_get (M := mX6_priceNow) (l1 := 0) (l2 := 1) dX6_priceNow_47 FX6 11 wd246 (by decide) haT.2.1 rfl I30 (law_b11 haT) 50 rfl (fun v33 ev33 pv33 qv33 => ?_)
            refine pv_if_eq (M := mX6_priceNow) (tgt := 57) dX6_priceNow_50 53 rfl (by decide) (fun c34 => ?_) (fun c34 => ?_)
            · have c34 := iv_eq (X := v33.toInt) (Y := 0) c34 rfl (by decide)
              refine pv_iconst (M := mX6_priceNow) (v := 0) dX6_priceNow_57 58 rfl (by decide) ?_
              refine pv_bipush (M := mX6_priceNow) (v := 99) dX6_priceNow_58 60 rfl (by decide) ?_
              refine pv_iload_n (M := mX6_priceNow) 2 dX6_priceNow_60 61 rfl rfl rfl ?_
              refine iv_min (M := mX6_priceNow) (X := 99) (Y := v32.toInt) dX6_priceNow_61 wd768 Wmmin (Nat.le_of_ble_eq_true rfl) (by decide) (by decide) rfl 64 rfl (fun v35 ev35 fv35 gv35 => ?_)
              refine iv_max (M := mX6_priceNow) (X := 0) (Y := v35.toInt) dX6_priceNow_64 wd682 Wmmax (Nat.le_of_ble_eq_true rfl) (by decide) (by decide) rfl 67 rfl (fun v36 ev36 fv36 gv36 => ?_)
              exact pv_iret (M := mX6_priceNow) dX6_priceNow_67 rfl rfl ⟨_, _, _, rfl, rfl, I30, K31, (iv_rng v36).1, (iv_rng v36).2, trivial⟩
            · have c34 := iv_ne (X := v33.toInt) (Y := 0) c34 rfl (by decide)
              refine pv_iconst (M := mX6_priceNow) (v := 0) dX6_priceNow_53 54 rfl (by decide) ?_
              refine pv_goto (M := mX6_priceNow) (tgt := 67) dX6_priceNow_54 (by decide) ?_
              exact pv_iret (M := mX6_priceNow) dX6_priceNow_67 rfl rfl ⟨_, _, _, rfl, rfl, I30, K31, by decide, by decide, trivial⟩
  have z37 : (0 : Int32).toInt = 0 := by decide
  exact lp7 (((12 - 0) : Int).toNat + 1) 0 m n (by first | omega | assumption | exact (iv_rng _).2 | exact (iv_rng _).1 | decide) (by first | omega | assumption | exact (iv_rng _).2 | exact (iv_rng _).1 | decide) I Kp (by omega)

set_option maxHeartbeats 2000000 in
set_option maxRecDepth 20000 in
theorem s_X6_show (g : pv_G) {T : List mv_T} {m : Nat → Nat → Int32} {n : Nat → Nat → Int64} {r : Nat → Value} (hT : TX T) (I : IV BB m) (aT : Nat) (haT : LawAt T aT) (a0 : Nat) (ha0 : BlankAt T a0) (x1 : Int32) (x2 : Int32) (x3 : Int32) (x4 : Int32) : PM g mX6_show yX6_show (sqV T BB (wl [((aT + 7), (aT + 7), none)]) r m (fun m' => True)) 2 0 0 [.ref aT, .ref a0, .int x1, .int x2, .int x3, .int x4] (mk T m n r) := by
  have Kp : fr (wl [((aT + 7), (aT + 7), none)]) m m := fr.rf
  have zwT := haT.1
  have zb0 := ha0.2.2.2.2.2.2.2
  refine PM.of 1 (lo := [.ref aT, .ref a0, .int x1, .int x2, .int x3, .int x4, pv_U]) rfl (by decide) rfl rfl (Nat.le_of_ble_eq_true rfl) ?_
  refine pv_aload_n (M := mX6_show) 1 dX6_show_0 1 rfl rfl rfl ?_
  refine pv_iload_n (M := mX6_show) 3 dX6_show_1 2 rfl rfl rfl ?_
  refine pv_callv (M := mX6_show) (as := [.int x2]) (st := []) (kc2 := 0) (ks2 := 0) dX6_show_2 wd727 YX0_ownAt ⟨wd709, wd710⟩ (mk_get ha0.1) rfl rfl (s_X0_ownAt g hT I a0 ha0 x2) rfl rfl (Nat.le_of_ble_eq_true rfl) (by decide) rfl rfl 5 rfl (fun rv h1 q1 => ?_)
  obtain ⟨v2, rfl, rfl, pv2, qv2, rv2⟩ := q1
  show PV _ _ _ _ _ _ _ 5 [.ref aT, .ref a0, .int x1, .int x2, .int x3, .int x4, pv_U] [.int v2] _
  refine pv_istore (M := mX6_show) (lo2 := [.ref aT, .ref a0, .int x1, .int x2, .int x3, .int x4, .int v2]) dX6_show_5 7 rfl (by decide) rfl rfl ?_
  refine pv_aload_n (M := mX6_show) 0 dX6_show_7 8 rfl rfl rfl ?_
  refine mv_get (M := mX6_show) (v := .ref (aT + 7)) dX6_show_8 FX6 8 wd243 (by decide) haT.2.1 rfl rfl 11 rfl ?_
  refine pv_iconst (M := mX6_show) (v := 0) dX6_show_11 12 rfl (by decide) ?_
  refine pv_aload_n (M := mX6_show) 1 dX6_show_12 13 rfl rfl rfl ?_
  refine mv_get (M := mX6_show) (v := .ref (a0 + 3)) dX6_show_13 FX0 1 wd211 (by decide) ha0.1 rfl rfl 16 rfl ?_
  refine pv_iload_n (M := mX6_show) 3 dX6_show_16 17 rfl rfl rfl ?_
  refine pv_callv (M := mX6_show) (as := [.int x2]) (st := [.int 0, .ref (aT + 7)]) (kc2 := 0) (ks2 := 0) dX6_show_17 wd728 YX8_at ⟨wd705, wd706⟩ (mk_get ha0.2.2.1.1) rfl rfl (s_X8_at g hT I (a0 + 3) 40 ha0.2.2.1 x2) rfl rfl (Nat.le_of_ble_eq_true rfl) (by decide) rfl rfl 20 rfl (fun rv h1 q3 => ?_)
  obtain ⟨v4, rfl, rfl, pv4, qv4, rv4⟩ := q3
  replace rv4 : v4.toInt = atv m (a0 + 3) x2.toInt := rv4
  show PV _ _ _ _ _ _ _ 20 [.ref aT, .ref a0, .int x1, .int x2, .int x3, .int x4, .int v2] [.int v4, .int 0, .ref (aT + 7)] _
  refine iv_iast (M := mX6_show) (X := 0) (l1 := (-2147483648)) (l2 := 2147483647) dX6_show_20 (law_a7 haT) (by decide) (by omega) (by omega) I (law_c7 haT) (iv_rng v4).1 (iv_rng v4).2 21 rfl (fun m5 e8 I6 => ?_)
  have K7 := Kp.set e8 (wl_r (by omega) (by omega))
  refine pv_aload_n (M := mX6_show) 0 dX6_show_21 22 rfl rfl rfl ?_
  refine mv_get (M := mX6_show) (v := .ref (aT + 7)) dX6_show_22 FX6 8 wd243 (by decide) haT.2.1 rfl rfl 25 rfl ?_
  refine pv_iconst (M := mX6_show) (v := 1) dX6_show_25 26 rfl (by decide) ?_
  refine pv_iload_n (M := mX6_show) 3 dX6_show_26 27 rfl rfl rfl ?_
  refine iv_iast (M := mX6_show) (X := 1) (l1 := (-2147483648)) (l2 := 2147483647) dX6_show_27 (law_a7 haT) (by decide) (by omega) (by omega) I6 (law_c7 haT) (iv_rng x2).1 (iv_rng x2).2 28 rfl (fun m9 e12 I10 => ?_)
  have K11 := K7.set e12 (wl_r (by omega) (by omega))
  refine pv_aload_n (M := mX6_show) 0 dX6_show_28 29 rfl rfl rfl ?_
  refine mv_get (M := mX6_show) (v := .ref (aT + 7)) dX6_show_29 FX6 8 wd243 (by decide) haT.2.1 rfl rfl 32 rfl ?_
  refine pv_iconst (M := mX6_show) (v := 2) dX6_show_32 33 rfl (by decide) ?_
  refine pv_iload (M := mX6_show) dX6_show_33 35 rfl rfl ?_
  refine iv_iast (M := mX6_show) (X := 2) (l1 := (-2147483648)) (l2 := 2147483647) dX6_show_35 (law_a7 haT) (by decide) (by omega) (by omega) I10 (law_c7 haT) (iv_rng v2).1 (iv_rng v2).2 36 rfl (fun m13 e16 I14 => ?_)
  have K15 := K11.set e16 (wl_r (by omega) (by omega))
  refine pv_aload_n (M := mX6_show) 0 dX6_show_36 37 rfl rfl rfl ?_
  refine mv_get (M := mX6_show) (v := .ref (aT + 7)) dX6_show_37 FX6 8 wd243 (by decide) haT.2.1 rfl rfl 40 rfl ?_
  refine pv_iconst (M := mX6_show) (v := 3) dX6_show_40 41 rfl (by decide) ?_
  refine pv_aload_n (M := mX6_show) 1 dX6_show_41 42 rfl rfl rfl ?_
  refine mv_get (M := mX6_show) (v := .ref (a0 + 3)) dX6_show_42 FX0 1 wd211 (by decide) ha0.1 rfl rfl 45 rfl ?_
  refine iv_get (M := mX6_show) (l1 := 0) (l2 := 40) dX6_show_45 FX8 1 wd201 (by decide) ha0.2.2.1.1 rfl I14 ha0.2.2.1.2.2.1 48 rfl (fun v17 ev17 pv17 qv17 => ?_)
  refine iv_iast (M := mX6_show) (X := 3) (l1 := (-2147483648)) (l2 := 2147483647) dX6_show_48 (law_a7 haT) (by decide) (by omega) (by omega) I14 (law_c7 haT) (iv_rng v17).1 (iv_rng v17).2 49 rfl (fun m18 e21 I19 => ?_)
  have K20 := K15.set e21 (wl_r (by omega) (by omega))
  refine pv_aload_n (M := mX6_show) 0 dX6_show_49 50 rfl rfl rfl ?_
  refine mv_get (M := mX6_show) (v := .ref (aT + 7)) dX6_show_50 FX6 8 wd243 (by decide) haT.2.1 rfl rfl 53 rfl ?_
  refine pv_iconst (M := mX6_show) (v := 4) dX6_show_53 54 rfl (by decide) ?_
  refine pv_aload_n (M := mX6_show) 1 dX6_show_54 55 rfl rfl rfl ?_
  refine pv_aload_n (M := mX6_show) 0 dX6_show_55 56 rfl rfl rfl ?_
  refine mv_get (M := mX6_show) (v := .ref (aT + 7)) dX6_show_56 FX6 8 wd243 (by decide) haT.2.1 rfl rfl 59 rfl ?_
  refine pv_iconst (M := mX6_show) (v := 0) dX6_show_59 60 rfl (by decide) ?_
  refine iv_iald (M := mX6_show) (X := 0) (l1 := (-2147483648)) (l2 := 2147483647) dX6_show_60 (law_a7 haT) (by decide) (by omega) (by omega) I19 (law_c7 haT) 61 rfl (fun v22 ev22 pv22 qv22 => ?_)
  refine pv_callv (M := mX6_show) (as := [.int v22]) (st := [.int 4, .ref (aT + 7)]) (kc2 := 0) (ks2 := 0) dX6_show_61 wd729 YX0_howOften ⟨wd730, wd731⟩ (mk_get ha0.1) rfl rfl (s_X0_howOften g hT I19 a0 ha0 v22) rfl rfl (Nat.le_of_ble_eq_true rfl) (by decide) rfl rfl 64 rfl (fun rv h1 q23 => ?_)
  obtain ⟨v24, rfl, rfl, pv24, qv24, rv24⟩ := q23
  show PV _ _ _ _ _ _ _ 64 [.ref aT, .ref a0, .int x1, .int x2, .int x3, .int x4, .int v2] [.int v24, .int 4, .ref (aT + 7)] _
  refine iv_iast (M := mX6_show) (X := 4) (l1 := (-2147483648)) (l2 := 2147483647) dX6_show_64 (law_a7 haT) (by decide) (by omega) (by omega) I19 (law_c7 haT) (iv_rng v24).1 (iv_rng v24).2 65 rfl (fun m25 e28 I26 => ?_)
  have K27 := K20.set e28 (wl_r (by omega) (by omega))
  refine pv_aload_n (M := mX6_show) 0 dX6_show_65 66 rfl rfl rfl ?_
  refine mv_get (M := mX6_show) (v := .ref (aT + 7)) dX6_show_66 FX6 8 wd243 (by decide) haT.2.1 rfl rfl 69 rfl ?_
  refine pv_iconst (M := mX6_show) (v := 5) dX6_show_69 70 rfl (by decide) ?_
  refine pv_iload (M := mX6_show) dX6_show_70 72 rfl rfl ?_
  refine iv_iast (M := mX6_show) (X := 5) (l1 := (-2147483648)) (l2 := 2147483647) dX6_show_72 (law_a7 haT) (by decide) (by omega) (by omega) I26 (law_c7 haT) (iv_rng x3).1 (iv_rng x3).2 73 rfl (fun m29 e32 I30 => ?_)
  have K31 := K27.set e32 (wl_r (by omega) (by omega))
  refine pv_aload_n (M := mX6_show) 0 dX6_show_73 74 rfl rfl rfl ?_
  refine mv_get (M := mX6_show) (v := .ref (aT + 7)) dX6_show_74 FX6 8 wd243 (by decide) haT.2.1 rfl rfl 77 rfl ?_
  refine pv_bipush (M := mX6_show) (v := 6) dX6_show_77 79 rfl (by decide) ?_
  refine pv_iload (M := mX6_show) dX6_show_79 81 rfl rfl ?_
  refine iv_iast (M := mX6_show) (X := 6) (l1 := (-2147483648)) (l2 := 2147483647) dX6_show_81 (law_a7 haT) (by decide) (by omega) (by omega) I30 (law_c7 haT) (iv_rng x4).1 (iv_rng x4).2 82 rfl (fun m33 e36 I34 => ?_)
  have K35 := K31.set e36 (wl_r (by omega) (by omega))
  refine pv_aload_n (M := mX6_show) 0 dX6_show_82 83 rfl rfl rfl ?_
  refine mv_get (M := mX6_show) (v := .ref (aT + 7)) dX6_show_83 FX6 8 wd243 (by decide) haT.2.1 rfl rfl 86 rfl ?_
  refine pv_bipush (M := mX6_show) (v := 7) dX6_show_86 88 rfl (by decide) ?_
  refine pv_iload_n (M := mX6_show) 2 dX6_show_88 89 rfl rfl rfl ?_
  refine iv_iast (M := mX6_show) (X := 7) (l1 := (-2147483648)) (l2 := 2147483647) dX6_show_89 (law_a7 haT) (by decide) (by omega) (by omega) I34 (law_c7 haT) (iv_rng x1).1 (iv_rng x1).2 90 rfl (fun m37 e40 I38 => ?_)
  have K39 := K35.set e40 (wl_r (by omega) (by omega))
  refine pv_aload_n (M := mX6_show) 0 dX6_show_90 91 rfl rfl rfl ?_
  refine mv_get (M := mX6_show) (v := .ref (aT + 7)) dX6_show_91 FX6 8 wd243 (by decide) haT.2.1 rfl rfl 94 rfl ?_
  refine pv_bipush (M := mX6_show) (v := 8) dX6_show_94 96 rfl (by decide) ?_
  refine pv_aload_n (M := mX6_show) 1 dX6_show_96 97 rfl rfl rfl ?_
  refine pv_iload (M := mX6_show) dX6_show_97 99 rfl rfl ?_
  refine pv_iconst (M := mX6_show) (v := 1) dX6_show_99 100 rfl (by decide) ?_
  refine iv_subU (M := mX6_show) dX6_show_100 101 rfl (fun v41 ev41 => ?_)
  refine pv_callv (M := mX6_show) (as := [.int v41]) (st := [.int 8, .ref (aT + 7)]) (kc2 := 0) (ks2 := 0) dX6_show_101 wd733 YX0_goneAt ⟨wd734, wd735⟩ (mk_get ha0.1) rfl rfl (s_X0_goneAt g hT I38 a0 ha0 v41) rfl rfl (Nat.le_of_ble_eq_true rfl) (by decide) rfl rfl 104 rfl (fun rv h1 q42 => ?_)
  obtain ⟨v43, rfl, rfl, pv43, qv43, rv43⟩ := q42
  show PV _ _ _ _ _ _ _ 104 [.ref aT, .ref a0, .int x1, .int x2, .int x3, .int x4, .int v2] [.int v43, .int 8, .ref (aT + 7)] _
  refine iv_iast (M := mX6_show) (X := 8) (l1 := (-2147483648)) (l2 := 2147483647) dX6_show_104 (law_a7 haT) (by decide) (by omega) (by omega) I38 (law_c7 haT) (iv_rng v43).1 (iv_rng v43).2 105 rfl (fun m44 e47 I45 => ?_)
  have K46 := K39.set e47 (wl_r (by omega) (by omega))
  refine pv_aload_n (M := mX6_show) 0 dX6_show_105 106 rfl rfl rfl ?_
  refine mv_get (M := mX6_show) (v := .ref (aT + 7)) dX6_show_106 FX6 8 wd243 (by decide) haT.2.1 rfl rfl 109 rfl ?_
  refine pv_bipush (M := mX6_show) (v := 9) dX6_show_109 111 rfl (by decide) ?_
  refine pv_aload_n (M := mX6_show) 1 dX6_show_111 112 rfl rfl rfl ?_
  refine pv_iload (M := mX6_show) dX6_show_112 114 rfl rfl ?_
  refine pv_iconst (M := mX6_show) (v := 1) dX6_show_114 115 rfl (by decide) ?_
  refine iv_addU (M := mX6_show) dX6_show_115 116 rfl (fun v48 ev48 => ?_)
  refine pv_callv (M := mX6_show) (as := [.int v48]) (st := [.int 9, .ref (aT + 7)]) (kc2 := 0) (ks2 := 0) dX6_show_116 wd733 YX0_goneAt ⟨wd734, wd735⟩ (mk_get ha0.1) rfl rfl (s_X0_goneAt g hT I45 a0 ha0 v48) rfl rfl (Nat.le_of_ble_eq_true rfl) (by decide) rfl rfl 119 rfl (fun rv h1 q49 => ?_)
  obtain ⟨v50, rfl, rfl, pv50, qv50, rv50⟩ := q49
  show PV _ _ _ _ _ _ _ 119 [.ref aT, .ref a0, .int x1, .int x2, .int x3, .int x4, .int v2] [.int v50, .int 9, .ref (aT + 7)] _
  refine iv_iast (M := mX6_show) (X := 9) (l1 := (-2147483648)) (l2 := 2147483647) dX6_show_119 (law_a7 haT) (by decide) (by omega) (by omega) I45 (law_c7 haT) (iv_rng v50).1 (iv_rng v50).2 120 rfl (fun m51 e54 I52 => ?_)
  have K53 := K46.set e54 (wl_r (by omega) (by omega))
  exact pv_vret (M := mX6_show) dX6_show_120 rfl ⟨_, _, rfl, rfl, I52, K53, trivial⟩
