set_option maxHeartbeats 2000000 in
set_option maxRecDepth 20000 in
theorem s_X12_chain (g : pv_G) {T : List mv_T} {m : Nat → Nat → Int32} {n : Nat → Nat → Int64} {r : Nat → Value} (hT : TX T) (I : IV BB m) (x0 : Int32) (x1 : Int32) : PM g mX12_chain yX12_chain (sqI T BB (wl [(123, 123, some 40), (123, 123, some 41), (149, 149, none), (150, 150, none), (167, 167, none), (168, 168, none)]) r m (-2147483648) 2147483647 (fun m' v => True)) 3 0 0 [.ref 123, .int x0, .int x1] (mk T m n r) := by
  have Kp : fr (wl [(123, 123, some 40), (123, 123, some 41), (149, 149, none), (150, 150, none), (167, 167, none), (168, 168, none)]) m m := fr.rf
  refine PM.of 5 (lo := [.ref 123, .int x0, .int x1, pv_U, pv_U, pv_U, pv_U, pv_U]) rfl (by decide) rfl rfl (Nat.le_of_ble_eq_true rfl) ?_
  refine pv_aload_n (M := mX12_chain) 0 dX12_chain_0 1 rfl rfl rfl ?_
  refine pv_iload_n (M := mX12_chain) 1 dX12_chain_1 2 rfl rfl rfl ?_
  refine pv_callv (M := mX12_chain) (as := [.int x0]) (st := []) (kc2 := 0) (ks2 := 0) dX12_chain_2 wd1389 YX12_isBlank ⟨wd1391, wd55⟩ (mk_get (tl123 hT)) rfl rfl (s_X12_isBlank g hT I x0) rfl rfl (Nat.le_of_ble_eq_true rfl) (by decide) rfl rfl 5 rfl (fun rv h1 q1 => ?_)
  obtain ⟨v2, rfl, rfl, pv2, qv2, rv2⟩ := q1
  replace rv2 : v2 = 0 ∨ (0 ≤ x0.toInt ∧ x0.toInt ≤ 7) := rv2
  show PV _ _ _ _ _ _ _ 5 [.ref 123, .int x0, .int x1, pv_U, pv_U, pv_U, pv_U, pv_U] [.int v2] _
  refine pv_if_eq (M := mX12_chain) (tgt := 13) dX12_chain_5 8 rfl (by decide) (fun c3 => ?_) (fun c3 => ?_)
  · have c3 := iv_eq (X := v2.toInt) (Y := 0) c3 rfl (by decide)
    refine pv_iconst (M := mX12_chain) (v := (-1)) dX12_chain_13 14 rfl (by decide) ?_
    exact pv_iret (M := mX12_chain) dX12_chain_14 rfl rfl ⟨_, _, _, rfl, rfl, I, Kp, by decide, by decide, trivial⟩
  · have pc3 := rv2.resolve_left c3
    have c3 := iv_ne (X := v2.toInt) (Y := 0) c3 rfl (by decide)
    refine pv_iload_n (M := mX12_chain) 2 dX12_chain_8 9 rfl rfl rfl ?_
    refine pv_iconst (M := mX12_chain) (v := (-1)) dX12_chain_9 10 rfl (by decide) ?_
    refine pv_icmp_ge (M := mX12_chain) (tgt := 15) dX12_chain_10 13 rfl (by decide) (fun c4 => ?_) (fun c4 => ?_)
    · have c4 := iv_le (X := (-1)) (Y := x1.toInt) c4 (by decide) rfl
      refine pv_aload_n (M := mX12_chain) 0 dX12_chain_15 16 rfl rfl rfl ?_
      refine pv_iload_n (M := mX12_chain) 1 dX12_chain_16 17 rfl rfl rfl ?_
      refine pv_callv (M := mX12_chain) (as := [.int x0]) (st := []) (kc2 := 0) (ks2 := 0) dX12_chain_17 wd1761 YX12_laysFollows ⟨wd1763, wd119⟩ (mk_get (tl123 hT)) rfl rfl (s_X12_laysFollows g hT I x0 (by omega) (by omega)) rfl rfl (Nat.le_of_ble_eq_true rfl) (by decide) rfl rfl 20 rfl (fun rv h1 q5 => ?_)
      obtain ⟨m6, n7, rfl, rfl, I8, K9, rm6⟩ := q5
      have K9c := K9
      have K9 := Kp.trans (K9.sub (wl_sub (by decide)))
      show PV _ _ _ _ _ _ _ 20 [.ref 123, .int x0, .int x1, pv_U, pv_U, pv_U, pv_U, pv_U] [] _
      refine pv_aload_n (M := mX12_chain) 0 dX12_chain_20 21 rfl rfl rfl ?_
      refine pv_callv (M := mX12_chain) (as := []) (st := []) (kc2 := 0) (ks2 := 0) dX12_chain_21 wd1765 YX12_laysLong ⟨wd1767, wd120⟩ (mk_get (tl123 hT)) rfl rfl (s_X12_laysLong g hT I8) rfl rfl (Nat.le_of_ble_eq_true rfl) (by decide) rfl rfl 24 rfl (fun rv h1 q10 => ?_)
      obtain ⟨m11, n12, rfl, rfl, I13, K14, rm11⟩ := q10
      replace rm11 : LTu m11 (-1) := rm11
      have K14c := K14
      have K14 := K9.trans (K14.sub (wl_sub (by decide)))
      show PV _ _ _ _ _ _ _ 24 [.ref 123, .int x0, .int x1, pv_U, pv_U, pv_U, pv_U, pv_U] [] _
      have kT := rm11
      refine pv_aload_n (M := mX12_chain) 0 dX12_chain_24 25 rfl rfl rfl ?_
      refine mv_get (M := mX12_chain) (v := .ref 168) dX12_chain_25 FX12 63 wd1236 (by decide) (tl123 hT) rfl rfl 28 rfl ?_
      refine pv_sipush (M := mX12_chain) (v := 2048) dX12_chain_28 31 rfl (by decide) ?_
      refine iv_iald (M := mX12_chain) (X := 2048) (l1 := (-2147483648)) (l2 := 2147483647) dX12_chain_31 (tl168 hT) (by decide) (by omega) (by omega) I13 (fun _ => rfl) 32 rfl (fun v16 ev16 pv16 qv16 => ?_)
      have k32 : v16.toInt = (m11 168 2048).toInt := congrArg Int32.toInt ev16
      refine pv_istore_n (M := mX12_chain) 3 (lo2 := [.ref 123, .int x0, .int x1, .int v16, pv_U, pv_U, pv_U, pv_U]) dX12_chain_32 33 rfl rfl (by decide) rfl rfl ?_
      refine pv_iload_n (M := mX12_chain) 2 dX12_chain_33 34 rfl rfl rfl ?_
      refine pv_iconst (M := mX12_chain) (v := (-1)) dX12_chain_34 35 rfl (by decide) ?_
      refine pv_icmp_ne (M := mX12_chain) (tgt := 40) dX12_chain_35 38 rfl (by decide) (fun c18 => ?_) (fun c18 => ?_)
      · have c18 := iv_ne (X := x1.toInt) (Y := (-1)) c18 rfl (by decide)
        refine pv_iload_n (M := mX12_chain) 2 dX12_chain_40 41 rfl rfl rfl ?_
        refine pv_iload_n (M := mX12_chain) 3 dX12_chain_41 42 rfl rfl rfl ?_
        refine pv_icmp_lt (M := mX12_chain) (tgt := 48) dX12_chain_42 45 rfl (by decide) (fun c19 => ?_) (fun c19 => ?_)
        · have c19 := iv_lt (X := x1.toInt) (Y := v16.toInt) c19 rfl rfl
          refine pv_bipush (M := mX12_chain) (v := 8) dX12_chain_48 50 rfl (by decide) ?_
          refine pv_istore (M := mX12_chain) (lo2 := [.ref 123, .int x0, .int x1, .int v16, .int 8, pv_U, pv_U, pv_U]) dX12_chain_50 52 rfl (by decide) rfl rfl ?_
          refine pv_iconst (M := mX12_chain) (v := 0) dX12_chain_52 53 rfl (by decide) ?_
          refine pv_istore (M := mX12_chain) (lo2 := [.ref 123, .int x0, .int x1, .int v16, .int 8, .int 0, pv_U, pv_U]) dX12_chain_53 55 rfl (by decide) rfl rfl ?_
          refine pv_iconst (M := mX12_chain) (v := 0) dX12_chain_55 56 rfl (by decide) ?_
          refine pv_istore (M := mX12_chain) (lo2 := [.ref 123, .int x0, .int x1, .int v16, .int 8, .int 0, .int 0, pv_U]) dX12_chain_56 58 rfl (by decide) rfl rfl ?_
          have lp28 : ∀ (fuel27 : Nat) (y20 : Int32) (y21 : Int32) (y22 : Int32), (0 ≤ y20.toInt) → (y20.toInt ≤ 8) → (0 ≤ y21.toInt) → (y21.toInt ≤ 255) → (0 ≤ y22.toInt) → (y22.toInt ≤ 2147483647) → (y22.toInt ≤ x1.toInt) → ((m11 168 (256 * y20.toInt + y21.toInt).toNat).toInt = v16.toInt - y22.toInt) → ((x1.toInt - y22.toInt) : Int).toNat < fuel27 → PV none g mX12_chain (sqI T BB (wl [(123, 123, some 40), (123, 123, some 41), (149, 149, none), (150, 150, none), (167, 167, none), (168, 168, none)]) r m (-2147483648) 2147483647 (fun m' v => True)) 3 0 0 58 [.ref 123, .int x0, .int x1, .int v16, .int y20, .int y21, .int y22, pv_U] [] (mk T m11 n12 r) := by
            intro fuel27
            induction fuel27 with
            | zero => intro y20 y21 y22 b30 b31 b32 b33 b34 b35 b36 b37 z38; omega
            | succ fuel27 ih29 =>
              intro y20 y21 y22 b30 b31 b32 b33 b34 b35 b36 b37 z38
              have kg := (show (m11 168 (256 * y20.toInt + y21.toInt).toNat).toInt = v16.toInt - y22.toInt by assumption)
              refine pv_iconst (M := mX12_chain) (v := 0) dX12_chain_58 59 rfl (by decide) ?_
              refine pv_istore (M := mX12_chain) (lo2 := [.ref 123, .int x0, .int x1, .int v16, .int y20, .int y21, .int y22, .int 0]) dX12_chain_59 61 rfl (by decide) rfl rfl ?_
              have lp46 : ∀ (fuel45 : Nat) (y40 : Int32), (0 ≤ y40.toInt) → (y40.toInt ≤ 7) → (LBW m11 y20 y21 y40.toInt (m11 168 (256 * y20.toInt + y21.toInt).toNat)) → ((7 - y40.toInt) : Int).toNat < fuel45 → PV none g mX12_chain (sqI T BB (wl [(123, 123, some 40), (123, 123, some 41), (149, 149, none), (150, 150, none), (167, 167, none), (168, 168, none)]) r m (-2147483648) 2147483647 (fun m' v => True)) 3 0 0 61 [.ref 123, .int x0, .int x1, .int v16, .int y20, .int y21, .int y22, .int y40] [] (mk T m11 n12 r) := by
                intro fuel45
                induction fuel45 with
                | zero => intro y40 b48 b49 b50 z51; omega
                | succ fuel45 ih47 =>
                  intro y40 b48 b49 b50 z51
                  have kw := (show LBW m11 y20 y21 y40.toInt (m11 168 (256 * y20.toInt + y21.toInt).toNat) by assumption)
                  refine pv_aload_n (M := mX12_chain) 0 dX12_chain_61 62 rfl rfl rfl ?_
                  refine pv_iload (M := mX12_chain) dX12_chain_62 64 rfl rfl ?_
                  refine pv_iload (M := mX12_chain) dX12_chain_64 66 rfl rfl ?_
                  refine pv_iload (M := mX12_chain) dX12_chain_66 68 rfl rfl ?_
                  refine pv_callv (M := mX12_chain) (as := [.int y20, .int y40, .int y21]) (st := []) (kc2 := 0) (ks2 := 0) dX12_chain_68 wd1769 YX12_longBy ⟨wd1771, wd121⟩ (mk_get (tl123 hT)) rfl rfl (s_X12_longBy g hT I13 y20 (by omega) (by omega) y40 (by omega) (by omega) y21 (by omega) (by omega)) rfl rfl (Nat.le_of_ble_eq_true rfl) (by decide) rfl rfl 71 rfl (fun rv h1 q53 => ?_)
                  obtain ⟨v54, rfl, rfl, pv54, qv54, rv54⟩ := q53
                  replace rv54 : LBv m11 y20 y40 y21 v54 := rv54
                  show PV _ _ _ _ _ _ _ 71 [.ref 123, .int x0, .int x1, .int v16, .int y20, .int y21, .int y22, .int y40] [.int v54] _
                  have kr := rv54
                  refine pv_aload_n (M := mX12_chain) 0 dX12_chain_71 72 rfl rfl rfl ?_
                  refine mv_get (M := mX12_chain) (v := .ref 168) dX12_chain_72 FX12 63 wd1236 (by decide) (tl123 hT) rfl rfl 75 rfl ?_
                  refine pv_sipush (M := mX12_chain) (v := 256) dX12_chain_75 78 rfl (by decide) ?_
                  refine pv_iload (M := mX12_chain) dX12_chain_78 80 rfl rfl ?_
                  refine iv_imul (M := mX12_chain) (X := 256) (Y := y20.toInt) dX12_chain_80 81 rfl (by decide) rfl (by omega) (by omega) (fun v56 ev56 => ?_)
                  refine pv_iload (M := mX12_chain) dX12_chain_81 83 rfl rfl ?_
                  refine iv_iadd (M := mX12_chain) (X := v56.toInt) (Y := y21.toInt) dX12_chain_83 84 rfl rfl rfl (by omega) (by omega) (fun v57 ev57 => ?_)
                  refine iv_iald (M := mX12_chain) (X := v57.toInt) (l1 := (-2147483648)) (l2 := 2147483647) dX12_chain_84 (tl168 hT) rfl (by omega) (by omega) I13 (fun _ => rfl) 85 rfl (fun v58 ev58 pv58 qv58 => ?_)
                  have k85 : v58.toInt = (m11 168 (256 * y20.toInt + y21.toInt).toNat).toInt := (congrArg Int32.toInt ev58).trans (congrArg (fun z => (m11 168 z).toInt) (by omega))
                  refine pv_icmp_eq (M := mX12_chain) (tgt := 97) dX12_chain_85 88 rfl (by decide) (fun c60 => ?_) (fun c60 => ?_)
                  · have c60 := iv_eq (X := v54.toInt) (Y := v58.toInt) c60 rfl rfl
                    have kq := LBv_pos kr (by omega)
                    refine pv_iload (M := mX12_chain) dX12_chain_97 99 rfl rfl ?_
                    refine pv_iload_n (M := mX12_chain) 2 dX12_chain_99 100 rfl rfl rfl ?_
                    refine pv_icmp_ne (M := mX12_chain) (tgt := 106) dX12_chain_100 103 rfl (by decide) (fun c62 => ?_) (fun c62 => ?_)
                    · have c62 := iv_ne (X := y22.toInt) (Y := x1.toInt) c62 rfl rfl
                      refine pv_iload (M := mX12_chain) dX12_chain_106 108 rfl rfl ?_
                      refine pv_istore (M := mX12_chain) (lo2 := [.ref 123, .int x0, .int x1, .int v16, .int y40, .int y21, .int y22, .int y40]) dX12_chain_108 110 rfl (by decide) rfl rfl ?_
                      refine pv_iload (M := mX12_chain) dX12_chain_110 112 rfl rfl ?_
                      refine pv_iconst (M := mX12_chain) (v := 1) dX12_chain_112 113 rfl (by decide) ?_
                      refine pv_iload (M := mX12_chain) dX12_chain_113 115 rfl rfl ?_
                      refine iv_shlU (M := mX12_chain) dX12_chain_115 116 rfl (fun v63 ev63 => ?_)
                      have pv63 : 1 ≤ v63.toInt ∧ v63.toInt ≤ 128 := by rw [ev63]; exact iv_sh17 (by omega) (by omega)
                      have k116 := ev63
                      refine iv_orU (M := mX12_chain) dX12_chain_116 117 rfl (fun v65 ev65 => ?_)
                      have pv65 : 0 ≤ v65.toInt ∧ v65.toInt ≤ 255 := by rw [ev65]; exact iv_or8 (by omega) (by omega) (by omega) (by omega)
                      have k117 : v65 = y21 ||| ((1 : Int32) <<< (y40 &&& 31)) := by rw [ev65, k116]
                      refine pv_istore (M := mX12_chain) (lo2 := [.ref 123, .int x0, .int x1, .int v16, .int y40, .int v65, .int y22, .int y40]) dX12_chain_117 119 rfl (by decide) rfl rfl ?_
                      have z68 := iv_rng y22
                      refine iv_inc (M := mX12_chain) (C := 1) dX12_chain_119 122 rfl rfl (by decide) rfl rfl (by decide) (by omega) (by omega) (fun v67 ev67 => ?_)
                      show PV _ _ _ _ _ _ _ 122 [.ref 123, .int x0, .int x1, .int v16, .int y40, .int v65, .int v67, .int y40] [] _
                      refine pv_goto (M := mX12_chain) (tgt := 58) dX12_chain_122 (by decide) ?_
                      refine pv_fg (lo2 := [.ref 123, .int x0, .int x1, .int v16, .int y40, .int v65, .int v67, pv_U]) ⟨Or.inr rfl, ⟨Or.inr rfl, ⟨Or.inr rfl, ⟨Or.inr rfl, ⟨Or.inr rfl, ⟨Or.inr rfl, ⟨Or.inr rfl, ⟨Or.inl rfl, trivial⟩⟩⟩⟩⟩⟩⟩⟩ ?_
                      have kv : (m11 168 (256 * y40.toInt + v65.toInt).toNat).toInt = v16.toInt - v67.toInt := by rw [k117]; omega
                      exact ih29 y40 v65 v67 (by first | omega | assumption | exact (iv_rng _).2 | exact (iv_rng _).1 | decide) (by first | omega | assumption | exact (iv_rng _).2 | exact (iv_rng _).1 | decide) (by first | omega | assumption | exact (iv_rng _).2 | exact (iv_rng _).1 | decide) (by first | omega | assumption | exact (iv_rng _).2 | exact (iv_rng _).1 | decide) (by first | omega | assumption | exact (iv_rng _).2 | exact (iv_rng _).1 | decide) (by first | omega | assumption | exact (iv_rng _).2 | exact (iv_rng _).1 | decide) (by first | omega | assumption | (show v67.toInt ≤ x1.toInt; omega) | decide) kv (by omega)
                    · have c62 := iv_eq (X := y22.toInt) (Y := x1.toInt) c62 rfl rfl
                      refine pv_iload (M := mX12_chain) dX12_chain_103 105 rfl rfl ?_
                      exact pv_iret (M := mX12_chain) dX12_chain_105 rfl rfl ⟨_, _, _, rfl, rfl, I13, K14, (iv_rng y40).1, (iv_rng y40).2, trivial⟩
                  · have c60 := iv_ne (X := v54.toInt) (Y := v58.toInt) c60 rfl rfl
                    refine pv_iload (M := mX12_chain) dX12_chain_88 90 rfl rfl ?_
                    refine pv_iconst (M := mX12_chain) (v := 1) dX12_chain_90 91 rfl (by decide) ?_
                    refine iv_iadd (M := mX12_chain) (X := y40.toInt) (Y := 1) dX12_chain_91 92 rfl rfl (by decide) (by omega) (by omega) (fun v70 ev70 => ?_)
                    refine pv_istore (M := mX12_chain) (lo2 := [.ref 123, .int x0, .int x1, .int v16, .int y20, .int y21, .int y22, .int v70]) dX12_chain_92 94 rfl (by decide) rfl rfl ?_
                    refine pv_goto (M := mX12_chain) (tgt := 61) dX12_chain_94 (by decide) ?_
                    have kwb : LBW m11 y20 y21 v70.toInt (m11 168 (256 * y20.toInt + y21.toInt).toNat) := by rw [show v70.toInt = y40.toInt + 1 by omega]; exact LBw_step kw kr (by omega)
                    have kx : v70.toInt ≤ 7 := kwb.le
                    exact ih47 v70 (by first | omega | assumption | exact (iv_rng _).2 | exact (iv_rng _).1 | decide) (by first | omega | assumption | exact (iv_rng _).2 | exact (iv_rng _).1 | decide) kwb (by omega)
              have z73 : (0 : Int32).toInt = 0 := by decide
              have kw0 : LBW m11 y20 y21 (0 : Int32).toInt (m11 168 (256 * y20.toInt + y21.toInt).toNat) := by rw [Int32.toInt_zero]; exact LBW.start (kT y20 y21 (by omega) (by omega) (by omega) (by omega) (by omega)) (by omega)
              exact lp46 (((7 - 0) : Int).toNat + 1) 0 (by first | omega | assumption | exact (iv_rng _).2 | exact (iv_rng _).1 | decide) (by first | omega | assumption | exact (iv_rng _).2 | exact (iv_rng _).1 | decide) kw0 (by omega)
          have z75 : (8 : Int32).toInt = 8 := by decide
          have z76 : (0 : Int32).toInt = 0 := by decide
          have z77 : (0 : Int32).toInt = 0 := by decide
          exact lp28 (((x1.toInt - 0) : Int).toNat + 1) 8 0 0 (by first | omega | assumption | exact (iv_rng _).2 | exact (iv_rng _).1 | decide) (by first | omega | assumption | exact (iv_rng _).2 | exact (iv_rng _).1 | decide) (by first | omega | assumption | exact (iv_rng _).2 | exact (iv_rng _).1 | decide) (by first | omega | assumption | exact (iv_rng _).2 | exact (iv_rng _).1 | decide) (by first | omega | assumption | exact (iv_rng _).2 | exact (iv_rng _).1 | decide) (by first | omega | assumption | exact (iv_rng _).2 | exact (iv_rng _).1 | decide) (by first | omega | assumption | (show 0 ≤ x1.toInt; omega) | decide) (by show (m11 168 (256 * (8 : Int32).toInt + (0 : Int32).toInt).toNat).toInt = _; rw [show (256 * (8 : Int32).toInt + (0 : Int32).toInt).toNat = 2048 by decide]; omega) (by omega)
        · have c19 := iv_nlt (X := x1.toInt) (Y := v16.toInt) c19 rfl rfl
          refine pv_bipush (M := mX12_chain) (v := (-2)) dX12_chain_45 47 rfl (by decide) ?_
          exact pv_iret (M := mX12_chain) dX12_chain_47 rfl rfl ⟨_, _, _, rfl, rfl, I13, K14, by decide, by decide, trivial⟩
      · have c18 := iv_eq (X := x1.toInt) (Y := (-1)) c18 rfl (by decide)
        refine pv_iload_n (M := mX12_chain) 3 dX12_chain_38 39 rfl rfl rfl ?_
        exact pv_iret (M := mX12_chain) dX12_chain_39 rfl rfl ⟨_, _, _, rfl, rfl, I13, K14, (iv_rng v16).1, (iv_rng v16).2, trivial⟩
    · have c4 := iv_nle (X := (-1)) (Y := x1.toInt) c4 (by decide) rfl
      refine pv_iconst (M := mX12_chain) (v := (-1)) dX12_chain_13 14 rfl (by decide) ?_
      exact pv_iret (M := mX12_chain) dX12_chain_14 rfl rfl ⟨_, _, _, rfl, rfl, I, Kp, by decide, by decide, trivial⟩

set_option maxHeartbeats 2000000 in
set_option maxRecDepth 20000 in
theorem s_X12_done (g : pv_G) {T : List mv_T} {m : Nat → Nat → Int32} {n : Nat → Nat → Int64} {r : Nat → Value} (hT : TX T) (I : IV BB m) (x0 : Int32) (x1 : Int32) (x2 : Int32) (hp0 : LX m) : PM g mX12_done yX12_done (sqI T BB (wl [(123, 123, some 3), (123, 123, some 40), (123, 123, some 41), (128, 128, none), (141, 141, none), (142, 142, none), (143, 143, none), (144, 144, none), (145, 145, none), (146, 146, none), (147, 147, none), (148, 148, none), (149, 149, none), (150, 150, none), (152, 152, none), (153, 153, none), (154, 154, none)]) r m (-2147483648) 2147483647 (fun m' v => True)) 6 0 0 [.ref 123, .int x0, .int x1, .int x2] (mk T m n r) := by
  have Kp : fr (wl [(123, 123, some 3), (123, 123, some 40), (123, 123, some 41), (128, 128, none), (141, 141, none), (142, 142, none), (143, 143, none), (144, 144, none), (145, 145, none), (146, 146, none), (147, 147, none), (148, 148, none), (149, 149, none), (150, 150, none), (152, 152, none), (153, 153, none), (154, 154, none)]) m m := fr.rf
  have kLX := hp0
  have z253 : 0 ≤ (m 123 3).toInt ∧ (m 123 3).toInt ≤ 60 := I 123 3
  have z254 : 0 ≤ (m 123 40).toInt ∧ (m 123 40).toInt ≤ 40 := I 123 40
  have z255 : 0 ≤ (m 123 41).toInt ∧ (m 123 41).toInt ≤ 16 := I 123 41
  refine PM.of 7 (lo := [.ref 123, .int x0, .int x1, .int x2, pv_U, pv_U, pv_U, pv_U, pv_U, pv_U, pv_U]) rfl (by decide) rfl rfl (Nat.le_of_ble_eq_true rfl) ?_
  refine pv_aload_n (M := mX12_done) 0 dX12_done_0 1 rfl rfl rfl ?_
  refine pv_iload_n (M := mX12_done) 1 dX12_done_1 2 rfl rfl rfl ?_
  refine pv_iload_n (M := mX12_done) 2 dX12_done_2 3 rfl rfl rfl ?_
  refine pv_callv (M := mX12_done) (as := [.int x0, .int x1]) (st := []) (kc2 := 0) (ks2 := 0) dX12_done_3 wd1554 YX12_isAsked ⟨wd1556, wd86⟩ (mk_get (tl123 hT)) rfl rfl (s_X12_isAsked g hT I x0 x1) rfl rfl (Nat.le_of_ble_eq_true rfl) (by decide) rfl rfl 6 rfl (fun rv h1 q1 => ?_)
  obtain ⟨v2, rfl, rfl, pv2, qv2, rv2⟩ := q1
  replace rv2 : v2 = 0 ∨ ((0 ≤ x0.toInt ∧ x0.toInt ≤ 7) ∧ (0 ≤ x1.toInt ∧ x1.toInt ≤ 7)) := rv2
  show PV _ _ _ _ _ _ _ 6 [.ref 123, .int x0, .int x1, .int x2, pv_U, pv_U, pv_U, pv_U, pv_U, pv_U, pv_U] [.int v2] _
  refine pv_if_eq (M := mX12_done) (tgt := 16) dX12_done_6 9 rfl (by decide) (fun c3 => ?_) (fun c3 => ?_)
  · have c3 := iv_eq (X := v2.toInt) (Y := 0) c3 rfl (by decide)
    refine pv_iconst (M := mX12_done) (v := (-1)) dX12_done_16 17 rfl (by decide) ?_
    exact pv_iret (M := mX12_done) dX12_done_17 rfl rfl ⟨_, _, _, rfl, rfl, I, Kp, by decide, by decide, trivial⟩
  · have pc3 := rv2.resolve_left c3
    have c3 := iv_ne (X := v2.toInt) (Y := 0) c3 rfl (by decide)
    refine pv_iload_n (M := mX12_done) 3 dX12_done_9 10 rfl rfl rfl ?_
    refine pv_calls (M := mX12_done) (as := [.int x2]) (st := []) (kc2 := 0) (ks2 := 0) dX12_done_10 wd1496 YX12_isClerk wd1497 (s_X12_isClerk g hT I x2) rfl rfl (Nat.le_of_ble_eq_true rfl) (by decide) rfl rfl 13 rfl (fun rv h1 q4 => ?_)
    obtain ⟨v5, rfl, rfl, pv5, qv5, rv5⟩ := q4
    replace rv5 : v5 = 0 ∨ (0 ≤ x2.toInt ∧ x2.toInt ≤ 7) := rv5
    show PV _ _ _ _ _ _ _ 13 [.ref 123, .int x0, .int x1, .int x2, pv_U, pv_U, pv_U, pv_U, pv_U, pv_U, pv_U] [.int v5] _
    refine pv_if_ne (M := mX12_done) (tgt := 18) dX12_done_13 16 rfl (by decide) (fun c6 => ?_) (fun c6 => ?_)
    · have pc6 := rv5.resolve_left c6
      have c6 := iv_ne (X := v5.toInt) (Y := 0) c6 rfl (by decide)
      refine pv_aload_n (M := mX12_done) 0 dX12_done_18 19 rfl rfl rfl ?_
      refine pv_iload_n (M := mX12_done) 1 dX12_done_19 20 rfl rfl rfl ?_
      refine pv_iload_n (M := mX12_done) 2 dX12_done_20 21 rfl rfl rfl ?_
      refine pv_iload_n (M := mX12_done) 3 dX12_done_21 22 rfl rfl rfl ?_
      refine pv_callv (M := mX12_done) (as := [.int x0, .int x1, .int x2]) (st := []) (kc2 := 0) (ks2 := 0) dX12_done_22 wd1575 YX12_cheapestOf ⟨wd1577, wd90⟩ (mk_get (tl123 hT)) rfl rfl (s_X12_cheapestOf g hT I x0 (by omega) (by omega) x1 (by omega) (by omega) x2 (by first | omega | assumption | exact (iv_rng _).2 | exact (iv_rng _).1 | decide)) rfl rfl (Nat.le_of_ble_eq_true rfl) (by decide) rfl rfl 25 rfl (fun rv h1 q7 => ?_)
      obtain ⟨m8, n9, v12, rfl, rfl, I10, K11, pv12, qv12, rv12⟩ := q7
      replace rv12 : v12.toInt = -2 ∨ (STk m8 (m8 123 41).toInt (m8 123 40).toInt ∧ (m8 123 40).toInt = nu m8 x0.toInt 0) := rv12
      have K11c := K11
      have kLX : LX m8 := LX_eq kLX (K11c 123 20 rfl) (fun j => K11c 136 j rfl) (fun j => K11c 138 j rfl) (fun j => K11c 139 j rfl) (fun j => K11c 140 j rfl)
      have u13 : nu m8 x0.toInt 0 = nu m x0.toInt 0 := nu_eq (fun j => K11c 124 j rfl) (fun j => K11c 128 j rfl) _ _
      have w14 : (m8 123 3).toInt = (m 123 3).toInt := congrArg Int32.toInt (K11 123 3 rfl)
      have K11 := Kp.trans (K11.sub (wl_sub (by decide)))
      show PV _ _ _ _ _ _ _ 25 [.ref 123, .int x0, .int x1, .int x2, pv_U, pv_U, pv_U, pv_U, pv_U, pv_U, pv_U] [.int v12] _
      have kR := rv12
      refine pv_bipush (M := mX12_done) (v := (-2)) dX12_done_25 27 rfl (by decide) ?_
      refine pv_icmp_ne (M := mX12_done) (tgt := 33) dX12_done_27 30 rfl (by decide) (fun c16 => ?_) (fun c16 => ?_)
      · have c16 := iv_ne (X := v12.toInt) (Y := (-2)) c16 rfl (by decide)
        have kc := kR.resolve_left (by omega)
        have kc2 := kc.2
        clear kR
        refine pv_aload_n (M := mX12_done) 0 dX12_done_33 34 rfl rfl rfl ?_
        refine pv_callv (M := mX12_done) (as := []) (st := []) (kc2 := 0) (ks2 := 0) dX12_done_34 wd1599 YX12_strokesFor ⟨wd1601, wd94⟩ (mk_get (tl123 hT)) rfl rfl (s_X12_strokesFor g hT I10 kc.1) rfl rfl (Nat.le_of_ble_eq_true rfl) (by decide) rfl rfl 37 rfl (fun rv h1 q20 => ?_)
        obtain ⟨v21, rfl, rfl, pv21, qv21, rv21⟩ := q20
        replace rv21 : v21.toInt = gF m8 (m8 123 41).toInt.toNat + ((m8 123 40).toInt - frm m8 (m8 123 41).toInt + 8) / 9 := rv21
        show PV _ _ _ _ _ _ _ 37 [.ref 123, .int x0, .int x1, .int x2, pv_U, pv_U, pv_U, pv_U, pv_U, pv_U, pv_U] [.int v21] _
        have ka := rv21
        refine pv_istore (M := mX12_done) (lo2 := [.ref 123, .int x0, .int x1, .int x2, .int v21, pv_U, pv_U, pv_U, pv_U, pv_U, pv_U]) dX12_done_37 39 rfl (by decide) rfl rfl ?_
        refine pv_aload_n (M := mX12_done) 0 dX12_done_39 40 rfl rfl rfl ?_
        refine iv_get (M := mX12_done) (l1 := 0) (l2 := 60) dX12_done_40 FX12 3 wd1176 (by decide) (tl123 hT) rfl I10 rfl 43 rfl (fun v23 ev23 pv23 qv23 => ?_)
        have wv23 : v23.toInt = (m8 123 3).toInt := congrArg Int32.toInt ev23
        refine pv_iload (M := mX12_done) dX12_done_43 45 rfl rfl ?_
        refine iv_iadd (M := mX12_done) (X := v23.toInt) (Y := v21.toInt) dX12_done_45 46 rfl rfl rfl (by omega) (by omega) (fun v24 ev24 => ?_)
        refine pv_bipush (M := mX12_done) (v := 60) dX12_done_46 48 rfl (by decide) ?_
        refine pv_icmp_le (M := mX12_done) (tgt := 54) dX12_done_48 51 rfl (by decide) (fun c25 => ?_) (fun c25 => ?_)
        · have c25 := iv_le (X := v24.toInt) (Y := 60) c25 rfl (by decide)
          refine pv_aload_n (M := mX12_done) 0 dX12_done_54 55 rfl rfl rfl ?_
          refine iv_get (M := mX12_done) (l1 := 0) (l2 := 40) dX12_done_55 FX12 40 wd1213 (by decide) (tl123 hT) rfl I10 rfl 58 rfl (fun v26 ev26 pv26 qv26 => ?_)
          have wv26 : v26.toInt = (m8 123 40).toInt := congrArg Int32.toInt ev26
          refine pv_istore (M := mX12_done) (lo2 := [.ref 123, .int x0, .int x1, .int x2, .int v21, .int v26, pv_U, pv_U, pv_U, pv_U, pv_U]) dX12_done_58 60 rfl (by decide) rfl rfl ?_
          refine pv_aload_n (M := mX12_done) 0 dX12_done_60 61 rfl rfl rfl ?_
          refine iv_get (M := mX12_done) (l1 := 0) (l2 := 16) dX12_done_61 FX12 41 wd1214 (by decide) (tl123 hT) rfl I10 rfl 64 rfl (fun v27 ev27 pv27 qv27 => ?_)
          have wv27 : v27.toInt = (m8 123 41).toInt := congrArg Int32.toInt ev27
          refine pv_iconst (M := mX12_done) (v := 1) dX12_done_64 65 rfl (by decide) ?_
          refine iv_isub (M := mX12_done) (X := v27.toInt) (Y := 1) dX12_done_65 66 rfl rfl (by decide) (by omega) (by omega) (fun v28 ev28 => ?_)
          refine pv_istore (M := mX12_done) (lo2 := [.ref 123, .int x0, .int x1, .int x2, .int v21, .int v26, .int v28, pv_U, pv_U, pv_U, pv_U]) dX12_done_66 68 rfl (by decide) rfl rfl ?_
          have lp36 : ∀ (fuel35 : Nat) (y29 : Int32) (y30 : Int32) (m31 : Nat → Nat → Int32) (n32 : Nat → Nat → Int64), (-1 ≤ y29.toInt) → (y29.toInt ≤ 40) → (-2 ≤ y30.toInt) → (y30.toInt ≤ 15) → (∀ q, m31 154 q = m8 154 q) → (y29.toInt ≤ nu m31 x0.toInt 0) → (y30.toInt < (m8 123 41).toInt) → (-1 ≤ y30.toInt → ((m31 123 3).toInt + gF m8 (y30.toInt + 1).toNat + (y29.toInt - frm m8 (y30.toInt + 1) + 8) / 9 ≤ 60 ∧ frm m8 (y30.toInt + 1) ≤ y29.toInt)) → (LX m31) → IV BB m31 → fr (wl [(123, 123, some 3), (123, 123, some 40), (123, 123, some 41), (128, 128, none), (141, 141, none), (142, 142, none), (143, 143, none), (144, 144, none), (145, 145, none), (146, 146, none), (147, 147, none), (148, 148, none), (149, 149, none), (150, 150, none), (152, 152, none), (153, 153, none), (154, 154, none)]) m m31 → ((y30.toInt + 2) : Int).toNat < fuel35 → PV none g mX12_done (sqI T BB (wl [(123, 123, some 3), (123, 123, some 40), (123, 123, some 41), (128, 128, none), (141, 141, none), (142, 142, none), (143, 143, none), (144, 144, none), (145, 145, none), (146, 146, none), (147, 147, none), (148, 148, none), (149, 149, none), (150, 150, none), (152, 152, none), (153, 153, none), (154, 154, none)]) r m (-2147483648) 2147483647 (fun m' v => True)) 6 0 0 68 [.ref 123, .int x0, .int x1, .int x2, .int v21, .int y29, .int y30, pv_U, pv_U, pv_U, pv_U] [] (mk T m31 n32 r) := by
            intro fuel35
            induction fuel35 with
            | zero => intro y29 y30 m31 n32 b38 b39 b40 b41 b42 b43 b44 b45 b46 I33 K34 z47; omega
            | succ fuel35 ih37 =>
              intro y29 y30 m31 n32 b38 b39 b40 b41 b42 b43 b44 b45 b46 I33 K34 z47
              have z48 : 0 ≤ (m31 123 3).toInt ∧ (m31 123 3).toInt ≤ 60 := I33 123 3
              have z49 : 0 ≤ (m31 123 40).toInt ∧ (m31 123 40).toInt ≤ 40 := I33 123 40
              have z50 : 0 ≤ (m31 123 41).toInt ∧ (m31 123 41).toInt ≤ 16 := I33 123 41
              have kLX := (show LX m31 by assumption)
              have kq := (show ∀ q, m31 154 q = m8 154 q by assumption)
              refine pv_iload (M := mX12_done) dX12_done_68 70 rfl rfl ?_
              refine pv_iconst (M := mX12_done) (v := (-1)) dX12_done_70 71 rfl (by decide) ?_
              refine pv_icmp_lt (M := mX12_done) (tgt := 195) dX12_done_71 74 rfl (by decide) (fun c52 => ?_) (fun c52 => ?_)
              · have c52 := iv_lt (X := y30.toInt) (Y := (-1)) c52 rfl (by decide)
                refine pv_iload (M := mX12_done) dX12_done_195 197 rfl rfl ?_
                exact pv_iret (M := mX12_done) dX12_done_197 rfl rfl ⟨_, _, _, rfl, rfl, I33, K34, (iv_rng v21).1, (iv_rng v21).2, trivial⟩
              · have c52 := iv_nlt (X := y30.toInt) (Y := (-1)) c52 rfl (by decide)
                have kge := gF_ge kc.1 (y30.toInt + 1).toNat (by omega)
                have kz0 : y30.toInt = -1 → frm m8 (y30.toInt + 1) = 0 := fun q => by unfold frm; rw [if_pos (by omega)]
                refine pv_iload (M := mX12_done) dX12_done_74 76 rfl rfl ?_
                refine pv_if_ge (M := mX12_done) (tgt := 83) dX12_done_76 79 rfl (by decide) (fun c55 => ?_) (fun c55 => ?_)
                · have c55 := iv_le (X := 0) (Y := y30.toInt) c55 (by decide) rfl
                  refine pv_aload_n (M := mX12_done) 0 dX12_done_83 84 rfl rfl rfl ?_
                  refine mv_get (M := mX12_done) (v := .ref 154) dX12_done_84 FX12 47 wd1220 (by decide) (tl123 hT) rfl rfl 87 rfl ?_
                  refine pv_iload (M := mX12_done) dX12_done_87 89 rfl rfl ?_
                  refine iv_iald (M := mX12_done) (X := y30.toInt) (l1 := 0) (l2 := 39) dX12_done_89 (tl154 hT) rfl (by omega) (by omega) I33 (fun _ => rfl) 90 rfl (fun v56 ev56 pv56 qv56 => ?_)
                  have k90 : v56.toInt = (m8 154 y30.toInt.toNat).toInt := congrArg Int32.toInt (ev56.trans (kq _))
                  have k91 := frm_s (m := m8) (j := y30.toInt) (by omega)
                  refine pv_iconst (M := mX12_done) (v := 1) dX12_done_90 91 rfl (by decide) ?_
                  refine iv_iadd (M := mX12_done) (X := v56.toInt) (Y := 1) dX12_done_91 92 rfl rfl (by decide) (by omega) (by omega) (fun v59 ev59 => ?_)
                  refine pv_istore (M := mX12_done) (lo2 := [.ref 123, .int x0, .int x1, .int x2, .int v21, .int y29, .int y30, .int v59, pv_U, pv_U, pv_U]) dX12_done_92 94 rfl (by decide) rfl rfl ?_
                  have lp66 : ∀ (fuel65 : Nat) (y60 : Int32) (m61 : Nat → Nat → Int32) (n62 : Nat → Nat → Int64), (0 ≤ y60.toInt) → (y60.toInt ≤ 40) → (∀ q, m61 154 q = m8 154 q) → (y60.toInt ≤ nu m61 x0.toInt 0) → ((m61 123 3).toInt + gF m8 (y30.toInt + 1).toNat + (y60.toInt - v59.toInt + 8) / 9 ≤ 60) → (v59.toInt ≤ y60.toInt) → (LX m61) → IV BB m61 → fr (wl [(123, 123, some 3), (123, 123, some 40), (123, 123, some 41), (128, 128, none), (141, 141, none), (142, 142, none), (143, 143, none), (144, 144, none), (145, 145, none), (146, 146, none), (147, 147, none), (148, 148, none), (149, 149, none), (150, 150, none), (152, 152, none), (153, 153, none), (154, 154, none)]) m m61 → ((y60.toInt - v59.toInt) : Int).toNat < fuel65 → PV none g mX12_done (sqI T BB (wl [(123, 123, some 3), (123, 123, some 40), (123, 123, some 41), (128, 128, none), (141, 141, none), (142, 142, none), (143, 143, none), (144, 144, none), (145, 145, none), (146, 146, none), (147, 147, none), (148, 148, none), (149, 149, none), (150, 150, none), (152, 152, none), (153, 153, none), (154, 154, none)]) r m (-2147483648) 2147483647 (fun m' v => True)) 6 0 0 94 [.ref 123, .int x0, .int x1, .int x2, .int v21, .int y60, .int y30, .int v59, pv_U, pv_U, pv_U] [] (mk T m61 n62 r) := by
                    intro fuel65
                    induction fuel65 with
                    | zero => intro y60 m61 n62 b68 b69 b70 b71 b72 b73 b74 I63 K64 z75; omega
                    | succ fuel65 ih67 =>
                      intro y60 m61 n62 b68 b69 b70 b71 b72 b73 b74 I63 K64 z75
                      have z76 : 0 ≤ (m61 123 3).toInt ∧ (m61 123 3).toInt ≤ 60 := I63 123 3
                      have z77 : 0 ≤ (m61 123 40).toInt ∧ (m61 123 40).toInt ≤ 40 := I63 123 40
                      have z78 : 0 ≤ (m61 123 41).toInt ∧ (m61 123 41).toInt ≤ 16 := I63 123 41
                      have kLX := (show LX m61 by assumption)
                      have kq2 := (show ∀ q, m61 154 q = m8 154 q by assumption)
                      refine pv_iload (M := mX12_done) dX12_done_94 96 rfl rfl ?_
                      refine pv_iload (M := mX12_done) dX12_done_96 98 rfl rfl ?_
                      refine pv_icmp_le (M := mX12_done) (tgt := 183) dX12_done_98 101 rfl (by decide) (fun c80 => ?_) (fun c80 => ?_)
                      · have c80 := iv_le (X := y60.toInt) (Y := v59.toInt) c80 rfl rfl
                        refine pv_iload (M := mX12_done) dX12_done_183 185 rfl rfl ?_
                        refine pv_iconst (M := mX12_done) (v := 1) dX12_done_185 186 rfl (by decide) ?_
                        refine iv_isub (M := mX12_done) (X := v59.toInt) (Y := 1) dX12_done_186 187 rfl rfl (by decide) (by omega) (by omega) (fun v81 ev81 => ?_)
                        refine pv_istore (M := mX12_done) (lo2 := [.ref 123, .int x0, .int x1, .int x2, .int v21, .int v81, .int y30, .int v59, pv_U, pv_U, pv_U]) dX12_done_187 189 rfl (by decide) rfl rfl ?_
                        refine iv_inc (M := mX12_done) (C := (-1)) dX12_done_189 192 rfl rfl (by decide) rfl rfl (by decide) (by omega) (by omega) (fun v82 ev82 => ?_)
                        show PV _ _ _ _ _ _ _ 192 [.ref 123, .int x0, .int x1, .int x2, .int v21, .int v81, .int v82, .int v59, pv_U, pv_U, pv_U] [] _
                        refine pv_goto (M := mX12_done) (tgt := 68) dX12_done_192 (by decide) ?_
                        refine pv_fg (lo2 := [.ref 123, .int x0, .int x1, .int x2, .int v21, .int v81, .int v82, pv_U, pv_U, pv_U, pv_U]) ⟨Or.inr rfl, ⟨Or.inr rfl, ⟨Or.inr rfl, ⟨Or.inr rfl, ⟨Or.inr rfl, ⟨Or.inr rfl, ⟨Or.inr rfl, ⟨Or.inl rfl, ⟨Or.inl rfl, ⟨Or.inl rfl, ⟨Or.inl rfl, trivial⟩⟩⟩⟩⟩⟩⟩⟩⟩⟩⟩ ?_
                        have k154 := kq2
                        try have g1 := gF_s (m := m8) (j := y30.toInt) (by omega)
                        try have g3 := frm_le (j := y30.toInt) kc.1 (by omega) (by omega)
                        have g4 : gF m8 (v82.toInt + 1).toNat = gF m8 (y30.toInt).toNat := congrArg (gF m8) (by omega)
                        have g5 : frm m8 (v82.toInt + 1) = frm m8 y30.toInt := congrArg (frm m8) (by omega)
                        exact ih37 v81 v82 m61 n62 (by first | omega | assumption | exact (iv_rng _).2 | exact (iv_rng _).1 | decide) (by first | omega | assumption | exact (iv_rng _).2 | exact (iv_rng _).1 | decide) (by first | omega | assumption | exact (iv_rng _).2 | exact (iv_rng _).1 | decide) (by first | omega | assumption | exact (iv_rng _).2 | exact (iv_rng _).1 | decide) k154 (by first | omega | assumption | (show v81.toInt ≤ nu m61 x0.toInt 0; omega) | decide) (by first | omega | assumption | (show v82.toInt < (m8 123 41).toInt; omega) | decide) (by first | omega | assumption | (show -1 ≤ v82.toInt → ((m61 123 3).toInt + gF m8 (v82.toInt + 1).toNat + (v81.toInt - frm m8 (v82.toInt + 1) + 8) / 9 ≤ 60 ∧ frm m8 (v82.toInt + 1) ≤ v81.toInt); omega) | decide) kLX I63 K64 (by omega)
                      · have c80 := iv_nle (X := y60.toInt) (Y := v59.toInt) c80 rfl rfl
                        refine pv_iload (M := mX12_done) dX12_done_101 103 rfl rfl ?_
                        refine pv_iload (M := mX12_done) dX12_done_103 105 rfl rfl ?_
                        refine iv_isub (M := mX12_done) (X := y60.toInt) (Y := v59.toInt) dX12_done_105 106 rfl rfl rfl (by omega) (by omega) (fun v88 ev88 => ?_)
                        refine pv_bipush (M := mX12_done) (v := 9) dX12_done_106 108 rfl (by decide) ?_
                        refine pv_icmp_le (M := mX12_done) (tgt := 116) dX12_done_108 111 rfl (by decide) (fun c89 => ?_) (fun c89 => ?_)
                        · have c89 := iv_le (X := v88.toInt) (Y := 9) c89 rfl (by decide)
                          refine pv_iload (M := mX12_done) dX12_done_116 118 rfl rfl ?_
                          refine pv_iload (M := mX12_done) dX12_done_118 120 rfl rfl ?_
                          refine iv_isub (M := mX12_done) (X := y60.toInt) (Y := v59.toInt) dX12_done_120 121 rfl rfl rfl (by omega) (by omega) (fun v90 ev90 => ?_)
                          refine pv_istore (M := mX12_done) (lo2 := [.ref 123, .int x0, .int x1, .int x2, .int v21, .int y60, .int y30, .int v59, .int v90, pv_U, pv_U]) dX12_done_121 123 rfl (by decide) rfl rfl ?_
                          refine pv_iconst (M := mX12_done) (v := 0) dX12_done_123 124 rfl (by decide) ?_
                          refine pv_istore (M := mX12_done) (lo2 := [.ref 123, .int x0, .int x1, .int x2, .int v21, .int y60, .int y30, .int v59, .int v90, .int 0, pv_U]) dX12_done_124 126 rfl (by decide) rfl rfl ?_
                          refine pv_iload (M := mX12_done) dX12_done_126 128 rfl rfl ?_
                          refine pv_iload (M := mX12_done) dX12_done_128 130 rfl rfl ?_
                          refine iv_isub (M := mX12_done) (X := y60.toInt) (Y := v90.toInt) dX12_done_130 131 rfl rfl rfl (by omega) (by omega) (fun v91 ev91 => ?_)
                          refine pv_istore (M := mX12_done) (lo2 := [.ref 123, .int x0, .int x1, .int x2, .int v21, .int y60, .int y30, .int v59, .int v90, .int 0, .int v91]) dX12_done_131 133 rfl (by decide) rfl rfl ?_
                          have lp99 : ∀ (fuel98 : Nat) (y92 : Int32) (y93 : Int32), (0 ≤ y93.toInt) → (y93.toInt ≤ 40) → ((40 - y93.toInt) : Int).toNat < fuel98 → PV none g mX12_done (sqI T BB (wl [(123, 123, some 3), (123, 123, some 40), (123, 123, some 41), (128, 128, none), (141, 141, none), (142, 142, none), (143, 143, none), (144, 144, none), (145, 145, none), (146, 146, none), (147, 147, none), (148, 148, none), (149, 149, none), (150, 150, none), (152, 152, none), (153, 153, none), (154, 154, none)]) r m (-2147483648) 2147483647 (fun m' v => True)) 6 0 0 133 [.ref 123, .int x0, .int x1, .int x2, .int v21, .int y60, .int y30, .int v59, .int v90, .int y92, .int y93] [] (mk T m61 n62 r) := by
                            intro fuel98
                            induction fuel98 with
                            | zero => intro y92 y93 b101 b102 z103; omega
                            | succ fuel98 ih100 =>
                              intro y92 y93 b101 b102 z103
                              refine pv_iload (M := mX12_done) dX12_done_133 135 rfl rfl ?_
                              refine pv_iload (M := mX12_done) dX12_done_135 137 rfl rfl ?_
                              refine pv_icmp_ge (M := mX12_done) (tgt := 158) dX12_done_137 140 rfl (by decide) (fun c104 => ?_) (fun c104 => ?_)
                              · have c104 := iv_le (X := y60.toInt) (Y := y93.toInt) c104 rfl rfl
                                refine pv_aload_n (M := mX12_done) 0 dX12_done_158 159 rfl rfl rfl ?_
                                refine pv_iload_n (M := mX12_done) 1 dX12_done_159 160 rfl rfl rfl ?_
                                refine pv_iload (M := mX12_done) dX12_done_160 162 rfl rfl ?_
                                refine pv_iload (M := mX12_done) dX12_done_162 164 rfl rfl ?_
                                refine iv_isub (M := mX12_done) (X := y60.toInt) (Y := v90.toInt) dX12_done_164 165 rfl rfl rfl (by omega) (by omega) (fun v105 ev105 => ?_)
                                refine pv_iload (M := mX12_done) dX12_done_165 167 rfl rfl ?_
                                refine pv_iload_n (M := mX12_done) 3 dX12_done_167 168 rfl rfl rfl ?_
                                refine pv_iload (M := mX12_done) dX12_done_168 170 rfl rfl ?_
                                refine pv_callv (M := mX12_done) (as := [.int x0, .int v105, .int v90, .int x2, .int y92]) (st := []) (kc2 := 0) (ks2 := 0) dX12_done_170 wd1530 YX12_makes ⟨wd1532, wd83⟩ (mk_get (tl123 hT)) rfl rfl (s_X12_makes g hT I63 x0 (by omega) (by omega) v105 (by omega) (by omega) v90 (by omega) (by omega) x2 (by omega) (by omega) y92 (by first | omega | assumption | exact (iv_rng _).2 | exact (iv_rng _).1 | decide) (by first | omega | assumption | exact (iv_rng _).2 | exact (iv_rng _).1 | decide)) rfl rfl (Nat.le_of_ble_eq_true rfl) (by decide) rfl rfl 173 rfl (fun rv h1 q106 => ?_)
                                obtain ⟨m107, n108, rfl, rfl, I109, K110, rm107⟩ := q106
                                replace rm107 : nu m107 x0.toInt 0 = nu m61 x0.toInt 0 - v90.toInt ∧ (m107 123 3).toInt = (m61 123 3).toInt + 1 := rm107
                                have K110c := K110
                                have kLX : LX m107 := LX_eq kLX (K110c 123 20 rfl) (fun j => K110c 136 j rfl) (fun j => K110c 138 j rfl) (fun j => K110c 139 j rfl) (fun j => K110c 140 j rfl)
                                have w111 : (m107 123 40).toInt = (m61 123 40).toInt := congrArg Int32.toInt (K110 123 40 rfl)
                                have w112 : (m107 123 41).toInt = (m61 123 41).toInt := congrArg Int32.toInt (K110 123 41 rfl)
                                have K110 := K64.trans (K110.sub (wl_sub (by decide)))
                                show PV _ _ _ _ _ _ _ 173 [.ref 123, .int x0, .int x1, .int x2, .int v21, .int y60, .int y30, .int v59, .int v90, .int y92, .int y93] [] _
                                have kmk := rm107
                                have kmk1 := kmk.1
                                have kmk2 := kmk.2
                                refine pv_iload (M := mX12_done) dX12_done_173 175 rfl rfl ?_
                                refine pv_iload (M := mX12_done) dX12_done_175 177 rfl rfl ?_
                                refine iv_isub (M := mX12_done) (X := y60.toInt) (Y := v90.toInt) dX12_done_177 178 rfl rfl rfl (by omega) (by omega) (fun v116 ev116 => ?_)
                                refine pv_istore (M := mX12_done) (lo2 := [.ref 123, .int x0, .int x1, .int x2, .int v21, .int v116, .int y30, .int v59, .int v90, .int y92, .int y93]) dX12_done_178 180 rfl (by decide) rfl rfl ?_
                                refine pv_goto (M := mX12_done) (tgt := 94) dX12_done_180 (by decide) ?_
                                refine pv_fg (lo2 := [.ref 123, .int x0, .int x1, .int x2, .int v21, .int v116, .int y30, .int v59, pv_U, pv_U, pv_U]) ⟨Or.inr rfl, ⟨Or.inr rfl, ⟨Or.inr rfl, ⟨Or.inr rfl, ⟨Or.inr rfl, ⟨Or.inr rfl, ⟨Or.inr rfl, ⟨Or.inr rfl, ⟨Or.inl rfl, ⟨Or.inl rfl, ⟨Or.inl rfl, trivial⟩⟩⟩⟩⟩⟩⟩⟩⟩⟩⟩ ?_
                                have k154b : ∀ q, m107 154 q = m8 154 q := fun q => (K110c 154 q rfl).trans (kq2 q)
                                exact ih67 v116 m107 n108 (by first | omega | assumption | exact (iv_rng _).2 | exact (iv_rng _).1 | decide) (by first | omega | assumption | exact (iv_rng _).2 | exact (iv_rng _).1 | decide) k154b (by first | omega | assumption | (show v116.toInt ≤ nu m107 x0.toInt 0; omega) | decide) (by first | omega | assumption | (show (m107 123 3).toInt + gF m8 (y30.toInt + 1).toNat + (v116.toInt - v59.toInt + 8) / 9 ≤ 60; omega) | decide) (by first | omega | assumption | (show v59.toInt ≤ v116.toInt; omega) | decide) kLX I109 K110 (by omega)
                              · have c104 := iv_nle (X := y60.toInt) (Y := y93.toInt) c104 rfl rfl
                                refine pv_iload (M := mX12_done) dX12_done_140 142 rfl rfl ?_
                                refine pv_aload_n (M := mX12_done) 0 dX12_done_142 143 rfl rfl rfl ?_
                                refine mv_get (M := mX12_done) (v := .ref 152) dX12_done_143 FX12 45 wd1218 (by decide) (tl123 hT) rfl rfl 146 rfl ?_
                                refine pv_iload (M := mX12_done) dX12_done_146 148 rfl rfl ?_
                                refine iv_iald (M := mX12_done) (X := y93.toInt) (l1 := 0) (l2 := 1999999998) dX12_done_148 (tl152 hT) rfl (by omega) (by omega) I63 (fun _ => rfl) 149 rfl (fun v118 ev118 pv118 qv118 => ?_)
                                refine iv_addU (M := mX12_done) dX12_done_149 150 rfl (fun v119 ev119 => ?_)
                                refine pv_istore (M := mX12_done) (lo2 := [.ref 123, .int x0, .int x1, .int x2, .int v21, .int y60, .int y30, .int v59, .int v90, .int v119, .int y93]) dX12_done_150 152 rfl (by decide) rfl rfl ?_
                                refine iv_inc (M := mX12_done) (C := 1) dX12_done_152 155 rfl rfl (by decide) rfl rfl (by decide) (by omega) (by omega) (fun v120 ev120 => ?_)
                                show PV _ _ _ _ _ _ _ 155 [.ref 123, .int x0, .int x1, .int x2, .int v21, .int y60, .int y30, .int v59, .int v90, .int v119, .int v120] [] _
                                refine pv_goto (M := mX12_done) (tgt := 133) dX12_done_155 (by decide) ?_
                                exact ih100 v119 v120 (by first | omega | assumption | exact (iv_rng _).2 | exact (iv_rng _).1 | decide) (by first | omega | assumption | exact (iv_rng _).2 | exact (iv_rng _).1 | decide) (by omega)
                          have z121 : (0 : Int32).toInt = 0 := by decide
                          exact lp99 (((40 - v91.toInt) : Int).toNat + 1) 0 v91 (by first | omega | assumption | exact (iv_rng _).2 | exact (iv_rng _).1 | decide) (by first | omega | assumption | exact (iv_rng _).2 | exact (iv_rng _).1 | decide) (by omega)
                        · have c89 := iv_nle (X := v88.toInt) (Y := 9) c89 rfl (by decide)
                          refine pv_bipush (M := mX12_done) (v := 9) dX12_done_111 113 rfl (by decide) ?_
                          refine pv_goto (M := mX12_done) (tgt := 121) dX12_done_113 (by decide) ?_
                          refine pv_istore (M := mX12_done) (lo2 := [.ref 123, .int x0, .int x1, .int x2, .int v21, .int y60, .int y30, .int v59, .int 9, pv_U, pv_U]) dX12_done_121 123 rfl (by decide) rfl rfl ?_
                          refine pv_iconst (M := mX12_done) (v := 0) dX12_done_123 124 rfl (by decide) ?_
                          refine pv_istore (M := mX12_done) (lo2 := [.ref 123, .int x0, .int x1, .int x2, .int v21, .int y60, .int y30, .int v59, .int 9, .int 0, pv_U]) dX12_done_124 126 rfl (by decide) rfl rfl ?_
                          refine pv_iload (M := mX12_done) dX12_done_126 128 rfl rfl ?_
                          refine pv_iload (M := mX12_done) dX12_done_128 130 rfl rfl ?_
                          refine iv_isub (M := mX12_done) (X := y60.toInt) (Y := 9) dX12_done_130 131 rfl rfl (by decide) (by omega) (by omega) (fun v122 ev122 => ?_)
                          refine pv_istore (M := mX12_done) (lo2 := [.ref 123, .int x0, .int x1, .int x2, .int v21, .int y60, .int y30, .int v59, .int 9, .int 0, .int v122]) dX12_done_131 133 rfl (by decide) rfl rfl ?_
                          have lp130 : ∀ (fuel129 : Nat) (y123 : Int32) (y124 : Int32), (0 ≤ y124.toInt) → (y124.toInt ≤ 40) → ((40 - y124.toInt) : Int).toNat < fuel129 → PV none g mX12_done (sqI T BB (wl [(123, 123, some 3), (123, 123, some 40), (123, 123, some 41), (128, 128, none), (141, 141, none), (142, 142, none), (143, 143, none), (144, 144, none), (145, 145, none), (146, 146, none), (147, 147, none), (148, 148, none), (149, 149, none), (150, 150, none), (152, 152, none), (153, 153, none), (154, 154, none)]) r m (-2147483648) 2147483647 (fun m' v => True)) 6 0 0 133 [.ref 123, .int x0, .int x1, .int x2, .int v21, .int y60, .int y30, .int v59, .int 9, .int y123, .int y124] [] (mk T m61 n62 r) := by
                            intro fuel129
                            induction fuel129 with
                            | zero => intro y123 y124 b132 b133 z134; omega
                            | succ fuel129 ih131 =>
                              intro y123 y124 b132 b133 z134
                              refine pv_iload (M := mX12_done) dX12_done_133 135 rfl rfl ?_
                              refine pv_iload (M := mX12_done) dX12_done_135 137 rfl rfl ?_
                              refine pv_icmp_ge (M := mX12_done) (tgt := 158) dX12_done_137 140 rfl (by decide) (fun c135 => ?_) (fun c135 => ?_)
                              · have c135 := iv_le (X := y60.toInt) (Y := y124.toInt) c135 rfl rfl
                                refine pv_aload_n (M := mX12_done) 0 dX12_done_158 159 rfl rfl rfl ?_
                                refine pv_iload_n (M := mX12_done) 1 dX12_done_159 160 rfl rfl rfl ?_
                                refine pv_iload (M := mX12_done) dX12_done_160 162 rfl rfl ?_
                                refine pv_iload (M := mX12_done) dX12_done_162 164 rfl rfl ?_
                                refine iv_isub (M := mX12_done) (X := y60.toInt) (Y := 9) dX12_done_164 165 rfl rfl (by decide) (by omega) (by omega) (fun v136 ev136 => ?_)
                                refine pv_iload (M := mX12_done) dX12_done_165 167 rfl rfl ?_
                                refine pv_iload_n (M := mX12_done) 3 dX12_done_167 168 rfl rfl rfl ?_
                                refine pv_iload (M := mX12_done) dX12_done_168 170 rfl rfl ?_
                                have z137 : (9 : Int32).toInt = 9 := by decide
                                refine pv_callv (M := mX12_done) (as := [.int x0, .int v136, .int 9, .int x2, .int y123]) (st := []) (kc2 := 0) (ks2 := 0) dX12_done_170 wd1530 YX12_makes ⟨wd1532, wd83⟩ (mk_get (tl123 hT)) rfl rfl (s_X12_makes g hT I63 x0 (by omega) (by omega) v136 (by omega) (by omega) 9 (by decide) (by decide) x2 (by omega) (by omega) y123 (by first | omega | assumption | exact (iv_rng _).2 | exact (iv_rng _).1 | decide) (by first | omega | assumption | exact (iv_rng _).2 | exact (iv_rng _).1 | decide)) rfl rfl (Nat.le_of_ble_eq_true rfl) (by decide) rfl rfl 173 rfl (fun rv h1 q138 => ?_)
                                obtain ⟨m139, n140, rfl, rfl, I141, K142, rm139⟩ := q138
                                replace rm139 : nu m139 x0.toInt 0 = nu m61 x0.toInt 0 - (9 : Int) ∧ (m139 123 3).toInt = (m61 123 3).toInt + 1 := by have q_ := rm139; (try rw [z137] at q_); exact q_
                                have K142c := K142
                                have kLX : LX m139 := LX_eq kLX (K142c 123 20 rfl) (fun j => K142c 136 j rfl) (fun j => K142c 138 j rfl) (fun j => K142c 139 j rfl) (fun j => K142c 140 j rfl)
                                have w143 : (m139 123 40).toInt = (m61 123 40).toInt := congrArg Int32.toInt (K142 123 40 rfl)
                                have w144 : (m139 123 41).toInt = (m61 123 41).toInt := congrArg Int32.toInt (K142 123 41 rfl)
                                have K142 := K64.trans (K142.sub (wl_sub (by decide)))
                                show PV _ _ _ _ _ _ _ 173 [.ref 123, .int x0, .int x1, .int x2, .int v21, .int y60, .int y30, .int v59, .int 9, .int y123, .int y124] [] _
                                have kmk := rm139
                                have kmk1 := kmk.1
                                have kmk2 := kmk.2
                                refine pv_iload (M := mX12_done) dX12_done_173 175 rfl rfl ?_
                                refine pv_iload (M := mX12_done) dX12_done_175 177 rfl rfl ?_
                                refine iv_isub (M := mX12_done) (X := y60.toInt) (Y := 9) dX12_done_177 178 rfl rfl (by decide) (by omega) (by omega) (fun v148 ev148 => ?_)
                                refine pv_istore (M := mX12_done) (lo2 := [.ref 123, .int x0, .int x1, .int x2, .int v21, .int v148, .int y30, .int v59, .int 9, .int y123, .int y124]) dX12_done_178 180 rfl (by decide) rfl rfl ?_
                                refine pv_goto (M := mX12_done) (tgt := 94) dX12_done_180 (by decide) ?_
                                refine pv_fg (lo2 := [.ref 123, .int x0, .int x1, .int x2, .int v21, .int v148, .int y30, .int v59, pv_U, pv_U, pv_U]) ⟨Or.inr rfl, ⟨Or.inr rfl, ⟨Or.inr rfl, ⟨Or.inr rfl, ⟨Or.inr rfl, ⟨Or.inr rfl, ⟨Or.inr rfl, ⟨Or.inr rfl, ⟨Or.inl rfl, ⟨Or.inl rfl, ⟨Or.inl rfl, trivial⟩⟩⟩⟩⟩⟩⟩⟩⟩⟩⟩ ?_
                                have k154b : ∀ q, m139 154 q = m8 154 q := fun q => (K142c 154 q rfl).trans (kq2 q)
                                exact ih67 v148 m139 n140 (by first | omega | assumption | exact (iv_rng _).2 | exact (iv_rng _).1 | decide) (by first | omega | assumption | exact (iv_rng _).2 | exact (iv_rng _).1 | decide) k154b (by first | omega | assumption | (show v148.toInt ≤ nu m139 x0.toInt 0; omega) | decide) (by first | omega | assumption | (show (m139 123 3).toInt + gF m8 (y30.toInt + 1).toNat + (v148.toInt - v59.toInt + 8) / 9 ≤ 60; omega) | decide) (by first | omega | assumption | (show v59.toInt ≤ v148.toInt; omega) | decide) kLX I141 K142 (by omega)
                              · have c135 := iv_nle (X := y60.toInt) (Y := y124.toInt) c135 rfl rfl
                                refine pv_iload (M := mX12_done) dX12_done_140 142 rfl rfl ?_
                                refine pv_aload_n (M := mX12_done) 0 dX12_done_142 143 rfl rfl rfl ?_
                                refine mv_get (M := mX12_done) (v := .ref 152) dX12_done_143 FX12 45 wd1218 (by decide) (tl123 hT) rfl rfl 146 rfl ?_
                                refine pv_iload (M := mX12_done) dX12_done_146 148 rfl rfl ?_
                                refine iv_iald (M := mX12_done) (X := y124.toInt) (l1 := 0) (l2 := 1999999998) dX12_done_148 (tl152 hT) rfl (by omega) (by omega) I63 (fun _ => rfl) 149 rfl (fun v150 ev150 pv150 qv150 => ?_)
                                refine iv_addU (M := mX12_done) dX12_done_149 150 rfl (fun v151 ev151 => ?_)
                                refine pv_istore (M := mX12_done) (lo2 := [.ref 123, .int x0, .int x1, .int x2, .int v21, .int y60, .int y30, .int v59, .int 9, .int v151, .int y124]) dX12_done_150 152 rfl (by decide) rfl rfl ?_
                                refine iv_inc (M := mX12_done) (C := 1) dX12_done_152 155 rfl rfl (by decide) rfl rfl (by decide) (by omega) (by omega) (fun v152 ev152 => ?_)
                                show PV _ _ _ _ _ _ _ 155 [.ref 123, .int x0, .int x1, .int x2, .int v21, .int y60, .int y30, .int v59, .int 9, .int v151, .int v152] [] _
                                refine pv_goto (M := mX12_done) (tgt := 133) dX12_done_155 (by decide) ?_
                                exact ih131 v151 v152 (by first | omega | assumption | exact (iv_rng _).2 | exact (iv_rng _).1 | decide) (by first | omega | assumption | exact (iv_rng _).2 | exact (iv_rng _).1 | decide) (by omega)
                          have z153 : (0 : Int32).toInt = 0 := by decide
                          exact lp130 (((40 - v122.toInt) : Int).toNat + 1) 0 v122 (by first | omega | assumption | exact (iv_rng _).2 | exact (iv_rng _).1 | decide) (by first | omega | assumption | exact (iv_rng _).2 | exact (iv_rng _).1 | decide) (by omega)
                  exact lp66 (((y29.toInt - v59.toInt) : Int).toNat + 1) y29 m31 n32 (by first | omega | assumption | exact (iv_rng _).2 | exact (iv_rng _).1 | decide) (by first | omega | assumption | exact (iv_rng _).2 | exact (iv_rng _).1 | decide) kq (by first | omega | assumption | (show y29.toInt ≤ nu m31 x0.toInt 0; omega) | decide) (by first | omega | assumption | (show (m31 123 3).toInt + gF m8 (y30.toInt + 1).toNat + (y29.toInt - v59.toInt + 8) / 9 ≤ 60; omega) | decide) (by first | omega | assumption | (show v59.toInt ≤ y29.toInt; omega) | decide) kLX I33 K34 (by omega)
                · have c55 := iv_nle (X := 0) (Y := y30.toInt) c55 (by decide) rfl
                  refine pv_iconst (M := mX12_done) (v := 0) dX12_done_79 80 rfl (by decide) ?_
                  refine pv_goto (M := mX12_done) (tgt := 92) dX12_done_80 (by decide) ?_
                  refine pv_istore (M := mX12_done) (lo2 := [.ref 123, .int x0, .int x1, .int x2, .int v21, .int y29, .int y30, .int 0, pv_U, pv_U, pv_U]) dX12_done_92 94 rfl (by decide) rfl rfl ?_
                  have lp160 : ∀ (fuel159 : Nat) (y154 : Int32) (m155 : Nat → Nat → Int32) (n156 : Nat → Nat → Int64), (0 ≤ y154.toInt) → (y154.toInt ≤ 40) → (∀ q, m155 154 q = m8 154 q) → (y154.toInt ≤ nu m155 x0.toInt 0) → ((m155 123 3).toInt + gF m8 (y30.toInt + 1).toNat + (y154.toInt - 0 + 8) / 9 ≤ 60) → (0 ≤ y154.toInt) → (LX m155) → IV BB m155 → fr (wl [(123, 123, some 3), (123, 123, some 40), (123, 123, some 41), (128, 128, none), (141, 141, none), (142, 142, none), (143, 143, none), (144, 144, none), (145, 145, none), (146, 146, none), (147, 147, none), (148, 148, none), (149, 149, none), (150, 150, none), (152, 152, none), (153, 153, none), (154, 154, none)]) m m155 → ((y154.toInt - 0) : Int).toNat < fuel159 → PV none g mX12_done (sqI T BB (wl [(123, 123, some 3), (123, 123, some 40), (123, 123, some 41), (128, 128, none), (141, 141, none), (142, 142, none), (143, 143, none), (144, 144, none), (145, 145, none), (146, 146, none), (147, 147, none), (148, 148, none), (149, 149, none), (150, 150, none), (152, 152, none), (153, 153, none), (154, 154, none)]) r m (-2147483648) 2147483647 (fun m' v => True)) 6 0 0 94 [.ref 123, .int x0, .int x1, .int x2, .int v21, .int y154, .int y30, .int 0, pv_U, pv_U, pv_U] [] (mk T m155 n156 r) := by
                    intro fuel159
                    induction fuel159 with
                    | zero => intro y154 m155 n156 b162 b163 b164 b165 b166 b167 b168 I157 K158 z169; omega
                    | succ fuel159 ih161 =>
                      intro y154 m155 n156 b162 b163 b164 b165 b166 b167 b168 I157 K158 z169
                      have z170 : 0 ≤ (m155 123 3).toInt ∧ (m155 123 3).toInt ≤ 60 := I157 123 3
                      have z171 : 0 ≤ (m155 123 40).toInt ∧ (m155 123 40).toInt ≤ 40 := I157 123 40
                      have z172 : 0 ≤ (m155 123 41).toInt ∧ (m155 123 41).toInt ≤ 16 := I157 123 41
                      have kLX := (show LX m155 by assumption)
                      have kq2 := (show ∀ q, m155 154 q = m8 154 q by assumption)
                      refine pv_iload (M := mX12_done) dX12_done_94 96 rfl rfl ?_
                      refine pv_iload (M := mX12_done) dX12_done_96 98 rfl rfl ?_
                      refine pv_icmp_le (M := mX12_done) (tgt := 183) dX12_done_98 101 rfl (by decide) (fun c174 => ?_) (fun c174 => ?_)
                      · have c174 := iv_le (X := y154.toInt) (Y := 0) c174 rfl (by decide)
                        refine pv_iload (M := mX12_done) dX12_done_183 185 rfl rfl ?_
                        refine pv_iconst (M := mX12_done) (v := 1) dX12_done_185 186 rfl (by decide) ?_
                        refine pv_isub (M := mX12_done) (v := (-1)) dX12_done_186 187 rfl (by decide) ?_
                        refine pv_istore (M := mX12_done) (lo2 := [.ref 123, .int x0, .int x1, .int x2, .int v21, .int (-1), .int y30, .int 0, pv_U, pv_U, pv_U]) dX12_done_187 189 rfl (by decide) rfl rfl ?_
                        refine iv_inc (M := mX12_done) (C := (-1)) dX12_done_189 192 rfl rfl (by decide) rfl rfl (by decide) (by omega) (by omega) (fun v176 ev176 => ?_)
                        show PV _ _ _ _ _ _ _ 192 [.ref 123, .int x0, .int x1, .int x2, .int v21, .int (-1), .int v176, .int 0, pv_U, pv_U, pv_U] [] _
                        refine pv_goto (M := mX12_done) (tgt := 68) dX12_done_192 (by decide) ?_
                        have z177 : ((-1) : Int32).toInt = (-1) := by decide
                        refine pv_fg (lo2 := [.ref 123, .int x0, .int x1, .int x2, .int v21, .int (-1), .int v176, pv_U, pv_U, pv_U, pv_U]) ⟨Or.inr rfl, ⟨Or.inr rfl, ⟨Or.inr rfl, ⟨Or.inr rfl, ⟨Or.inr rfl, ⟨Or.inr rfl, ⟨Or.inr rfl, ⟨Or.inl rfl, ⟨Or.inl rfl, ⟨Or.inl rfl, ⟨Or.inl rfl, trivial⟩⟩⟩⟩⟩⟩⟩⟩⟩⟩⟩ ?_
                        have k154 := kq2
                        try have g1 := gF_s (m := m8) (j := y30.toInt) (by omega)
                        try have g3 := frm_le (j := y30.toInt) kc.1 (by omega) (by omega)
                        have g4 : gF m8 (v176.toInt + 1).toNat = gF m8 (y30.toInt).toNat := congrArg (gF m8) (by omega)
                        have g5 : frm m8 (v176.toInt + 1) = frm m8 y30.toInt := congrArg (frm m8) (by omega)
                        exact ih37 (-1) v176 m155 n156 (by first | omega | assumption | exact (iv_rng _).2 | exact (iv_rng _).1 | decide) (by first | omega | assumption | exact (iv_rng _).2 | exact (iv_rng _).1 | decide) (by first | omega | assumption | exact (iv_rng _).2 | exact (iv_rng _).1 | decide) (by first | omega | assumption | exact (iv_rng _).2 | exact (iv_rng _).1 | decide) k154 (by first | omega | assumption | (show (-1) ≤ nu m155 x0.toInt 0; omega) | decide) (by first | omega | assumption | (show v176.toInt < (m8 123 41).toInt; omega) | decide) (by first | omega | assumption | (show -1 ≤ v176.toInt → ((m155 123 3).toInt + gF m8 (v176.toInt + 1).toNat + ((-1) - frm m8 (v176.toInt + 1) + 8) / 9 ≤ 60 ∧ frm m8 (v176.toInt + 1) ≤ (-1)); omega) | decide) kLX I157 K158 (by omega)
                      · have c174 := iv_nle (X := y154.toInt) (Y := 0) c174 rfl (by decide)
                        refine pv_iload (M := mX12_done) dX12_done_101 103 rfl rfl ?_
                        refine pv_iload (M := mX12_done) dX12_done_103 105 rfl rfl ?_
                        refine iv_isub (M := mX12_done) (X := y154.toInt) (Y := 0) dX12_done_105 106 rfl rfl (by decide) (by omega) (by omega) (fun v183 ev183 => ?_)
                        refine pv_bipush (M := mX12_done) (v := 9) dX12_done_106 108 rfl (by decide) ?_
                        refine pv_icmp_le (M := mX12_done) (tgt := 116) dX12_done_108 111 rfl (by decide) (fun c184 => ?_) (fun c184 => ?_)
                        · have c184 := iv_le (X := v183.toInt) (Y := 9) c184 rfl (by decide)
                          refine pv_iload (M := mX12_done) dX12_done_116 118 rfl rfl ?_
                          refine pv_iload (M := mX12_done) dX12_done_118 120 rfl rfl ?_
                          refine iv_isub (M := mX12_done) (X := y154.toInt) (Y := 0) dX12_done_120 121 rfl rfl (by decide) (by omega) (by omega) (fun v185 ev185 => ?_)
                          refine pv_istore (M := mX12_done) (lo2 := [.ref 123, .int x0, .int x1, .int x2, .int v21, .int y154, .int y30, .int 0, .int v185, pv_U, pv_U]) dX12_done_121 123 rfl (by decide) rfl rfl ?_
                          refine pv_iconst (M := mX12_done) (v := 0) dX12_done_123 124 rfl (by decide) ?_
                          refine pv_istore (M := mX12_done) (lo2 := [.ref 123, .int x0, .int x1, .int x2, .int v21, .int y154, .int y30, .int 0, .int v185, .int 0, pv_U]) dX12_done_124 126 rfl (by decide) rfl rfl ?_
                          refine pv_iload (M := mX12_done) dX12_done_126 128 rfl rfl ?_
                          refine pv_iload (M := mX12_done) dX12_done_128 130 rfl rfl ?_
                          refine iv_isub (M := mX12_done) (X := y154.toInt) (Y := v185.toInt) dX12_done_130 131 rfl rfl rfl (by omega) (by omega) (fun v186 ev186 => ?_)
                          refine pv_istore (M := mX12_done) (lo2 := [.ref 123, .int x0, .int x1, .int x2, .int v21, .int y154, .int y30, .int 0, .int v185, .int 0, .int v186]) dX12_done_131 133 rfl (by decide) rfl rfl ?_
                          have lp194 : ∀ (fuel193 : Nat) (y187 : Int32) (y188 : Int32), (0 ≤ y188.toInt) → (y188.toInt ≤ 40) → ((40 - y188.toInt) : Int).toNat < fuel193 → PV none g mX12_done (sqI T BB (wl [(123, 123, some 3), (123, 123, some 40), (123, 123, some 41), (128, 128, none), (141, 141, none), (142, 142, none), (143, 143, none), (144, 144, none), (145, 145, none), (146, 146, none), (147, 147, none), (148, 148, none), (149, 149, none), (150, 150, none), (152, 152, none), (153, 153, none), (154, 154, none)]) r m (-2147483648) 2147483647 (fun m' v => True)) 6 0 0 133 [.ref 123, .int x0, .int x1, .int x2, .int v21, .int y154, .int y30, .int 0, .int v185, .int y187, .int y188] [] (mk T m155 n156 r) := by
                            intro fuel193
                            induction fuel193 with
                            | zero => intro y187 y188 b196 b197 z198; omega
                            | succ fuel193 ih195 =>
                              intro y187 y188 b196 b197 z198
                              refine pv_iload (M := mX12_done) dX12_done_133 135 rfl rfl ?_
                              refine pv_iload (M := mX12_done) dX12_done_135 137 rfl rfl ?_
                              refine pv_icmp_ge (M := mX12_done) (tgt := 158) dX12_done_137 140 rfl (by decide) (fun c199 => ?_) (fun c199 => ?_)
                              · have c199 := iv_le (X := y154.toInt) (Y := y188.toInt) c199 rfl rfl
                                refine pv_aload_n (M := mX12_done) 0 dX12_done_158 159 rfl rfl rfl ?_
                                refine pv_iload_n (M := mX12_done) 1 dX12_done_159 160 rfl rfl rfl ?_
                                refine pv_iload (M := mX12_done) dX12_done_160 162 rfl rfl ?_
                                refine pv_iload (M := mX12_done) dX12_done_162 164 rfl rfl ?_
                                refine iv_isub (M := mX12_done) (X := y154.toInt) (Y := v185.toInt) dX12_done_164 165 rfl rfl rfl (by omega) (by omega) (fun v200 ev200 => ?_)
                                refine pv_iload (M := mX12_done) dX12_done_165 167 rfl rfl ?_
                                refine pv_iload_n (M := mX12_done) 3 dX12_done_167 168 rfl rfl rfl ?_
                                refine pv_iload (M := mX12_done) dX12_done_168 170 rfl rfl ?_
                                refine pv_callv (M := mX12_done) (as := [.int x0, .int v200, .int v185, .int x2, .int y187]) (st := []) (kc2 := 0) (ks2 := 0) dX12_done_170 wd1530 YX12_makes ⟨wd1532, wd83⟩ (mk_get (tl123 hT)) rfl rfl (s_X12_makes g hT I157 x0 (by omega) (by omega) v200 (by omega) (by omega) v185 (by omega) (by omega) x2 (by omega) (by omega) y187 (by first | omega | assumption | exact (iv_rng _).2 | exact (iv_rng _).1 | decide) (by first | omega | assumption | exact (iv_rng _).2 | exact (iv_rng _).1 | decide)) rfl rfl (Nat.le_of_ble_eq_true rfl) (by decide) rfl rfl 173 rfl (fun rv h1 q201 => ?_)
                                obtain ⟨m202, n203, rfl, rfl, I204, K205, rm202⟩ := q201
                                replace rm202 : nu m202 x0.toInt 0 = nu m155 x0.toInt 0 - v185.toInt ∧ (m202 123 3).toInt = (m155 123 3).toInt + 1 := rm202
                                have K205c := K205
                                have kLX : LX m202 := LX_eq kLX (K205c 123 20 rfl) (fun j => K205c 136 j rfl) (fun j => K205c 138 j rfl) (fun j => K205c 139 j rfl) (fun j => K205c 140 j rfl)
                                have w206 : (m202 123 40).toInt = (m155 123 40).toInt := congrArg Int32.toInt (K205 123 40 rfl)
                                have w207 : (m202 123 41).toInt = (m155 123 41).toInt := congrArg Int32.toInt (K205 123 41 rfl)
                                have K205 := K158.trans (K205.sub (wl_sub (by decide)))
                                show PV _ _ _ _ _ _ _ 173 [.ref 123, .int x0, .int x1, .int x2, .int v21, .int y154, .int y30, .int 0, .int v185, .int y187, .int y188] [] _
                                have kmk := rm202
                                have kmk1 := kmk.1
                                have kmk2 := kmk.2
                                refine pv_iload (M := mX12_done) dX12_done_173 175 rfl rfl ?_
                                refine pv_iload (M := mX12_done) dX12_done_175 177 rfl rfl ?_
                                refine iv_isub (M := mX12_done) (X := y154.toInt) (Y := v185.toInt) dX12_done_177 178 rfl rfl rfl (by omega) (by omega) (fun v211 ev211 => ?_)
                                refine pv_istore (M := mX12_done) (lo2 := [.ref 123, .int x0, .int x1, .int x2, .int v21, .int v211, .int y30, .int 0, .int v185, .int y187, .int y188]) dX12_done_178 180 rfl (by decide) rfl rfl ?_
                                refine pv_goto (M := mX12_done) (tgt := 94) dX12_done_180 (by decide) ?_
                                refine pv_fg (lo2 := [.ref 123, .int x0, .int x1, .int x2, .int v21, .int v211, .int y30, .int 0, pv_U, pv_U, pv_U]) ⟨Or.inr rfl, ⟨Or.inr rfl, ⟨Or.inr rfl, ⟨Or.inr rfl, ⟨Or.inr rfl, ⟨Or.inr rfl, ⟨Or.inr rfl, ⟨Or.inr rfl, ⟨Or.inl rfl, ⟨Or.inl rfl, ⟨Or.inl rfl, trivial⟩⟩⟩⟩⟩⟩⟩⟩⟩⟩⟩ ?_
                                have k154b : ∀ q, m202 154 q = m8 154 q := fun q => (K205c 154 q rfl).trans (kq2 q)
                                exact ih161 v211 m202 n203 (by first | omega | assumption | exact (iv_rng _).2 | exact (iv_rng _).1 | decide) (by first | omega | assumption | exact (iv_rng _).2 | exact (iv_rng _).1 | decide) k154b (by first | omega | assumption | (show v211.toInt ≤ nu m202 x0.toInt 0; omega) | decide) (by first | omega | assumption | (show (m202 123 3).toInt + gF m8 (y30.toInt + 1).toNat + (v211.toInt - 0 + 8) / 9 ≤ 60; omega) | decide) (by first | omega | assumption | (show 0 ≤ v211.toInt; omega) | decide) kLX I204 K205 (by omega)
                              · have c199 := iv_nle (X := y154.toInt) (Y := y188.toInt) c199 rfl rfl
                                refine pv_iload (M := mX12_done) dX12_done_140 142 rfl rfl ?_
                                refine pv_aload_n (M := mX12_done) 0 dX12_done_142 143 rfl rfl rfl ?_
                                refine mv_get (M := mX12_done) (v := .ref 152) dX12_done_143 FX12 45 wd1218 (by decide) (tl123 hT) rfl rfl 146 rfl ?_
                                refine pv_iload (M := mX12_done) dX12_done_146 148 rfl rfl ?_
                                refine iv_iald (M := mX12_done) (X := y188.toInt) (l1 := 0) (l2 := 1999999998) dX12_done_148 (tl152 hT) rfl (by omega) (by omega) I157 (fun _ => rfl) 149 rfl (fun v213 ev213 pv213 qv213 => ?_)
                                refine iv_addU (M := mX12_done) dX12_done_149 150 rfl (fun v214 ev214 => ?_)
                                refine pv_istore (M := mX12_done) (lo2 := [.ref 123, .int x0, .int x1, .int x2, .int v21, .int y154, .int y30, .int 0, .int v185, .int v214, .int y188]) dX12_done_150 152 rfl (by decide) rfl rfl ?_
                                refine iv_inc (M := mX12_done) (C := 1) dX12_done_152 155 rfl rfl (by decide) rfl rfl (by decide) (by omega) (by omega) (fun v215 ev215 => ?_)
                                show PV _ _ _ _ _ _ _ 155 [.ref 123, .int x0, .int x1, .int x2, .int v21, .int y154, .int y30, .int 0, .int v185, .int v214, .int v215] [] _
                                refine pv_goto (M := mX12_done) (tgt := 133) dX12_done_155 (by decide) ?_
                                exact ih195 v214 v215 (by first | omega | assumption | exact (iv_rng _).2 | exact (iv_rng _).1 | decide) (by first | omega | assumption | exact (iv_rng _).2 | exact (iv_rng _).1 | decide) (by omega)
                          have z216 : (0 : Int32).toInt = 0 := by decide
                          exact lp194 (((40 - v186.toInt) : Int).toNat + 1) 0 v186 (by first | omega | assumption | exact (iv_rng _).2 | exact (iv_rng _).1 | decide) (by first | omega | assumption | exact (iv_rng _).2 | exact (iv_rng _).1 | decide) (by omega)
                        · have c184 := iv_nle (X := v183.toInt) (Y := 9) c184 rfl (by decide)
                          refine pv_bipush (M := mX12_done) (v := 9) dX12_done_111 113 rfl (by decide) ?_
                          refine pv_goto (M := mX12_done) (tgt := 121) dX12_done_113 (by decide) ?_
                          refine pv_istore (M := mX12_done) (lo2 := [.ref 123, .int x0, .int x1, .int x2, .int v21, .int y154, .int y30, .int 0, .int 9, pv_U, pv_U]) dX12_done_121 123 rfl (by decide) rfl rfl ?_
                          refine pv_iconst (M := mX12_done) (v := 0) dX12_done_123 124 rfl (by decide) ?_
                          refine pv_istore (M := mX12_done) (lo2 := [.ref 123, .int x0, .int x1, .int x2, .int v21, .int y154, .int y30, .int 0, .int 9, .int 0, pv_U]) dX12_done_124 126 rfl (by decide) rfl rfl ?_
                          refine pv_iload (M := mX12_done) dX12_done_126 128 rfl rfl ?_
                          refine pv_iload (M := mX12_done) dX12_done_128 130 rfl rfl ?_
                          refine iv_isub (M := mX12_done) (X := y154.toInt) (Y := 9) dX12_done_130 131 rfl rfl (by decide) (by omega) (by omega) (fun v217 ev217 => ?_)
                          refine pv_istore (M := mX12_done) (lo2 := [.ref 123, .int x0, .int x1, .int x2, .int v21, .int y154, .int y30, .int 0, .int 9, .int 0, .int v217]) dX12_done_131 133 rfl (by decide) rfl rfl ?_
                          have lp225 : ∀ (fuel224 : Nat) (y218 : Int32) (y219 : Int32), (0 ≤ y219.toInt) → (y219.toInt ≤ 40) → ((40 - y219.toInt) : Int).toNat < fuel224 → PV none g mX12_done (sqI T BB (wl [(123, 123, some 3), (123, 123, some 40), (123, 123, some 41), (128, 128, none), (141, 141, none), (142, 142, none), (143, 143, none), (144, 144, none), (145, 145, none), (146, 146, none), (147, 147, none), (148, 148, none), (149, 149, none), (150, 150, none), (152, 152, none), (153, 153, none), (154, 154, none)]) r m (-2147483648) 2147483647 (fun m' v => True)) 6 0 0 133 [.ref 123, .int x0, .int x1, .int x2, .int v21, .int y154, .int y30, .int 0, .int 9, .int y218, .int y219] [] (mk T m155 n156 r) := by
                            intro fuel224
                            induction fuel224 with
                            | zero => intro y218 y219 b227 b228 z229; omega
                            | succ fuel224 ih226 =>
                              intro y218 y219 b227 b228 z229
                              refine pv_iload (M := mX12_done) dX12_done_133 135 rfl rfl ?_
                              refine pv_iload (M := mX12_done) dX12_done_135 137 rfl rfl ?_
                              refine pv_icmp_ge (M := mX12_done) (tgt := 158) dX12_done_137 140 rfl (by decide) (fun c230 => ?_) (fun c230 => ?_)
                              · have c230 := iv_le (X := y154.toInt) (Y := y219.toInt) c230 rfl rfl
                                refine pv_aload_n (M := mX12_done) 0 dX12_done_158 159 rfl rfl rfl ?_
                                refine pv_iload_n (M := mX12_done) 1 dX12_done_159 160 rfl rfl rfl ?_
                                refine pv_iload (M := mX12_done) dX12_done_160 162 rfl rfl ?_
                                refine pv_iload (M := mX12_done) dX12_done_162 164 rfl rfl ?_
                                refine iv_isub (M := mX12_done) (X := y154.toInt) (Y := 9) dX12_done_164 165 rfl rfl (by decide) (by omega) (by omega) (fun v231 ev231 => ?_)
                                refine pv_iload (M := mX12_done) dX12_done_165 167 rfl rfl ?_
                                refine pv_iload_n (M := mX12_done) 3 dX12_done_167 168 rfl rfl rfl ?_
                                refine pv_iload (M := mX12_done) dX12_done_168 170 rfl rfl ?_
                                have z232 : (9 : Int32).toInt = 9 := by decide
                                refine pv_callv (M := mX12_done) (as := [.int x0, .int v231, .int 9, .int x2, .int y218]) (st := []) (kc2 := 0) (ks2 := 0) dX12_done_170 wd1530 YX12_makes ⟨wd1532, wd83⟩ (mk_get (tl123 hT)) rfl rfl (s_X12_makes g hT I157 x0 (by omega) (by omega) v231 (by omega) (by omega) 9 (by decide) (by decide) x2 (by omega) (by omega) y218 (by first | omega | assumption | exact (iv_rng _).2 | exact (iv_rng _).1 | decide) (by first | omega | assumption | exact (iv_rng _).2 | exact (iv_rng _).1 | decide)) rfl rfl (Nat.le_of_ble_eq_true rfl) (by decide) rfl rfl 173 rfl (fun rv h1 q233 => ?_)
                                obtain ⟨m234, n235, rfl, rfl, I236, K237, rm234⟩ := q233
                                replace rm234 : nu m234 x0.toInt 0 = nu m155 x0.toInt 0 - (9 : Int) ∧ (m234 123 3).toInt = (m155 123 3).toInt + 1 := by have q_ := rm234; (try rw [z232] at q_); exact q_
                                have K237c := K237
                                have kLX : LX m234 := LX_eq kLX (K237c 123 20 rfl) (fun j => K237c 136 j rfl) (fun j => K237c 138 j rfl) (fun j => K237c 139 j rfl) (fun j => K237c 140 j rfl)
                                have w238 : (m234 123 40).toInt = (m155 123 40).toInt := congrArg Int32.toInt (K237 123 40 rfl)
                                have w239 : (m234 123 41).toInt = (m155 123 41).toInt := congrArg Int32.toInt (K237 123 41 rfl)
                                have K237 := K158.trans (K237.sub (wl_sub (by decide)))
                                show PV _ _ _ _ _ _ _ 173 [.ref 123, .int x0, .int x1, .int x2, .int v21, .int y154, .int y30, .int 0, .int 9, .int y218, .int y219] [] _
                                have kmk := rm234
                                have kmk1 := kmk.1
                                have kmk2 := kmk.2
                                refine pv_iload (M := mX12_done) dX12_done_173 175 rfl rfl ?_
                                refine pv_iload (M := mX12_done) dX12_done_175 177 rfl rfl ?_
                                refine iv_isub (M := mX12_done) (X := y154.toInt) (Y := 9) dX12_done_177 178 rfl rfl (by decide) (by omega) (by omega) (fun v243 ev243 => ?_)
                                refine pv_istore (M := mX12_done) (lo2 := [.ref 123, .int x0, .int x1, .int x2, .int v21, .int v243, .int y30, .int 0, .int 9, .int y218, .int y219]) dX12_done_178 180 rfl (by decide) rfl rfl ?_
                                refine pv_goto (M := mX12_done) (tgt := 94) dX12_done_180 (by decide) ?_
                                refine pv_fg (lo2 := [.ref 123, .int x0, .int x1, .int x2, .int v21, .int v243, .int y30, .int 0, pv_U, pv_U, pv_U]) ⟨Or.inr rfl, ⟨Or.inr rfl, ⟨Or.inr rfl, ⟨Or.inr rfl, ⟨Or.inr rfl, ⟨Or.inr rfl, ⟨Or.inr rfl, ⟨Or.inr rfl, ⟨Or.inl rfl, ⟨Or.inl rfl, ⟨Or.inl rfl, trivial⟩⟩⟩⟩⟩⟩⟩⟩⟩⟩⟩ ?_
                                have k154b : ∀ q, m234 154 q = m8 154 q := fun q => (K237c 154 q rfl).trans (kq2 q)
                                exact ih161 v243 m234 n235 (by first | omega | assumption | exact (iv_rng _).2 | exact (iv_rng _).1 | decide) (by first | omega | assumption | exact (iv_rng _).2 | exact (iv_rng _).1 | decide) k154b (by first | omega | assumption | (show v243.toInt ≤ nu m234 x0.toInt 0; omega) | decide) (by first | omega | assumption | (show (m234 123 3).toInt + gF m8 (y30.toInt + 1).toNat + (v243.toInt - 0 + 8) / 9 ≤ 60; omega) | decide) (by first | omega | assumption | (show 0 ≤ v243.toInt; omega) | decide) kLX I236 K237 (by omega)
                              · have c230 := iv_nle (X := y154.toInt) (Y := y219.toInt) c230 rfl rfl
                                refine pv_iload (M := mX12_done) dX12_done_140 142 rfl rfl ?_
                                refine pv_aload_n (M := mX12_done) 0 dX12_done_142 143 rfl rfl rfl ?_
                                refine mv_get (M := mX12_done) (v := .ref 152) dX12_done_143 FX12 45 wd1218 (by decide) (tl123 hT) rfl rfl 146 rfl ?_
                                refine pv_iload (M := mX12_done) dX12_done_146 148 rfl rfl ?_
                                refine iv_iald (M := mX12_done) (X := y219.toInt) (l1 := 0) (l2 := 1999999998) dX12_done_148 (tl152 hT) rfl (by omega) (by omega) I157 (fun _ => rfl) 149 rfl (fun v245 ev245 pv245 qv245 => ?_)
                                refine iv_addU (M := mX12_done) dX12_done_149 150 rfl (fun v246 ev246 => ?_)
                                refine pv_istore (M := mX12_done) (lo2 := [.ref 123, .int x0, .int x1, .int x2, .int v21, .int y154, .int y30, .int 0, .int 9, .int v246, .int y219]) dX12_done_150 152 rfl (by decide) rfl rfl ?_
                                refine iv_inc (M := mX12_done) (C := 1) dX12_done_152 155 rfl rfl (by decide) rfl rfl (by decide) (by omega) (by omega) (fun v247 ev247 => ?_)
                                show PV _ _ _ _ _ _ _ 155 [.ref 123, .int x0, .int x1, .int x2, .int v21, .int y154, .int y30, .int 0, .int 9, .int v246, .int v247] [] _
                                refine pv_goto (M := mX12_done) (tgt := 133) dX12_done_155 (by decide) ?_
                                exact ih226 v246 v247 (by first | omega | assumption | exact (iv_rng _).2 | exact (iv_rng _).1 | decide) (by first | omega | assumption | exact (iv_rng _).2 | exact (iv_rng _).1 | decide) (by omega)
                          have z248 : (0 : Int32).toInt = 0 := by decide
                          exact lp225 (((40 - v217.toInt) : Int).toNat + 1) 0 v217 (by first | omega | assumption | exact (iv_rng _).2 | exact (iv_rng _).1 | decide) (by first | omega | assumption | exact (iv_rng _).2 | exact (iv_rng _).1 | decide) (by omega)
                  exact lp160 (((y29.toInt - 0) : Int).toNat + 1) y29 m31 n32 (by first | omega | assumption | exact (iv_rng _).2 | exact (iv_rng _).1 | decide) (by first | omega | assumption | exact (iv_rng _).2 | exact (iv_rng _).1 | decide) kq (by first | omega | assumption | (show y29.toInt ≤ nu m31 x0.toInt 0; omega) | decide) (by first | omega | assumption | (show (m31 123 3).toInt + gF m8 (y30.toInt + 1).toNat + (y29.toInt - 0 + 8) / 9 ≤ 60; omega) | decide) (by first | omega | assumption | (show 0 ≤ y29.toInt; omega) | decide) kLX I33 K34 (by omega)
          have g1 : gF m8 (v28.toInt + 1).toNat = gF m8 (m8 123 41).toInt.toNat := congrArg (gF m8) (by omega)
          have g2 : frm m8 (v28.toInt + 1) = frm m8 (m8 123 41).toInt := congrArg (frm m8) (by omega)
          have g3 := frm_le2 kc.1 (by omega)
          have kin : -1 ≤ v28.toInt → ((m8 123 3).toInt + gF m8 (v28.toInt + 1).toNat + (v26.toInt - frm m8 (v28.toInt + 1) + 8) / 9 ≤ 60 ∧ frm m8 (v28.toInt + 1) ≤ v26.toInt) := fun _ => by rw [g1, g2]; omega
          exact lp36 (((v28.toInt + 2) : Int).toNat + 1) v26 v28 m8 n9 (by first | omega | assumption | exact (iv_rng _).2 | exact (iv_rng _).1 | decide) (by first | omega | assumption | exact (iv_rng _).2 | exact (iv_rng _).1 | decide) (by first | omega | assumption | exact (iv_rng _).2 | exact (iv_rng _).1 | decide) (by first | omega | assumption | exact (iv_rng _).2 | exact (iv_rng _).1 | decide) (fun _ => rfl) (by first | omega | assumption | (show v26.toInt ≤ nu m8 x0.toInt 0; omega) | decide) (by first | omega | assumption | (show v28.toInt < (m8 123 41).toInt; omega) | decide) kin kLX I10 K11 (by omega)
        · have c25 := iv_nle (X := v24.toInt) (Y := 60) c25 rfl (by decide)
          refine pv_bipush (M := mX12_done) (v := (-3)) dX12_done_51 53 rfl (by decide) ?_
          exact pv_iret (M := mX12_done) dX12_done_53 rfl rfl ⟨_, _, _, rfl, rfl, I10, K11, by decide, by decide, trivial⟩
      · have c16 := iv_eq (X := v12.toInt) (Y := (-2)) c16 rfl (by decide)
        refine pv_bipush (M := mX12_done) (v := (-2)) dX12_done_30 32 rfl (by decide) ?_
        exact pv_iret (M := mX12_done) dX12_done_32 rfl rfl ⟨_, _, _, rfl, rfl, I10, K11, by decide, by decide, trivial⟩
    · have c6 := iv_eq (X := v5.toInt) (Y := 0) c6 rfl (by decide)
      refine pv_iconst (M := mX12_done) (v := (-1)) dX12_done_16 17 rfl (by decide) ?_
      exact pv_iret (M := mX12_done) dX12_done_17 rfl rfl ⟨_, _, _, rfl, rfl, I, Kp, by decide, by decide, trivial⟩
