set_option maxHeartbeats 2000000 in
set_option maxRecDepth 20000 in
theorem s_X12_chain (g : pv_G) {T : List mv_T} {m : Nat → Nat → Int32} {n : Nat → Nat → Int64} {r : Nat → Value} (hT : TX T) (I : IV BB m) (x0 : Int32) (x1 : Int32) : PM g mX12_chain yX12_chain (sqI T BB (wl [(123, 123, some 40), (123, 123, some 41), (149, 149, none), (150, 150, none), (167, 167, none), (168, 168, none)]) r m (-2147483648) 2147483647 (fun m' v => True)) 3 0 0 [.ref 123, .int x0, .int x1] (mk T m n r) := by
  have Kp : fr (wl [(123, 123, some 40), (123, 123, some 41), (149, 149, none), (150, 150, none), (167, 167, none), (168, 168, none)]) m m := fr.rf
  refine PM.of 5 (lo := [.ref 123, .int x0, .int x1, pv_U, pv_U, pv_U, pv_U, pv_U]) rfl (by decide) rfl rfl (Nat.le_of_ble_eq_true rfl) ?_
  refine pv_aload_n (M := mX12_chain) 0 dX12_chain_0 1 rfl rfl rfl ?_
  refine pv_iload_n (M := mX12_chain) 1 dX12_chain_1 2 rfl rfl rfl ?_
  refine pv_callv (M := mX12_chain) (as := [.int x0]) (st := []) (kc2 := 0) (ks2 := 0) dX12_chain_2 wd1389 YX12_isBlank ⟨wd1391, wd55⟩ (mk_get (tl123 hT)) rfl rfl (s_X12_isBlank g hT I x0) rfl rfl (Nat.le_of_ble_eq_true rfl) (by decide) rfl rfl 5 rfl (fun rv h1 q1 => ?_)
  obtain ⟨v2, rfl, rfl, pv2, qv2, rv2⟩ := q1
  replace rv2 : v2 = 0 ∨ (0 ≤ x0.toInt ∧ x0.toInt ≤ 7) := rv2
  show PV _ _ _ _ _ _ _ 5 [.ref 123, .int x0, .int x1, pv_U, pv_U, pv_U, pv_U, pv_U] [.int v2] _
  refine pv_if_eq (M := mX12_chain) (tgt := 13) dX12_chain_5 8 rfl (by decide) (fun c3 => ?_) (fun c3 => ?_)
  · have c3 := iv_eq (X := v2.toInt) (Y := 0) c3 rfl (by decide)
    refine pv_iconst (M := mX12_chain) (v := (-1)) dX12_chain_13 14 rfl (by decide) ?_
    exact pv_iret (M := mX12_chain) dX12_chain_14 rfl rfl ⟨_, _, _, rfl, rfl, I, Kp, by decide, by decide, trivial⟩
  · have pc3 := rv2.resolve_left c3
    have c3 := iv_ne (X := v2.toInt) (Y := 0) c3 rfl (by decide)
    refine pv_iload_n (M := mX12_chain) 2 dX12_chain_8 9 rfl rfl rfl ?_
    refine pv_iconst (M := mX12_chain) (v := (-1)) dX12_chain_9 10 rfl (by decide) ?_
    refine pv_icmp_ge (M := mX12_chain) (tgt := 15) dX12_chain_10 13 rfl (by decide) (fun c4 => ?_) (fun c4 => ?_)
    · have c4 := iv_le (X := (-1)) (Y := x1.toInt) c4 (by decide) rfl
      refine pv_aload_n (M := mX12_chain) 0 dX12_chain_15 16 rfl rfl rfl ?_
      refine pv_iload_n (M := mX12_chain) 1 dX12_chain_16 17 rfl rfl rfl ?_
      refine pv_callv (M := mX12_chain) (as := [.int x0]) (st := []) (kc2 := 0) (ks2 := 0) dX12_chain_17 wd1761 YX12_laysFollows ⟨wd1763, wd119⟩ (mk_get (tl123 hT)) rfl rfl (s_X12_laysFollows g hT I x0 (by omega) (by omega)) rfl rfl (Nat.le_of_ble_eq_true rfl) (by decide) rfl rfl 20 rfl (fun rv h1 q5 => ?_)
      obtain ⟨m6, n7, rfl, rfl, I8, K9, rm6⟩ := q5
      have K9c := K9
      have K9 := Kp.trans (K9.sub (wl_sub (by decide)))
      show PV _ _ _ _ _ _ _ 20 [.ref 123, .int x0, .int x1, pv_U, pv_U, pv_U, pv_U, pv_U] [] _
      refine pv_aload_n (M := mX12_chain) 0 dX12_chain_20 21 rfl rfl rfl ?_
      refine pv_callv (M := mX12_chain) (as := []) (st := []) (kc2 := 0) (ks2 := 0) dX12_chain_21 wd1765 YX12_laysLong ⟨wd1767, wd120⟩ (mk_get (tl123 hT)) rfl rfl (s_X12_laysLong g hT I8) rfl rfl (Nat.le_of_ble_eq_true rfl) (by decide) rfl rfl 24 rfl (fun rv h1 q10 => ?_)
      obtain ⟨m11, n12, rfl, rfl, I13, K14, rm11⟩ := q10
      replace rm11 : LTu m11 (-1) := rm11
      have K14c := K14
      have K14 := K9.trans (K14.sub (wl_sub (by decide)))
      show PV _ _ _ _ _ _ _ 24 [.ref 123, .int x0, .int x1, pv_U, pv_U, pv_U, pv_U, pv_U] [] _
      have kT := rm11
      refine pv_aload_n (M := mX12_chain) 0 dX12_chain_24 25 rfl rfl rfl ?_
      refine mv_get (M := mX12_chain) (v := .ref 168) dX12_chain_25 FX12 63 wd1236 (by decide) (tl123 hT) rfl rfl 28 rfl ?_
      refine pv_sipush (M := mX12_chain) (v := 2048) dX12_chain_28 31 rfl (by decide) ?_
      refine iv_iald (M := mX12_chain) (X := 2048) (l1 := (-2147483648)) (l2 := 2147483647) dX12_chain_31 (tl168 hT) (by decide) (by omega) (by omega) I13 (fun _ => rfl) 32 rfl (fun v16 ev16 pv16 qv16 => ?_)
      have k32 : v16.toInt = (m11 168 2048).toInt := congrArg Int32.toInt ev16
      refine pv_istore_n (M := mX12_chain) 3 (lo2 := [.ref 123, .int x0, .int x1, .int v16, pv_U, pv_U, pv_U, pv_U]) dX12_chain_32 33 rfl rfl (by decide) rfl rfl ?_
      refine pv_iload_n (M := mX12_chain) 2 dX12_chain_33 34 rfl rfl rfl ?_
      refine pv_iconst (M := mX12_chain) (v := (-1)) dX12_chain_34 35 rfl (by decide) ?_
      refine pv_icmp_ne (M := mX12_chain) (tgt := 40) dX12_chain_35 38 rfl (by decide) (fun c18 => ?_) (fun c18 => ?_)
      · have c18 := iv_ne (X := x1.toInt) (Y := (-1)) c18 rfl (by decide)
        refine pv_iload_n (M := mX12_chain) 2 dX12_chain_40 41 rfl rfl rfl ?_
        refine pv_iload_n (M := mX12_chain) 3 dX12_chain_41 42 rfl rfl rfl ?_
        refine pv_icmp_lt (M := mX12_chain) (tgt := 48) dX12_chain_42 45 rfl (by decide) (fun c19 => ?_) (fun c19 => ?_)
        · have c19 := iv_lt (X := x1.toInt) (Y := v16.toInt) c19 rfl rfl
          refine pv_bipush (M := mX12_chain) (v := 8) dX12_chain_48 50 rfl (by decide) ?_
          refine pv_istore (M := mX12_chain) (lo2 := [.ref 123, .int x0, .int x1, .int v16, .int 8, pv_U, pv_U, pv_U]) dX12_chain_50 52 rfl (by decide) rfl rfl ?_
          refine pv_iconst (M := mX12_chain) (v := 0) dX12_chain_52 53 rfl (by decide) ?_
          refine pv_istore (M := mX12_chain) (lo2 := [.ref 123, .int x0, .int x1, .int v16, .int 8, .int 0, pv_U, pv_U]) dX12_chain_53 55 rfl (by decide) rfl rfl ?_
          refine pv_iconst (M := mX12_chain) (v := 0) dX12_chain_55 56 rfl (by decide) ?_
          refine pv_istore (M := mX12_chain) (lo2 := [.ref 123, .int x0, .int x1, .int v16, .int 8, .int 0, .int 0, pv_U]) dX12_chain_56 58 rfl (by decide) rfl rfl ?_
          have lp28 : ∀ (fuel27 : Nat) (y20 : Int32) (y21 : Int32) (y22 : Int32), (0 ≤ y20.toInt) → (y20.toInt ≤ 8) → (0 ≤ y21.toInt) → (y21.toInt ≤ 255) → (0 ≤ y22.toInt) → (y22.toInt ≤ 2147483647) → (y22.toInt ≤ x1.toInt) → ((m11 168 (256 * y20.toInt + y21.toInt).toNat).toInt = v16.toInt - y22.toInt) → ((x1.toInt - y22.toInt) : Int).toNat < fuel27 → PV none g mX12_chain (sqI T BB (wl [(123, 123, some 40), (123, 123, some 41), (149, 149, none), (150, 150, none), (167, 167, none), (168, 168, none)]) r m (-2147483648) 2147483647 (fun m' v => True)) 3 0 0 58 [.ref 123, .int x0, .int x1, .int v16, .int y20, .int y21, .int y22, pv_U] [] (mk T m11 n12 r) := by
            intro fuel27
            induction fuel27 with
            | zero => intro y20 y21 y22 b30 b31 b32 b33 b34 b35 b36 b37 z38; omega
            | succ fuel27 ih29 =>
              intro y20 y21 y22 b30 b31 b32 b33 b34 b35 b36 b37 z38
              have kg := (show (m11 168 (256 * y20.toInt + y21.toInt).toNat).toInt = v16.toInt - y22.toInt by assumption)
              refine pv_iconst (M := mX12_chain) (v := 0) dX12_chain_58 59 rfl (by decide) ?_
              refine pv_istore (M := mX12_chain) (lo2 := [.ref 123, .int x0, .int x1, .int v16, .int y20, .int y21, .int y22, .int 0]) dX12_chain_59 61 rfl (by decide) rfl rfl ?_
              have lp46 : ∀ (fuel45 : Nat) (y40 : Int32), (0 ≤ y40.toInt) → (y40.toInt ≤ 7) → (LBW m11 y20 y21 y40.toInt (m11 168 (256 * y20.toInt + y21.toInt).toNat)) → ((7 - y40.toInt) : Int).toNat < fuel45 → PV none g mX12_chain (sqI T BB (wl [(123, 123, some 40), (123, 123, some 41), (149, 149, none), (150, 150, none), (167, 167, none), (168, 168, none)]) r m (-2147483648) 2147483647 (fun m' v => True)) 3 0 0 61 [.ref 123, .int x0, .int x1, .int v16, .int y20, .int y21, .int y22, .int y40] [] (mk T m11 n12 r) := by
                intro fuel45
                induction fuel45 with
                | zero => intro y40 b48 b49 b50 z51; omega
                | succ fuel45 ih47 =>
                  intro y40 b48 b49 b50 z51
                  have kw := (show LBW m11 y20 y21 y40.toInt (m11 168 (256 * y20.toInt + y21.toInt).toNat) by assumption)
                  refine pv_aload_n (M := mX12_chain) 0 dX12_chain_61 62 rfl rfl rfl ?_
                  refine pv_iload (M := mX12_chain) dX12_chain_62 64 rfl rfl ?_
                  refine pv_iload (M := mX12_chain) dX12_chain_64 66 rfl rfl ?_
                  refine pv_iload (M := mX12_chain) dX12_chain_66 68 rfl rfl ?_
                  refine pv_callv (M := mX12_chain) (as := [.int y20, .int y40, .int y21]) (st := []) (kc2 := 0) (ks2 := 0) dX12_chain_68 wd1769 YX12_longBy ⟨wd1771, wd121⟩ (mk_get (tl123 hT)) rfl rfl (s_X12_longBy g hT I13 y20 (by omega) (by omega) y40 (by omega) (by omega) y21 (by omega) (by omega)) rfl rfl (Nat.le_of_ble_eq_true rfl) (by decide) rfl rfl 71 rfl (fun rv h1 q53 => ?_)
                  obtain ⟨v54, rfl, rfl, pv54, qv54, rv54⟩ := q53
                  replace rv54 : LBv m11 y20 y40 y21 v54 := rv54
                  show PV _ _ _ _ _ _ _ 71 [.ref 123, .int x0, .int x1, .int v16, .int y20, .int y21, .int y22, .int y40] [.int v54] _
                  have kr := rv54
                  refine pv_aload_n (M := mX12_chain) 0 dX12_chain_71 72 rfl rfl rfl ?_
                  refine mv_get (M := mX12_chain) (v := .ref 168) dX12_chain_72 FX12 63 wd1236 (by decide) (tl123 hT) rfl rfl 75 rfl ?_
                  refine pv_sipush (M := mX12_chain) (v := 256) dX12_chain_75 78 rfl (by decide) ?_
                  refine pv_iload (M := mX12_chain) dX12_chain_78 80 rfl rfl ?_
                  refine iv_imul (M := mX12_chain) (X := 256) (Y := y20.toInt) dX12_chain_80 81 rfl (by decide) rfl (by omega) (by omega) (fun v56 ev56 => ?_)
                  refine pv_iload (M := mX12_chain) dX12_chain_81 83 rfl rfl ?_
                  refine iv_iadd (M := mX12_chain) (X := v56.toInt) (Y := y21.toInt) dX12_chain_83 84 rfl rfl rfl (by omega) (by omega) (fun v57 ev57 => ?_)
                  refine iv_iald (M := mX12_chain) (X := v57.toInt) (l1 := (-2147483648)) (l2 := 2147483647) dX12_chain_84 (tl168 hT) rfl (by omega) (by omega) I13 (fun _ => rfl) 85 rfl (fun v58 ev58 pv58 qv58 => ?_)
                  have k85 : v58.toInt = (m11 168 (256 * y20.toInt + y21.toInt).toNat).toInt := (congrArg Int32.toInt ev58).trans (congrArg (fun z => (m11 168 z).toInt) (by omega))
                  refine pv_icmp_eq (M := mX12_chain) (tgt := 97) dX12_chain_85 88 rfl (by decide) (fun c60 => ?_) (fun c60 => ?_)
                  · have c60 := iv_eq (X := v54.toInt) (Y := v58.toInt) c60 rfl rfl
                    have kq := LBv_pos kr (by omega)
                    refine pv_iload (M := mX12_chain) dX12_chain_97 99 rfl rfl ?_
                    refine pv_iload_n (M := mX12_chain) 2 dX12_chain_99 100 rfl rfl rfl ?_
                    refine pv_icmp_ne (M := mX12_chain) (tgt := 106) dX12_chain_100 103 rfl (by decide) (fun c62 => ?_) (fun c62 => ?_)
                    · have c62 := iv_ne (X := y22.toInt) (Y := x1.toInt) c62 rfl rfl
                      refine pv_iload (M := mX12_chain) dX12_chain_106 108 rfl rfl ?_
                      refine pv_istore (M := mX12_chain) (lo2 := [.ref 123, .int x0, .int x1, .int v16, .int y40, .int y21, .int y22, .int y40]) dX12_chain_108 110 rfl (by decide) rfl rfl ?_
                      refine pv_iload (M := mX12_chain) dX12_chain_110 112 rfl rfl ?_
                      refine pv_iconst (M := mX12_chain) (v := 1) dX12_chain_112 113 rfl (by decide) ?_
                      refine pv_iload (M := mX12_chain) dX12_chain_113 115 rfl rfl ?_
                      refine iv_shlU (M := mX12_chain) dX12_chain_115 116 rfl (fun v63 ev63 => ?_)
                      have pv63 : 1 ≤ v63.toInt ∧ v63.toInt ≤ 128 := by rw [ev63]; exact iv_sh17 (by omega) (by omega)
                      have k116 := ev63
                      refine iv_orU (M := mX12_chain) dX12_chain_116 117 rfl (fun v65 ev65 => ?_)
                      have pv65 : 0 ≤ v65.toInt ∧ v65.toInt ≤ 255 := by rw [ev65]; exact iv_or8 (by omega) (by omega) (by omega) (by omega)
                      have k117 : v65 = y21 ||| ((1 : Int32) <<< (y40 &&& 31)) := by rw [ev65, k116]
                      refine pv_istore (M := mX12_chain) (lo2 := [.ref 123, .int x0, .int x1, .int v16, .int y40, .int v65, .int y22, .int y40]) dX12_chain_117 119 rfl (by decide) rfl rfl ?_
                      have z68 := iv_rng y22
                      refine iv_inc (M := mX12_chain) (C := 1) dX12_chain_119 122 rfl rfl (by decide) rfl rfl (by decide) (by omega) (by omega) (fun v67 ev67 => ?_)
                      show PV _ _ _ _ _ _ _ 122 [.ref 123, .int x0, .int x1, .int v16, .int y40, .int v65, .int v67, .int y40] [] _
                      refine pv_goto (M := mX12_chain) (tgt := 58) dX12_chain_122 (by decide) ?_
                      refine pv_fg (lo2 := [.ref 123, .int x0, .int x1, .int v16, .int y40, .int v65, .int v67, pv_U]) ⟨Or.inr rfl, ⟨Or.inr rfl, ⟨Or.inr rfl, ⟨Or.inr rfl, ⟨Or.inr rfl, ⟨Or.inr rfl, ⟨Or.inr rfl, ⟨Or.inl rfl, trivial⟩⟩⟩⟩⟩⟩⟩⟩ ?_
                      have kv : (m11 168 (256 * y40.toInt + v65.toInt).toNat).toInt = v16.toInt - v67.toInt := by rw [k117]; omega
                      exact ih29 y40 v65 v67 (by first | omega | assumption | exact (iv_rng _).2 | exact (iv_rng _).1 | decide) (by first | omega | assumption | exact (iv_rng _).2 | exact (iv_rng _).1 | decide) (by first | omega | assumption | exact (iv_rng _).2 | exact (iv_rng _).1 | decide) (by first | omega | assumption | exact (iv_rng _).2 | exact (iv_rng _).1 | decide) (by first | omega | assumption | exact (iv_rng _).2 | exact (iv_rng _).1 | decide) (by first | omega | assumption | exact (iv_rng _).2 | exact (iv_rng _).1 | decide) (by first | omega | assumption | (show v67.toInt ≤ x1.toInt; omega) | decide) kv (by omega)
                    · have c62 := iv_eq (X := y22.toInt) (Y := x1.toInt) c62 rfl rfl
                      refine pv_iload (M := mX12_chain) dX12_chain_103 105 rfl rfl ?_
                      exact pv_iret (M := mX12_chain) dX12_chain_105 rfl rfl ⟨_, _, _, rfl, rfl, I13, K14, (iv_rng y40).1, (iv_rng y40).2, trivial⟩
                  · have c60 := iv_ne (X := v54.toInt) (Y := v58.toInt) c60 rfl rfl
                    refine pv_iload (M := mX12_chain) dX12_chain_88 90 rfl rfl ?_
                    refine pv_iconst (M := mX12_chain) (v := 1) dX12_chain_90 91 rfl (by decide) ?_
                    refine iv_iadd (M := mX12_chain) (X := y40.toInt) (Y := 1) dX12_chain_91 92 rfl rfl (by decide) (by omega) (by omega) (fun v70 ev70 => ?_)
                    refine pv_istore (M := mX12_chain) (lo2 := [.ref 123, .int x0, .int x1, .int v16, .int y20, .int y21, .int y22, .int v70]) dX12_chain_92 94 rfl (by decide) rfl rfl ?_
                    refine pv_goto (M := mX12_chain) (tgt := 61) dX12_chain_94 (by decide) ?_
                    have kwb : LBW m11 y20 y21 v70.toInt (m11 168 (256 * y20.toInt + y21.toInt).toNat) := by rw [show v70.toInt = y40.toInt + 1 by omega]; exact LBw_step kw kr (by omega)
                    have kx : v70.toInt ≤ 7 := kwb.le
                    exact ih47 v70 (by first | omega | assumption | exact (iv_rng _).2 | exact (iv_rng _).1 | decide) (by first | omega | assumption | exact (iv_rng _).2 | exact (iv_rng _).1 | decide) kwb (by omega)
              have z73 : (0 : Int32).toInt = 0 := by decide
              have kw0 : LBW m11 y20 y21 (0 : Int32).toInt (m11 168 (256 * y20.toInt + y21.toInt).toNat) := by rw [Int32.toInt_zero]; exact LBW.start (kT y20 y21 (by omega) (by omega) (by omega) (by omega) (by omega)) (by omega)
              exact lp46 (((7 - 0) : Int).toNat + 1) 0 (by first | omega | assumption | exact (iv_rng _).2 | exact (iv_rng _).1 | decide) (by first | omega | assumption | exact (iv_rng _).2 | exact (iv_rng _).1 | decide) kw0 (by omega)
          have z75 : (8 : Int32).toInt = 8 := by decide
          have z76 : (0 : Int32).toInt = 0 := by decide
          have z77 : (0 : Int32).toInt = 0 := by decide
          exact lp28 (((x1.toInt - 0) : Int).toNat + 1) 8 0 0 (by first | omega | assumption | exact (iv_rng _).2 | exact (iv_rng _).1 | decide) (by first | omega | assumption | exact (iv_rng _).2 | exact (iv_rng _).1 | decide) (by first | omega | assumption | exact (iv_rng _).2 | exact (iv_rng _).1 | decide) (by first | omega | assumption | exact (iv_rng _).2 | exact (iv_rng _).1 | decide) (by first | omega | assumption | exact (iv_rng _).2 | exact (iv_rng _).1 | decide) (by first | omega | assumption | exact (iv_rng _).2 | exact (iv_rng _).1 | decide) (by first | omega | assumption | (show 0 ≤ x1.toInt; omega) | decide) (by show (m11 168 (256 * (8 : Int32).toInt + (0 : Int32).toInt).toNat).toInt = _; rw [show (256 * (8 : Int32).toInt + (0 : Int32).toInt).toNat = 2048 by decide]; omega) (by omega)
        · have c19 := iv_nlt (X := x1.toInt) (Y := v16.toInt) c19 rfl rfl
          refine pv_bipush (M := mX12_chain) (v := (-2)) dX12_chain_45 47 rfl (by decide) ?_
          exact pv_iret (M := mX12_chain) dX12_chain_47 rfl rfl ⟨_, _, _, rfl, rfl, I13, K14, by decide, by decide, trivial⟩
      · have c18 := iv_eq (X := x1.toInt) (Y := (-1)) c18 rfl (by decide)
        refine pv_iload_n (M := mX12_chain) 3 dX12_chain_38 39 rfl rfl rfl ?_
        exact pv_iret (M := mX12_chain) dX12_chain_39 rfl rfl ⟨_, _, _, rfl, rfl, I13, K14, (iv_rng v16).1, (iv_rng v16).2, trivial⟩
    · have c4 := iv_nle (X := (-1)) (Y := x1.toInt) c4 (by decide) rfl
      refine pv_iconst (M := mX12_chain) (v := (-1)) dX12_chain_13 14 rfl (by decide) ?_
      exact pv_iret (M := mX12_chain) dX12_chain_14 rfl rfl ⟨_, _, _, rfl, rfl, I, Kp, by decide, by decide, trivial⟩
