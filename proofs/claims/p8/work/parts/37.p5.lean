set_option maxHeartbeats 2000000 in
set_option maxRecDepth 20000 in
theorem s_X12_reckon (g : pv_G) {T : List mv_T} {m : Nat → Nat → Int32} {n : Nat → Nat → Int64} {r : Nat → Value} (hT : TX T) (I : IV BB m) (x0 : Int32) (x1 : Int32) (x2 : Int32) (hp0 : (x0.toInt = 5 ∨ x0.toInt = 6) → x2.toInt ≠ 0) : PM g mX12_reckon yX12_reckon (sqP (mk T m n r) (-2147483648) 2147483647 (fun v => True)) 1 0 0 [.int x0, .int x1, .int x2] (mk T m n r) := by
  have Kp : fr (wl []) m m := fr.rf
  refine PM.of 0 (lo := [.int x0, .int x1, .int x2]) rfl (by decide) rfl rfl (Nat.le_of_ble_eq_true rfl) ?_
  refine pv_iload_n (M := mX12_reckon) 0 dX12_reckon_0 1 rfl rfl rfl ?_
  by_cases c1 : x0.toInt = 2
  · refine iv_tabIn (M := mX12_reckon) (X := 2) (off := 43) (tgt := 44) dX12_reckon_1 c1 (by decide) (by decide) (by decide) (by decide) ?_
    refine pv_iload_n (M := mX12_reckon) 1 dX12_reckon_44 45 rfl rfl rfl ?_
    refine pv_iload_n (M := mX12_reckon) 2 dX12_reckon_45 46 rfl rfl rfl ?_
    refine iv_addU (M := mX12_reckon) dX12_reckon_46 47 rfl (fun v2 ev2 => ?_)
    exact pv_iret (M := mX12_reckon) dX12_reckon_47 rfl rfl ⟨_, rfl, rfl, (iv_rng v2).1, (iv_rng v2).2, trivial⟩
  by_cases c3 : x0.toInt = 3
  · refine iv_tabIn (M := mX12_reckon) (X := 3) (off := 47) (tgt := 48) dX12_reckon_1 c3 (by decide) (by decide) (by decide) (by decide) ?_
    refine pv_iload_n (M := mX12_reckon) 1 dX12_reckon_48 49 rfl rfl rfl ?_
    refine pv_iload_n (M := mX12_reckon) 2 dX12_reckon_49 50 rfl rfl rfl ?_
    refine iv_subU (M := mX12_reckon) dX12_reckon_50 51 rfl (fun v4 ev4 => ?_)
    exact pv_iret (M := mX12_reckon) dX12_reckon_51 rfl rfl ⟨_, rfl, rfl, (iv_rng v4).1, (iv_rng v4).2, trivial⟩
  by_cases c5 : x0.toInt = 4
  · refine iv_tabIn (M := mX12_reckon) (X := 4) (off := 51) (tgt := 52) dX12_reckon_1 c5 (by decide) (by decide) (by decide) (by decide) ?_
    refine pv_iload_n (M := mX12_reckon) 1 dX12_reckon_52 53 rfl rfl rfl ?_
    refine pv_iload_n (M := mX12_reckon) 2 dX12_reckon_53 54 rfl rfl rfl ?_
    refine iv_mulU (M := mX12_reckon) dX12_reckon_54 55 rfl (fun v6 ev6 => ?_)
    exact pv_iret (M := mX12_reckon) dX12_reckon_55 rfl rfl ⟨_, rfl, rfl, (iv_rng v6).1, (iv_rng v6).2, trivial⟩
  by_cases c7 : x0.toInt = 5
  · refine iv_tabIn (M := mX12_reckon) (X := 5) (off := 55) (tgt := 56) dX12_reckon_1 c7 (by decide) (by decide) (by decide) (by decide) ?_
    refine pv_iload_n (M := mX12_reckon) 1 dX12_reckon_56 57 rfl rfl rfl ?_
    refine pv_iload_n (M := mX12_reckon) 2 dX12_reckon_57 58 rfl rfl rfl ?_
    refine iv_divU (M := mX12_reckon) (Y := x2.toInt) dX12_reckon_58 59 rfl rfl (by omega) (fun v8 ev8 => ?_)
    exact pv_iret (M := mX12_reckon) dX12_reckon_59 rfl rfl ⟨_, rfl, rfl, (iv_rng v8).1, (iv_rng v8).2, trivial⟩
  by_cases c9 : x0.toInt = 6
  · refine iv_tabIn (M := mX12_reckon) (X := 6) (off := 59) (tgt := 60) dX12_reckon_1 c9 (by decide) (by decide) (by decide) (by decide) ?_
    refine pv_iload_n (M := mX12_reckon) 1 dX12_reckon_60 61 rfl rfl rfl ?_
    refine pv_iload_n (M := mX12_reckon) 2 dX12_reckon_61 62 rfl rfl rfl ?_
    refine iv_remU (M := mX12_reckon) (Y := x2.toInt) dX12_reckon_62 63 rfl rfl (by omega) (fun v10 ev10 => ?_)
    exact pv_iret (M := mX12_reckon) dX12_reckon_63 rfl rfl ⟨_, rfl, rfl, (iv_rng v10).1, (iv_rng v10).2, trivial⟩
  by_cases c11 : x0.toInt = 7
  · refine iv_tabIn (M := mX12_reckon) (X := 7) (off := 63) (tgt := 64) dX12_reckon_1 c11 (by decide) (by decide) (by decide) (by decide) ?_
    refine pv_iload_n (M := mX12_reckon) 1 dX12_reckon_64 65 rfl rfl rfl ?_
    refine pv_iload_n (M := mX12_reckon) 2 dX12_reckon_65 66 rfl rfl rfl ?_
    refine pv_icmp_ge (M := mX12_reckon) (tgt := 73) dX12_reckon_66 69 rfl (by decide) (fun c12 => ?_) (fun c12 => ?_)
    · have c12 := iv_le (X := x2.toInt) (Y := x1.toInt) c12 rfl rfl
      refine pv_iconst (M := mX12_reckon) (v := 0) dX12_reckon_73 74 rfl (by decide) ?_
      exact pv_iret (M := mX12_reckon) dX12_reckon_74 rfl rfl ⟨_, rfl, rfl, by decide, by decide, trivial⟩
    · have c12 := iv_nle (X := x2.toInt) (Y := x1.toInt) c12 rfl rfl
      refine pv_iconst (M := mX12_reckon) (v := 1) dX12_reckon_69 70 rfl (by decide) ?_
      refine pv_goto (M := mX12_reckon) (tgt := 74) dX12_reckon_70 (by decide) ?_
      exact pv_iret (M := mX12_reckon) dX12_reckon_74 rfl rfl ⟨_, rfl, rfl, by decide, by decide, trivial⟩
  by_cases c13 : x0.toInt = 8
  · refine iv_tabIn (M := mX12_reckon) (X := 8) (off := 74) (tgt := 75) dX12_reckon_1 c13 (by decide) (by decide) (by decide) (by decide) ?_
    refine pv_iload_n (M := mX12_reckon) 1 dX12_reckon_75 76 rfl rfl rfl ?_
    refine pv_iload_n (M := mX12_reckon) 2 dX12_reckon_76 77 rfl rfl rfl ?_
    refine pv_icmp_le (M := mX12_reckon) (tgt := 84) dX12_reckon_77 80 rfl (by decide) (fun c14 => ?_) (fun c14 => ?_)
    · have c14 := iv_le (X := x1.toInt) (Y := x2.toInt) c14 rfl rfl
      refine pv_iconst (M := mX12_reckon) (v := 0) dX12_reckon_84 85 rfl (by decide) ?_
      exact pv_iret (M := mX12_reckon) dX12_reckon_85 rfl rfl ⟨_, rfl, rfl, by decide, by decide, trivial⟩
    · have c14 := iv_nle (X := x1.toInt) (Y := x2.toInt) c14 rfl rfl
      refine pv_iconst (M := mX12_reckon) (v := 1) dX12_reckon_80 81 rfl (by decide) ?_
      refine pv_goto (M := mX12_reckon) (tgt := 85) dX12_reckon_81 (by decide) ?_
      exact pv_iret (M := mX12_reckon) dX12_reckon_85 rfl rfl ⟨_, rfl, rfl, by decide, by decide, trivial⟩
  refine pv_tableOut (M := mX12_reckon) (tgt := 86) dX12_reckon_1 (by omega) (by decide) ?_
  refine pv_iload_n (M := mX12_reckon) 1 dX12_reckon_86 87 rfl rfl rfl ?_
  refine pv_iload_n (M := mX12_reckon) 2 dX12_reckon_87 88 rfl rfl rfl ?_
  refine pv_icmp_ne (M := mX12_reckon) (tgt := 95) dX12_reckon_88 91 rfl (by decide) (fun c15 => ?_) (fun c15 => ?_)
  · have c15 := iv_ne (X := x1.toInt) (Y := x2.toInt) c15 rfl rfl
    refine pv_iconst (M := mX12_reckon) (v := 0) dX12_reckon_95 96 rfl (by decide) ?_
    exact pv_iret (M := mX12_reckon) dX12_reckon_96 rfl rfl ⟨_, rfl, rfl, by decide, by decide, trivial⟩
  · have c15 := iv_eq (X := x1.toInt) (Y := x2.toInt) c15 rfl rfl
    refine pv_iconst (M := mX12_reckon) (v := 1) dX12_reckon_91 92 rfl (by decide) ?_
    refine pv_goto (M := mX12_reckon) (tgt := 96) dX12_reckon_92 (by decide) ?_
    exact pv_iret (M := mX12_reckon) dX12_reckon_96 rfl rfl ⟨_, rfl, rfl, by decide, by decide, trivial⟩

set_option maxHeartbeats 2000000 in
set_option maxRecDepth 20000 in
theorem s_X12_comesTo (g : pv_G) {T : List mv_T} {m : Nat → Nat → Int32} {n : Nat → Nat → Int64} {r : Nat → Value} (hT : TX T) (I : IV BB m) (x0 : Int32) (hl0 : 0 ≤ x0.toInt) (hh0 : x0.toInt ≤ 180) (x1 : Int32) (hl1 : 0 ≤ x1.toInt) (hh1 : x1.toInt ≤ 180) (hp0 : WFc (m 136) x0.toInt.toNat x1.toInt.toNat) (hp1 : x0.toInt ≤ 179) : PM g mX12_comesTo yX12_comesTo (sqI T BB (wl [(141, 141, none)]) r m (-2147483648) 2147483647 (fun m' v => True)) 2 0 0 [.ref 123, .int x0, .int x1] (mk T m n r) := by
  have Kp : fr (wl [(141, 141, none)]) m m := fr.rf
  refine PM.of 5 (lo := [.ref 123, .int x0, .int x1, pv_U, pv_U, pv_U, pv_U, pv_U]) rfl (by decide) rfl rfl (Nat.le_of_ble_eq_true rfl) ?_
  obtain ⟨H, H0, HK⟩ := hp0
  refine pv_iconst (M := mX12_comesTo) (v := 0) dX12_comesTo_0 1 rfl (by decide) ?_
  refine pv_istore_n (M := mX12_comesTo) 3 (lo2 := [.ref 123, .int x0, .int x1, .int 0, pv_U, pv_U, pv_U, pv_U]) dX12_comesTo_1 2 rfl rfl (by decide) rfl rfl ?_
  refine pv_sipush (M := mX12_comesTo) (v := 180) dX12_comesTo_2 5 rfl (by decide) ?_
  refine pv_iload_n (M := mX12_comesTo) 1 dX12_comesTo_5 6 rfl rfl rfl ?_
  refine pv_sipush (M := mX12_comesTo) (v := 180) dX12_comesTo_6 9 rfl (by decide) ?_
  refine iv_idiv (M := mX12_comesTo) (X := x0.toInt) (Y := 180) dX12_comesTo_9 10 rfl rfl (by decide) (by omega) (by omega) (fun v2 ev2 => ?_)
  refine iv_imul (M := mX12_comesTo) (X := 180) (Y := v2.toInt) dX12_comesTo_10 11 rfl (by decide) rfl (by omega) (by omega) (fun v3 ev3 => ?_)
  refine pv_istore (M := mX12_comesTo) (lo2 := [.ref 123, .int x0, .int x1, .int 0, .int v3, pv_U, pv_U, pv_U]) dX12_comesTo_11 13 rfl (by decide) rfl rfl ?_
  refine pv_iload_n (M := mX12_comesTo) 1 dX12_comesTo_13 14 rfl rfl rfl ?_
  refine pv_istore (M := mX12_comesTo) (lo2 := [.ref 123, .int x0, .int x1, .int 0, .int v3, .int x0, pv_U, pv_U]) dX12_comesTo_14 16 rfl (by decide) rfl rfl ?_
  have lp11 : ∀ (fuel10 : Nat) (y4 : Int32) (y5 : Int32) (m6 : Nat → Nat → Int32) (n7 : Nat → Nat → Int64), (0 ≤ y4.toInt) → (y4.toInt ≤ 180) → (0 ≤ y5.toInt) → (y5.toInt ≤ 180) → (x0.toInt ≤ y5.toInt) → (y4.toInt ≤ y5.toInt) → (H y5.toInt.toNat ≤ y4.toInt) → IV BB m6 → fr (wl [(141, 141, none)]) m m6 → ((180 - y5.toInt) : Int).toNat < fuel10 → PV none g mX12_comesTo (sqI T BB (wl [(141, 141, none)]) r m (-2147483648) 2147483647 (fun m' v => True)) 2 0 0 16 [.ref 123, .int x0, .int x1, .int y4, .int v3, .int y5, pv_U, pv_U] [] (mk T m6 n7 r) := by
    intro fuel10
    induction fuel10 with
    | zero => intro y4 y5 m6 n7 b13 b14 b15 b16 b17 b18 b19 I8 K9 z20; omega
    | succ fuel10 ih12 =>
      intro y4 y5 m6 n7 b13 b14 b15 b16 b17 b18 b19 I8 K9 z20
      refine pv_iload (M := mX12_comesTo) dX12_comesTo_16 18 rfl rfl ?_
      refine pv_iload_n (M := mX12_comesTo) 2 dX12_comesTo_18 19 rfl rfl rfl ?_
      refine pv_icmp_ge (M := mX12_comesTo) (tgt := 233) dX12_comesTo_19 22 rfl (by decide) (fun c21 => ?_) (fun c21 => ?_)
      · have c21 := iv_le (X := x1.toInt) (Y := y5.toInt) c21 rfl rfl
        refine pv_aload_n (M := mX12_comesTo) 0 dX12_comesTo_233 234 rfl rfl rfl ?_
        refine mv_get (M := mX12_comesTo) (v := .ref 141) dX12_comesTo_234 FX12 32 wd1205 (by decide) (tl123 hT) rfl rfl 237 rfl ?_
        refine pv_iconst (M := mX12_comesTo) (v := 0) dX12_comesTo_237 238 rfl (by decide) ?_
        refine iv_iald (M := mX12_comesTo) (X := 0) (l1 := (-2147483648)) (l2 := 2147483647) dX12_comesTo_238 (tl141 hT) (by decide) (by omega) (by omega) I8 (fun _ => rfl) 239 rfl (fun v22 ev22 pv22 qv22 => ?_)
        exact pv_iret (M := mX12_comesTo) dX12_comesTo_239 rfl rfl ⟨_, _, _, rfl, rfl, I8, K9, (iv_rng v22).1, (iv_rng v22).2, trivial⟩
      · have c21 := iv_nle (X := x1.toInt) (Y := y5.toInt) c21 rfl rfl
        have kk := HK y5.toInt.toNat (by omega) (by omega)
        unfold ifv at kk
        refine pv_aload_n (M := mX12_comesTo) 0 dX12_comesTo_22 23 rfl rfl rfl ?_
        refine mv_get (M := mX12_comesTo) (v := .ref 136) dX12_comesTo_23 FX12 27 wd1200 (by decide) (tl123 hT) rfl rfl 26 rfl ?_
        refine pv_iload (M := mX12_comesTo) dX12_comesTo_26 28 rfl rfl ?_
        refine iv_iald (M := mX12_comesTo) (X := y5.toInt) (l1 := 0) (l2 := 13631487) dX12_comesTo_28 (tl136 hT) rfl (by omega) (by omega) I8 (fun _ => rfl) 29 rfl (fun v25 ev25 pv25 qv25 => ?_)
        have k29 : v25.toInt = (m 136 y5.toInt.toNat).toInt := congrArg Int32.toInt (ev25.trans (K9 136 _ rfl))
        refine pv_ldc (M := mX12_comesTo) (v := 1048576) dX12_comesTo_29 31 rfl wd1437 ?_
        refine iv_idiv (M := mX12_comesTo) (X := v25.toInt) (Y := 1048576) dX12_comesTo_31 32 rfl rfl (by decide) (by omega) (by omega) (fun v27 ev27 => ?_)
        have k32 : v27.toInt = opv (m 136 y5.toInt.toNat) := by unfold opv; omega
        refine pv_istore (M := mX12_comesTo) (lo2 := [.ref 123, .int x0, .int x1, .int y4, .int v3, .int y5, .int v27, pv_U]) dX12_comesTo_32 34 rfl (by decide) rfl rfl ?_
        refine pv_aload_n (M := mX12_comesTo) 0 dX12_comesTo_34 35 rfl rfl rfl ?_
        refine mv_get (M := mX12_comesTo) (v := .ref 136) dX12_comesTo_35 FX12 27 wd1200 (by decide) (tl123 hT) rfl rfl 38 rfl ?_
        refine pv_iload (M := mX12_comesTo) dX12_comesTo_38 40 rfl rfl ?_
        refine iv_iald (M := mX12_comesTo) (X := y5.toInt) (l1 := 0) (l2 := 13631487) dX12_comesTo_40 (tl136 hT) rfl (by omega) (by omega) I8 (fun _ => rfl) 41 rfl (fun v29 ev29 pv29 qv29 => ?_)
        have k41 : v29.toInt = (m 136 y5.toInt.toNat).toInt := congrArg Int32.toInt (ev29.trans (K9 136 _ rfl))
        refine pv_ldc (M := mX12_comesTo) (v := 1048576) dX12_comesTo_41 43 rfl wd1437 ?_
        refine iv_irem (M := mX12_comesTo) (X := v29.toInt) (Y := 1048576) dX12_comesTo_43 44 rfl rfl (by decide) (by omega) (by omega) (fun v31 ev31 => ?_)
        have k44 : v31.toInt = agv (m 136 y5.toInt.toNat) := by unfold agv; omega
        refine pv_istore (M := mX12_comesTo) (lo2 := [.ref 123, .int x0, .int x1, .int y4, .int v3, .int y5, .int v27, .int v31]) dX12_comesTo_44 46 rfl (by decide) rfl rfl ?_
        refine pv_iload (M := mX12_comesTo) dX12_comesTo_46 48 rfl rfl ?_
        refine pv_iconst (M := mX12_comesTo) (v := 1) dX12_comesTo_48 49 rfl (by decide) ?_
        refine iv_iadd (M := mX12_comesTo) (X := y5.toInt) (Y := 1) dX12_comesTo_49 50 rfl rfl (by decide) (by omega) (by omega) (fun v33 ev33 => ?_)
        refine pv_istore (M := mX12_comesTo) (lo2 := [.ref 123, .int x0, .int x1, .int y4, .int v3, .int v33, .int v27, .int v31]) dX12_comesTo_50 52 rfl (by decide) rfl rfl ?_
        refine pv_iload (M := mX12_comesTo) dX12_comesTo_52 54 rfl rfl ?_
        refine pv_if_eq (M := mX12_comesTo) (tgt := 63) dX12_comesTo_54 57 rfl (by decide) (fun c34 => ?_) (fun c34 => ?_)
        · have c34 := iv_eq (X := v27.toInt) (Y := 0) c34 rfl (by decide)
          refine pv_aload_n (M := mX12_comesTo) 0 dX12_comesTo_63 64 rfl rfl rfl ?_
          refine mv_get (M := mX12_comesTo) (v := .ref 141) dX12_comesTo_64 FX12 32 wd1205 (by decide) (tl123 hT) rfl rfl 67 rfl ?_
          refine pv_iload_n (M := mX12_comesTo) 3 dX12_comesTo_67 68 rfl rfl rfl ?_
          refine pv_iload (M := mX12_comesTo) dX12_comesTo_68 70 rfl rfl ?_
          refine pv_if_ne (M := mX12_comesTo) (tgt := 78) dX12_comesTo_70 73 rfl (by decide) (fun c35 => ?_) (fun c35 => ?_)
          · have c35 := iv_ne (X := v27.toInt) (Y := 0) c35 rfl (by decide)
            omega
          · have c35 := iv_eq (X := v27.toInt) (Y := 0) c35 rfl (by decide)
            refine pv_iload (M := mX12_comesTo) dX12_comesTo_73 75 rfl rfl ?_
            refine pv_goto (M := mX12_comesTo) (tgt := 85) dX12_comesTo_75 (by decide) ?_
            refine iv_iast (M := mX12_comesTo) (X := y4.toInt) (l1 := (-2147483648)) (l2 := 2147483647) dX12_comesTo_85 (tl141 hT) rfl (by omega) (by omega) I8 (fun _ => rfl) (iv_rng v31).1 (iv_rng v31).2 86 rfl (fun m36 e39 I37 => ?_)
            have K38 := K9.set e39 rfl
            refine pv_iload_n (M := mX12_comesTo) 3 dX12_comesTo_86 87 rfl rfl rfl ?_
            refine pv_iconst (M := mX12_comesTo) (v := 1) dX12_comesTo_87 88 rfl (by decide) ?_
            refine iv_iadd (M := mX12_comesTo) (X := y4.toInt) (Y := 1) dX12_comesTo_88 89 rfl rfl (by decide) (by omega) (by omega) (fun v40 ev40 => ?_)
            refine pv_istore_n (M := mX12_comesTo) 3 (lo2 := [.ref 123, .int x0, .int x1, .int v40, .int v3, .int v33, .int v27, .int v31]) dX12_comesTo_89 90 rfl rfl (by decide) rfl rfl ?_
            refine pv_goto (M := mX12_comesTo) (tgt := 230) dX12_comesTo_90 (by decide) ?_
            refine pv_goto (M := mX12_comesTo) (tgt := 16) dX12_comesTo_230 (by decide) ?_
            refine pv_fg (lo2 := [.ref 123, .int x0, .int x1, .int v40, .int v3, .int v33, pv_U, pv_U]) ⟨Or.inr rfl, ⟨Or.inr rfl, ⟨Or.inr rfl, ⟨Or.inr rfl, ⟨Or.inr rfl, ⟨Or.inr rfl, ⟨Or.inl rfl, ⟨Or.inl rfl, trivial⟩⟩⟩⟩⟩⟩⟩⟩ ?_
            have kb : H v33.toInt.toNat ≤ v40.toInt := by first | (rw [show v33.toInt.toNat = (y5.toInt).toNat + 1 by omega]; omega) | (rw [show v33.toInt.toNat = (agv (m 136 (y5.toInt).toNat)).toNat by omega]; omega)
            exact ih12 v40 v33 m36 n7 (by first | omega | assumption | exact (iv_rng _).2 | exact (iv_rng _).1 | decide) (by first | omega | assumption | exact (iv_rng _).2 | exact (iv_rng _).1 | decide) (by first | omega | assumption | exact (iv_rng _).2 | exact (iv_rng _).1 | decide) (by first | omega | assumption | exact (iv_rng _).2 | exact (iv_rng _).1 | decide) (by first | omega | assumption | (show x0.toInt ≤ v33.toInt; omega) | decide) (by first | omega | assumption | (show v40.toInt ≤ v33.toInt; omega) | decide) kb I37 K38 (by omega)
        · have c34 := iv_ne (X := v27.toInt) (Y := 0) c34 rfl (by decide)
          refine pv_iload (M := mX12_comesTo) dX12_comesTo_57 59 rfl rfl ?_
          refine pv_iconst (M := mX12_comesTo) (v := 1) dX12_comesTo_59 60 rfl (by decide) ?_
          refine pv_icmp_ne (M := mX12_comesTo) (tgt := 93) dX12_comesTo_60 63 rfl (by decide) (fun c42 => ?_) (fun c42 => ?_)
          · have c42 := iv_ne (X := v27.toInt) (Y := 1) c42 rfl (by decide)
            refine pv_iload (M := mX12_comesTo) dX12_comesTo_93 95 rfl rfl ?_
            refine pv_bipush (M := mX12_comesTo) (v := 10) dX12_comesTo_95 97 rfl (by decide) ?_
            refine pv_icmp_ne (M := mX12_comesTo) (tgt := 121) dX12_comesTo_97 100 rfl (by decide) (fun c43 => ?_) (fun c43 => ?_)
            · have c43 := iv_ne (X := v27.toInt) (Y := 10) c43 rfl (by decide)
              refine pv_iload (M := mX12_comesTo) dX12_comesTo_121 123 rfl rfl ?_
              refine pv_bipush (M := mX12_comesTo) (v := 11) dX12_comesTo_123 125 rfl (by decide) ?_
              refine pv_icmp_eq (M := mX12_comesTo) (tgt := 135) dX12_comesTo_125 128 rfl (by decide) (fun c44 => ?_) (fun c44 => ?_)
              · have c44 := iv_eq (X := v27.toInt) (Y := 11) c44 rfl (by decide)
                refine pv_aload_n (M := mX12_comesTo) 0 dX12_comesTo_135 136 rfl rfl rfl ?_
                refine mv_get (M := mX12_comesTo) (v := .ref 141) dX12_comesTo_136 FX12 32 wd1205 (by decide) (tl123 hT) rfl rfl 139 rfl ?_
                refine pv_iload_n (M := mX12_comesTo) 3 dX12_comesTo_139 140 rfl rfl rfl ?_
                refine pv_iconst (M := mX12_comesTo) (v := 1) dX12_comesTo_140 141 rfl (by decide) ?_
                refine iv_isub (M := mX12_comesTo) (X := y4.toInt) (Y := 1) dX12_comesTo_141 142 rfl rfl (by decide) (by omega) (by omega) (fun v45 ev45 => ?_)
                refine iv_iald (M := mX12_comesTo) (X := v45.toInt) (l1 := (-2147483648)) (l2 := 2147483647) dX12_comesTo_142 (tl141 hT) rfl (by omega) (by omega) I8 (fun _ => rfl) 143 rfl (fun v46 ev46 pv46 qv46 => ?_)
                refine pv_iload (M := mX12_comesTo) dX12_comesTo_143 145 rfl rfl ?_
                refine pv_bipush (M := mX12_comesTo) (v := 12) dX12_comesTo_145 147 rfl (by decide) ?_
                refine pv_icmp_ne (M := mX12_comesTo) (tgt := 154) dX12_comesTo_147 150 rfl (by decide) (fun c47 => ?_) (fun c47 => ?_)
                · have c47 := iv_ne (X := v27.toInt) (Y := 12) c47 rfl (by decide)
                  refine pv_iconst (M := mX12_comesTo) (v := 0) dX12_comesTo_154 155 rfl (by decide) ?_
                  refine pv_icmp_ne (M := mX12_comesTo) (tgt := 168) dX12_comesTo_155 158 rfl (by decide) (fun c48 => ?_) (fun c48 => ?_)
                  · have c48 := iv_ne (X := v46.toInt) (Y := 0) c48 rfl (by decide)
                    refine pv_iload_n (M := mX12_comesTo) 3 dX12_comesTo_168 169 rfl rfl rfl ?_
                    refine pv_iconst (M := mX12_comesTo) (v := 1) dX12_comesTo_169 170 rfl (by decide) ?_
                    refine iv_isub (M := mX12_comesTo) (X := y4.toInt) (Y := 1) dX12_comesTo_170 171 rfl rfl (by decide) (by omega) (by omega) (fun v49 ev49 => ?_)
                    refine pv_istore_n (M := mX12_comesTo) 3 (lo2 := [.ref 123, .int x0, .int x1, .int v49, .int v3, .int v33, .int v27, .int v31]) dX12_comesTo_171 172 rfl rfl (by decide) rfl rfl ?_
                    refine pv_goto (M := mX12_comesTo) (tgt := 230) dX12_comesTo_172 (by decide) ?_
                    refine pv_goto (M := mX12_comesTo) (tgt := 16) dX12_comesTo_230 (by decide) ?_
                    refine pv_fg (lo2 := [.ref 123, .int x0, .int x1, .int v49, .int v3, .int v33, pv_U, pv_U]) ⟨Or.inr rfl, ⟨Or.inr rfl, ⟨Or.inr rfl, ⟨Or.inr rfl, ⟨Or.inr rfl, ⟨Or.inr rfl, ⟨Or.inl rfl, ⟨Or.inl rfl, trivial⟩⟩⟩⟩⟩⟩⟩⟩ ?_
                    have kb : H v33.toInt.toNat ≤ v49.toInt := by first | (rw [show v33.toInt.toNat = (y5.toInt).toNat + 1 by omega]; omega) | (rw [show v33.toInt.toNat = (agv (m 136 (y5.toInt).toNat)).toNat by omega]; omega)
                    exact ih12 v49 v33 m6 n7 (by first | omega | assumption | exact (iv_rng _).2 | exact (iv_rng _).1 | decide) (by first | omega | assumption | exact (iv_rng _).2 | exact (iv_rng _).1 | decide) (by first | omega | assumption | exact (iv_rng _).2 | exact (iv_rng _).1 | decide) (by first | omega | assumption | exact (iv_rng _).2 | exact (iv_rng _).1 | decide) (by first | omega | assumption | (show x0.toInt ≤ v33.toInt; omega) | decide) (by first | omega | assumption | (show v49.toInt ≤ v33.toInt; omega) | decide) kb I8 K9 (by omega)
                  · have c48 := iv_eq (X := v46.toInt) (Y := 0) c48 rfl (by decide)
                    refine pv_iload (M := mX12_comesTo) dX12_comesTo_158 160 rfl rfl ?_
                    refine pv_iload (M := mX12_comesTo) dX12_comesTo_160 162 rfl rfl ?_
                    refine iv_iadd (M := mX12_comesTo) (X := v3.toInt) (Y := v31.toInt) dX12_comesTo_162 163 rfl rfl rfl (by omega) (by omega) (fun v51 ev51 => ?_)
                    refine pv_istore (M := mX12_comesTo) (lo2 := [.ref 123, .int x0, .int x1, .int y4, .int v3, .int v51, .int v27, .int v31]) dX12_comesTo_163 165 rfl (by decide) rfl rfl ?_
                    refine pv_goto (M := mX12_comesTo) (tgt := 230) dX12_comesTo_165 (by decide) ?_
                    refine pv_goto (M := mX12_comesTo) (tgt := 16) dX12_comesTo_230 (by decide) ?_
                    refine pv_fg (lo2 := [.ref 123, .int x0, .int x1, .int y4, .int v3, .int v51, pv_U, pv_U]) ⟨Or.inr rfl, ⟨Or.inr rfl, ⟨Or.inr rfl, ⟨Or.inr rfl, ⟨Or.inr rfl, ⟨Or.inr rfl, ⟨Or.inl rfl, ⟨Or.inl rfl, trivial⟩⟩⟩⟩⟩⟩⟩⟩ ?_
                    have kb : H v51.toInt.toNat ≤ y4.toInt := by first | (rw [show v51.toInt.toNat = (y5.toInt).toNat + 1 by omega]; omega) | (rw [show v51.toInt.toNat = (agv (m 136 (y5.toInt).toNat)).toNat by omega]; omega)
                    exact ih12 y4 v51 m6 n7 (by first | omega | assumption | exact (iv_rng _).2 | exact (iv_rng _).1 | decide) (by first | omega | assumption | exact (iv_rng _).2 | exact (iv_rng _).1 | decide) (by first | omega | assumption | exact (iv_rng _).2 | exact (iv_rng _).1 | decide) (by first | omega | assumption | exact (iv_rng _).2 | exact (iv_rng _).1 | decide) (by first | omega | assumption | (show x0.toInt ≤ v51.toInt; omega) | decide) (by first | omega | assumption | (show y4.toInt ≤ v51.toInt; omega) | decide) kb I8 K9 (by omega)
                · have c47 := iv_eq (X := v27.toInt) (Y := 12) c47 rfl (by decide)
                  omega
              · have c44 := iv_ne (X := v27.toInt) (Y := 11) c44 rfl (by decide)
                refine pv_iload (M := mX12_comesTo) dX12_comesTo_128 130 rfl rfl ?_
                refine pv_bipush (M := mX12_comesTo) (v := 12) dX12_comesTo_130 132 rfl (by decide) ?_
                refine pv_icmp_ne (M := mX12_comesTo) (tgt := 175) dX12_comesTo_132 135 rfl (by decide) (fun c53 => ?_) (fun c53 => ?_)
                · have c53 := iv_ne (X := v27.toInt) (Y := 12) c53 rfl (by decide)
                  refine pv_iload_n (M := mX12_comesTo) 3 dX12_comesTo_175 176 rfl rfl rfl ?_
                  refine pv_iconst (M := mX12_comesTo) (v := 1) dX12_comesTo_176 177 rfl (by decide) ?_
                  refine iv_isub (M := mX12_comesTo) (X := y4.toInt) (Y := 1) dX12_comesTo_177 178 rfl rfl (by decide) (by omega) (by omega) (fun v54 ev54 => ?_)
                  refine pv_istore_n (M := mX12_comesTo) 3 (lo2 := [.ref 123, .int x0, .int x1, .int v54, .int v3, .int v33, .int v27, .int v31]) dX12_comesTo_178 179 rfl rfl (by decide) rfl rfl ?_
                  refine pv_iload (M := mX12_comesTo) dX12_comesTo_179 181 rfl rfl ?_
                  refine pv_iconst (M := mX12_comesTo) (v := 5) dX12_comesTo_181 182 rfl (by decide) ?_
                  refine pv_icmp_eq (M := mX12_comesTo) (tgt := 192) dX12_comesTo_182 185 rfl (by decide) (fun c55 => ?_) (fun c55 => ?_)
                  · have c55 := iv_eq (X := v27.toInt) (Y := 5) c55 rfl (by decide)
                    refine pv_aload_n (M := mX12_comesTo) 0 dX12_comesTo_192 193 rfl rfl rfl ?_
                    refine mv_get (M := mX12_comesTo) (v := .ref 141) dX12_comesTo_193 FX12 32 wd1205 (by decide) (tl123 hT) rfl rfl 196 rfl ?_
                    refine pv_iload_n (M := mX12_comesTo) 3 dX12_comesTo_196 197 rfl rfl rfl ?_
                    refine iv_iald (M := mX12_comesTo) (X := v54.toInt) (l1 := (-2147483648)) (l2 := 2147483647) dX12_comesTo_197 (tl141 hT) rfl (by omega) (by omega) I8 (fun _ => rfl) 198 rfl (fun v56 ev56 pv56 qv56 => ?_)
                    have kf := ev56
                    refine pv_if_ne (M := mX12_comesTo) (tgt := 203) dX12_comesTo_198 201 rfl (by decide) (fun c58 => ?_) (fun c58 => ?_)
                    · have c58 := iv_ne (X := v56.toInt) (Y := 0) c58 rfl (by decide)
                      refine pv_aload_n (M := mX12_comesTo) 0 dX12_comesTo_203 204 rfl rfl rfl ?_
                      refine mv_get (M := mX12_comesTo) (v := .ref 141) dX12_comesTo_204 FX12 32 wd1205 (by decide) (tl123 hT) rfl rfl 207 rfl ?_
                      refine pv_iload_n (M := mX12_comesTo) 3 dX12_comesTo_207 208 rfl rfl rfl ?_
                      refine pv_iconst (M := mX12_comesTo) (v := 1) dX12_comesTo_208 209 rfl (by decide) ?_
                      refine iv_isub (M := mX12_comesTo) (X := v54.toInt) (Y := 1) dX12_comesTo_209 210 rfl rfl (by decide) (by omega) (by omega) (fun v59 ev59 => ?_)
                      refine pv_iload (M := mX12_comesTo) dX12_comesTo_210 212 rfl rfl ?_
                      refine pv_aload_n (M := mX12_comesTo) 0 dX12_comesTo_212 213 rfl rfl rfl ?_
                      refine mv_get (M := mX12_comesTo) (v := .ref 141) dX12_comesTo_213 FX12 32 wd1205 (by decide) (tl123 hT) rfl rfl 216 rfl ?_
                      refine pv_iload_n (M := mX12_comesTo) 3 dX12_comesTo_216 217 rfl rfl rfl ?_
                      refine pv_iconst (M := mX12_comesTo) (v := 1) dX12_comesTo_217 218 rfl (by decide) ?_
                      refine iv_isub (M := mX12_comesTo) (X := v54.toInt) (Y := 1) dX12_comesTo_218 219 rfl rfl (by decide) (by omega) (by omega) (fun v60 ev60 => ?_)
                      refine iv_iald (M := mX12_comesTo) (X := v60.toInt) (l1 := (-2147483648)) (l2 := 2147483647) dX12_comesTo_219 (tl141 hT) rfl (by omega) (by omega) I8 (fun _ => rfl) 220 rfl (fun v61 ev61 pv61 qv61 => ?_)
                      refine pv_aload_n (M := mX12_comesTo) 0 dX12_comesTo_220 221 rfl rfl rfl ?_
                      refine mv_get (M := mX12_comesTo) (v := .ref 141) dX12_comesTo_221 FX12 32 wd1205 (by decide) (tl123 hT) rfl rfl 224 rfl ?_
                      refine pv_iload_n (M := mX12_comesTo) 3 dX12_comesTo_224 225 rfl rfl rfl ?_
                      refine iv_iald (M := mX12_comesTo) (X := v54.toInt) (l1 := (-2147483648)) (l2 := 2147483647) dX12_comesTo_225 (tl141 hT) rfl (by omega) (by omega) I8 (fun _ => rfl) 226 rfl (fun v62 ev62 pv62 qv62 => ?_)
                      try have k226 := congrArg Int32.toInt (ev62.trans kf.symm)
                      refine pv_calls (M := mX12_comesTo) (as := [.int v27, .int v61, .int v62]) (st := [.int v59, .ref 141]) (kc2 := 0) (ks2 := 0) dX12_comesTo_226 wd1519 YX12_reckon wd1520 (s_X12_reckon g hT I8 v27 v61 v62 (by first | omega | assumption | exact (iv_rng _).2 | exact (iv_rng _).1 | decide)) rfl rfl (Nat.le_of_ble_eq_true rfl) (by decide) rfl rfl 229 rfl (fun rv h1 q64 => ?_)
                      obtain ⟨v65, rfl, rfl, pv65, qv65, rv65⟩ := q64
                      show PV _ _ _ _ _ _ _ 229 [.ref 123, .int x0, .int x1, .int v54, .int v3, .int v33, .int v27, .int v31] [.int v65, .int v59, .ref 141] _
                      refine iv_iast (M := mX12_comesTo) (X := v59.toInt) (l1 := (-2147483648)) (l2 := 2147483647) dX12_comesTo_229 (tl141 hT) rfl (by omega) (by omega) I8 (fun _ => rfl) (iv_rng v65).1 (iv_rng v65).2 230 rfl (fun m66 e69 I67 => ?_)
                      have K68 := K9.set e69 rfl
                      refine pv_goto (M := mX12_comesTo) (tgt := 16) dX12_comesTo_230 (by decide) ?_
                      refine pv_fg (lo2 := [.ref 123, .int x0, .int x1, .int v54, .int v3, .int v33, pv_U, pv_U]) ⟨Or.inr rfl, ⟨Or.inr rfl, ⟨Or.inr rfl, ⟨Or.inr rfl, ⟨Or.inr rfl, ⟨Or.inr rfl, ⟨Or.inl rfl, ⟨Or.inl rfl, trivial⟩⟩⟩⟩⟩⟩⟩⟩ ?_
                      have kb : H v33.toInt.toNat ≤ v54.toInt := by first | (rw [show v33.toInt.toNat = (y5.toInt).toNat + 1 by omega]; omega) | (rw [show v33.toInt.toNat = (agv (m 136 (y5.toInt).toNat)).toNat by omega]; omega)
                      exact ih12 v54 v33 m66 n7 (by first | omega | assumption | exact (iv_rng _).2 | exact (iv_rng _).1 | decide) (by first | omega | assumption | exact (iv_rng _).2 | exact (iv_rng _).1 | decide) (by first | omega | assumption | exact (iv_rng _).2 | exact (iv_rng _).1 | decide) (by first | omega | assumption | exact (iv_rng _).2 | exact (iv_rng _).1 | decide) (by first | omega | assumption | (show x0.toInt ≤ v33.toInt; omega) | decide) (by first | omega | assumption | (show v54.toInt ≤ v33.toInt; omega) | decide) kb I67 K68 (by omega)
                    · have c58 := iv_eq (X := v56.toInt) (Y := 0) c58 rfl (by decide)
                      refine pv_iconst (M := mX12_comesTo) (v := 0) dX12_comesTo_201 202 rfl (by decide) ?_
                      exact pv_iret (M := mX12_comesTo) dX12_comesTo_202 rfl rfl ⟨_, _, _, rfl, rfl, I8, K9, by decide, by decide, trivial⟩
                  · have c55 := iv_ne (X := v27.toInt) (Y := 5) c55 rfl (by decide)
                    refine pv_iload (M := mX12_comesTo) dX12_comesTo_185 187 rfl rfl ?_
                    refine pv_bipush (M := mX12_comesTo) (v := 6) dX12_comesTo_187 189 rfl (by decide) ?_
                    refine pv_icmp_ne (M := mX12_comesTo) (tgt := 203) dX12_comesTo_189 192 rfl (by decide) (fun c71 => ?_) (fun c71 => ?_)
                    · have c71 := iv_ne (X := v27.toInt) (Y := 6) c71 rfl (by decide)
                      refine pv_aload_n (M := mX12_comesTo) 0 dX12_comesTo_203 204 rfl rfl rfl ?_
                      refine mv_get (M := mX12_comesTo) (v := .ref 141) dX12_comesTo_204 FX12 32 wd1205 (by decide) (tl123 hT) rfl rfl 207 rfl ?_
                      refine pv_iload_n (M := mX12_comesTo) 3 dX12_comesTo_207 208 rfl rfl rfl ?_
                      refine pv_iconst (M := mX12_comesTo) (v := 1) dX12_comesTo_208 209 rfl (by decide) ?_
                      refine iv_isub (M := mX12_comesTo) (X := v54.toInt) (Y := 1) dX12_comesTo_209 210 rfl rfl (by decide) (by omega) (by omega) (fun v72 ev72 => ?_)
                      refine pv_iload (M := mX12_comesTo) dX12_comesTo_210 212 rfl rfl ?_
                      refine pv_aload_n (M := mX12_comesTo) 0 dX12_comesTo_212 213 rfl rfl rfl ?_
                      refine mv_get (M := mX12_comesTo) (v := .ref 141) dX12_comesTo_213 FX12 32 wd1205 (by decide) (tl123 hT) rfl rfl 216 rfl ?_
                      refine pv_iload_n (M := mX12_comesTo) 3 dX12_comesTo_216 217 rfl rfl rfl ?_
                      refine pv_iconst (M := mX12_comesTo) (v := 1) dX12_comesTo_217 218 rfl (by decide) ?_
                      refine iv_isub (M := mX12_comesTo) (X := v54.toInt) (Y := 1) dX12_comesTo_218 219 rfl rfl (by decide) (by omega) (by omega) (fun v73 ev73 => ?_)
                      refine iv_iald (M := mX12_comesTo) (X := v73.toInt) (l1 := (-2147483648)) (l2 := 2147483647) dX12_comesTo_219 (tl141 hT) rfl (by omega) (by omega) I8 (fun _ => rfl) 220 rfl (fun v74 ev74 pv74 qv74 => ?_)
                      refine pv_aload_n (M := mX12_comesTo) 0 dX12_comesTo_220 221 rfl rfl rfl ?_
                      refine mv_get (M := mX12_comesTo) (v := .ref 141) dX12_comesTo_221 FX12 32 wd1205 (by decide) (tl123 hT) rfl rfl 224 rfl ?_
                      refine pv_iload_n (M := mX12_comesTo) 3 dX12_comesTo_224 225 rfl rfl rfl ?_
                      refine iv_iald (M := mX12_comesTo) (X := v54.toInt) (l1 := (-2147483648)) (l2 := 2147483647) dX12_comesTo_225 (tl141 hT) rfl (by omega) (by omega) I8 (fun _ => rfl) 226 rfl (fun v75 ev75 pv75 qv75 => ?_)
                      try have k226 := congrArg Int32.toInt (ev75.trans kf.symm)
                      refine pv_calls (M := mX12_comesTo) (as := [.int v27, .int v74, .int v75]) (st := [.int v72, .ref 141]) (kc2 := 0) (ks2 := 0) dX12_comesTo_226 wd1519 YX12_reckon wd1520 (s_X12_reckon g hT I8 v27 v74 v75 (by first | omega | assumption | exact (iv_rng _).2 | exact (iv_rng _).1 | decide)) rfl rfl (Nat.le_of_ble_eq_true rfl) (by decide) rfl rfl 229 rfl (fun rv h1 q77 => ?_)
                      obtain ⟨v78, rfl, rfl, pv78, qv78, rv78⟩ := q77
                      show PV _ _ _ _ _ _ _ 229 [.ref 123, .int x0, .int x1, .int v54, .int v3, .int v33, .int v27, .int v31] [.int v78, .int v72, .ref 141] _
                      refine iv_iast (M := mX12_comesTo) (X := v72.toInt) (l1 := (-2147483648)) (l2 := 2147483647) dX12_comesTo_229 (tl141 hT) rfl (by omega) (by omega) I8 (fun _ => rfl) (iv_rng v78).1 (iv_rng v78).2 230 rfl (fun m79 e82 I80 => ?_)
                      have K81 := K9.set e82 rfl
                      refine pv_goto (M := mX12_comesTo) (tgt := 16) dX12_comesTo_230 (by decide) ?_
                      refine pv_fg (lo2 := [.ref 123, .int x0, .int x1, .int v54, .int v3, .int v33, pv_U, pv_U]) ⟨Or.inr rfl, ⟨Or.inr rfl, ⟨Or.inr rfl, ⟨Or.inr rfl, ⟨Or.inr rfl, ⟨Or.inr rfl, ⟨Or.inl rfl, ⟨Or.inl rfl, trivial⟩⟩⟩⟩⟩⟩⟩⟩ ?_
                      have kb : H v33.toInt.toNat ≤ v54.toInt := by first | (rw [show v33.toInt.toNat = (y5.toInt).toNat + 1 by omega]; omega) | (rw [show v33.toInt.toNat = (agv (m 136 (y5.toInt).toNat)).toNat by omega]; omega)
                      exact ih12 v54 v33 m79 n7 (by first | omega | assumption | exact (iv_rng _).2 | exact (iv_rng _).1 | decide) (by first | omega | assumption | exact (iv_rng _).2 | exact (iv_rng _).1 | decide) (by first | omega | assumption | exact (iv_rng _).2 | exact (iv_rng _).1 | decide) (by first | omega | assumption | exact (iv_rng _).2 | exact (iv_rng _).1 | decide) (by first | omega | assumption | (show x0.toInt ≤ v33.toInt; omega) | decide) (by first | omega | assumption | (show v54.toInt ≤ v33.toInt; omega) | decide) kb I80 K81 (by omega)
                    · have c71 := iv_eq (X := v27.toInt) (Y := 6) c71 rfl (by decide)
                      refine pv_aload_n (M := mX12_comesTo) 0 dX12_comesTo_192 193 rfl rfl rfl ?_
                      refine mv_get (M := mX12_comesTo) (v := .ref 141) dX12_comesTo_193 FX12 32 wd1205 (by decide) (tl123 hT) rfl rfl 196 rfl ?_
                      refine pv_iload_n (M := mX12_comesTo) 3 dX12_comesTo_196 197 rfl rfl rfl ?_
                      refine iv_iald (M := mX12_comesTo) (X := v54.toInt) (l1 := (-2147483648)) (l2 := 2147483647) dX12_comesTo_197 (tl141 hT) rfl (by omega) (by omega) I8 (fun _ => rfl) 198 rfl (fun v84 ev84 pv84 qv84 => ?_)
                      have kf := ev84
                      refine pv_if_ne (M := mX12_comesTo) (tgt := 203) dX12_comesTo_198 201 rfl (by decide) (fun c86 => ?_) (fun c86 => ?_)
                      · have c86 := iv_ne (X := v84.toInt) (Y := 0) c86 rfl (by decide)
                        refine pv_aload_n (M := mX12_comesTo) 0 dX12_comesTo_203 204 rfl rfl rfl ?_
                        refine mv_get (M := mX12_comesTo) (v := .ref 141) dX12_comesTo_204 FX12 32 wd1205 (by decide) (tl123 hT) rfl rfl 207 rfl ?_
                        refine pv_iload_n (M := mX12_comesTo) 3 dX12_comesTo_207 208 rfl rfl rfl ?_
                        refine pv_iconst (M := mX12_comesTo) (v := 1) dX12_comesTo_208 209 rfl (by decide) ?_
                        refine iv_isub (M := mX12_comesTo) (X := v54.toInt) (Y := 1) dX12_comesTo_209 210 rfl rfl (by decide) (by omega) (by omega) (fun v87 ev87 => ?_)
                        refine pv_iload (M := mX12_comesTo) dX12_comesTo_210 212 rfl rfl ?_
                        refine pv_aload_n (M := mX12_comesTo) 0 dX12_comesTo_212 213 rfl rfl rfl ?_
                        refine mv_get (M := mX12_comesTo) (v := .ref 141) dX12_comesTo_213 FX12 32 wd1205 (by decide) (tl123 hT) rfl rfl 216 rfl ?_
                        refine pv_iload_n (M := mX12_comesTo) 3 dX12_comesTo_216 217 rfl rfl rfl ?_
                        refine pv_iconst (M := mX12_comesTo) (v := 1) dX12_comesTo_217 218 rfl (by decide) ?_
                        refine iv_isub (M := mX12_comesTo) (X := v54.toInt) (Y := 1) dX12_comesTo_218 219 rfl rfl (by decide) (by omega) (by omega) (fun v88 ev88 => ?_)
                        refine iv_iald (M := mX12_comesTo) (X := v88.toInt) (l1 := (-2147483648)) (l2 := 2147483647) dX12_comesTo_219 (tl141 hT) rfl (by omega) (by omega) I8 (fun _ => rfl) 220 rfl (fun v89 ev89 pv89 qv89 => ?_)
                        refine pv_aload_n (M := mX12_comesTo) 0 dX12_comesTo_220 221 rfl rfl rfl ?_
                        refine mv_get (M := mX12_comesTo) (v := .ref 141) dX12_comesTo_221 FX12 32 wd1205 (by decide) (tl123 hT) rfl rfl 224 rfl ?_
                        refine pv_iload_n (M := mX12_comesTo) 3 dX12_comesTo_224 225 rfl rfl rfl ?_
                        refine iv_iald (M := mX12_comesTo) (X := v54.toInt) (l1 := (-2147483648)) (l2 := 2147483647) dX12_comesTo_225 (tl141 hT) rfl (by omega) (by omega) I8 (fun _ => rfl) 226 rfl (fun v90 ev90 pv90 qv90 => ?_)
                        try have k226 := congrArg Int32.toInt (ev90.trans kf.symm)
                        refine pv_calls (M := mX12_comesTo) (as := [.int v27, .int v89, .int v90]) (st := [.int v87, .ref 141]) (kc2 := 0) (ks2 := 0) dX12_comesTo_226 wd1519 YX12_reckon wd1520 (s_X12_reckon g hT I8 v27 v89 v90 (by first | omega | assumption | exact (iv_rng _).2 | exact (iv_rng _).1 | decide)) rfl rfl (Nat.le_of_ble_eq_true rfl) (by decide) rfl rfl 229 rfl (fun rv h1 q92 => ?_)
                        obtain ⟨v93, rfl, rfl, pv93, qv93, rv93⟩ := q92
                        show PV _ _ _ _ _ _ _ 229 [.ref 123, .int x0, .int x1, .int v54, .int v3, .int v33, .int v27, .int v31] [.int v93, .int v87, .ref 141] _
                        refine iv_iast (M := mX12_comesTo) (X := v87.toInt) (l1 := (-2147483648)) (l2 := 2147483647) dX12_comesTo_229 (tl141 hT) rfl (by omega) (by omega) I8 (fun _ => rfl) (iv_rng v93).1 (iv_rng v93).2 230 rfl (fun m94 e97 I95 => ?_)
                        have K96 := K9.set e97 rfl
                        refine pv_goto (M := mX12_comesTo) (tgt := 16) dX12_comesTo_230 (by decide) ?_
                        refine pv_fg (lo2 := [.ref 123, .int x0, .int x1, .int v54, .int v3, .int v33, pv_U, pv_U]) ⟨Or.inr rfl, ⟨Or.inr rfl, ⟨Or.inr rfl, ⟨Or.inr rfl, ⟨Or.inr rfl, ⟨Or.inr rfl, ⟨Or.inl rfl, ⟨Or.inl rfl, trivial⟩⟩⟩⟩⟩⟩⟩⟩ ?_
                        have kb : H v33.toInt.toNat ≤ v54.toInt := by first | (rw [show v33.toInt.toNat = (y5.toInt).toNat + 1 by omega]; omega) | (rw [show v33.toInt.toNat = (agv (m 136 (y5.toInt).toNat)).toNat by omega]; omega)
                        exact ih12 v54 v33 m94 n7 (by first | omega | assumption | exact (iv_rng _).2 | exact (iv_rng _).1 | decide) (by first | omega | assumption | exact (iv_rng _).2 | exact (iv_rng _).1 | decide) (by first | omega | assumption | exact (iv_rng _).2 | exact (iv_rng _).1 | decide) (by first | omega | assumption | exact (iv_rng _).2 | exact (iv_rng _).1 | decide) (by first | omega | assumption | (show x0.toInt ≤ v33.toInt; omega) | decide) (by first | omega | assumption | (show v54.toInt ≤ v33.toInt; omega) | decide) kb I95 K96 (by omega)
                      · have c86 := iv_eq (X := v84.toInt) (Y := 0) c86 rfl (by decide)
                        refine pv_iconst (M := mX12_comesTo) (v := 0) dX12_comesTo_201 202 rfl (by decide) ?_
                        exact pv_iret (M := mX12_comesTo) dX12_comesTo_202 rfl rfl ⟨_, _, _, rfl, rfl, I8, K9, by decide, by decide, trivial⟩
                · have c53 := iv_eq (X := v27.toInt) (Y := 12) c53 rfl (by decide)
                  refine pv_aload_n (M := mX12_comesTo) 0 dX12_comesTo_135 136 rfl rfl rfl ?_
                  refine mv_get (M := mX12_comesTo) (v := .ref 141) dX12_comesTo_136 FX12 32 wd1205 (by decide) (tl123 hT) rfl rfl 139 rfl ?_
                  refine pv_iload_n (M := mX12_comesTo) 3 dX12_comesTo_139 140 rfl rfl rfl ?_
                  refine pv_iconst (M := mX12_comesTo) (v := 1) dX12_comesTo_140 141 rfl (by decide) ?_
                  refine iv_isub (M := mX12_comesTo) (X := y4.toInt) (Y := 1) dX12_comesTo_141 142 rfl rfl (by decide) (by omega) (by omega) (fun v99 ev99 => ?_)
                  refine iv_iald (M := mX12_comesTo) (X := v99.toInt) (l1 := (-2147483648)) (l2 := 2147483647) dX12_comesTo_142 (tl141 hT) rfl (by omega) (by omega) I8 (fun _ => rfl) 143 rfl (fun v100 ev100 pv100 qv100 => ?_)
                  refine pv_iload (M := mX12_comesTo) dX12_comesTo_143 145 rfl rfl ?_
                  refine pv_bipush (M := mX12_comesTo) (v := 12) dX12_comesTo_145 147 rfl (by decide) ?_
                  refine pv_icmp_ne (M := mX12_comesTo) (tgt := 154) dX12_comesTo_147 150 rfl (by decide) (fun c101 => ?_) (fun c101 => ?_)
                  · have c101 := iv_ne (X := v27.toInt) (Y := 12) c101 rfl (by decide)
                    omega
                  · have c101 := iv_eq (X := v27.toInt) (Y := 12) c101 rfl (by decide)
                    refine pv_iconst (M := mX12_comesTo) (v := 1) dX12_comesTo_150 151 rfl (by decide) ?_
                    refine pv_goto (M := mX12_comesTo) (tgt := 155) dX12_comesTo_151 (by decide) ?_
                    refine pv_icmp_ne (M := mX12_comesTo) (tgt := 168) dX12_comesTo_155 158 rfl (by decide) (fun c102 => ?_) (fun c102 => ?_)
                    · have c102 := iv_ne (X := v100.toInt) (Y := 1) c102 rfl (by decide)
                      refine pv_iload_n (M := mX12_comesTo) 3 dX12_comesTo_168 169 rfl rfl rfl ?_
                      refine pv_iconst (M := mX12_comesTo) (v := 1) dX12_comesTo_169 170 rfl (by decide) ?_
                      refine iv_isub (M := mX12_comesTo) (X := y4.toInt) (Y := 1) dX12_comesTo_170 171 rfl rfl (by decide) (by omega) (by omega) (fun v103 ev103 => ?_)
                      refine pv_istore_n (M := mX12_comesTo) 3 (lo2 := [.ref 123, .int x0, .int x1, .int v103, .int v3, .int v33, .int v27, .int v31]) dX12_comesTo_171 172 rfl rfl (by decide) rfl rfl ?_
                      refine pv_goto (M := mX12_comesTo) (tgt := 230) dX12_comesTo_172 (by decide) ?_
                      refine pv_goto (M := mX12_comesTo) (tgt := 16) dX12_comesTo_230 (by decide) ?_
                      refine pv_fg (lo2 := [.ref 123, .int x0, .int x1, .int v103, .int v3, .int v33, pv_U, pv_U]) ⟨Or.inr rfl, ⟨Or.inr rfl, ⟨Or.inr rfl, ⟨Or.inr rfl, ⟨Or.inr rfl, ⟨Or.inr rfl, ⟨Or.inl rfl, ⟨Or.inl rfl, trivial⟩⟩⟩⟩⟩⟩⟩⟩ ?_
                      have kb : H v33.toInt.toNat ≤ v103.toInt := by first | (rw [show v33.toInt.toNat = (y5.toInt).toNat + 1 by omega]; omega) | (rw [show v33.toInt.toNat = (agv (m 136 (y5.toInt).toNat)).toNat by omega]; omega)
                      exact ih12 v103 v33 m6 n7 (by first | omega | assumption | exact (iv_rng _).2 | exact (iv_rng _).1 | decide) (by first | omega | assumption | exact (iv_rng _).2 | exact (iv_rng _).1 | decide) (by first | omega | assumption | exact (iv_rng _).2 | exact (iv_rng _).1 | decide) (by first | omega | assumption | exact (iv_rng _).2 | exact (iv_rng _).1 | decide) (by first | omega | assumption | (show x0.toInt ≤ v33.toInt; omega) | decide) (by first | omega | assumption | (show v103.toInt ≤ v33.toInt; omega) | decide) kb I8 K9 (by omega)
                    · have c102 := iv_eq (X := v100.toInt) (Y := 1) c102 rfl (by decide)
                      refine pv_iload (M := mX12_comesTo) dX12_comesTo_158 160 rfl rfl ?_
                      refine pv_iload (M := mX12_comesTo) dX12_comesTo_160 162 rfl rfl ?_
                      refine iv_iadd (M := mX12_comesTo) (X := v3.toInt) (Y := v31.toInt) dX12_comesTo_162 163 rfl rfl rfl (by omega) (by omega) (fun v105 ev105 => ?_)
                      refine pv_istore (M := mX12_comesTo) (lo2 := [.ref 123, .int x0, .int x1, .int y4, .int v3, .int v105, .int v27, .int v31]) dX12_comesTo_163 165 rfl (by decide) rfl rfl ?_
                      refine pv_goto (M := mX12_comesTo) (tgt := 230) dX12_comesTo_165 (by decide) ?_
                      refine pv_goto (M := mX12_comesTo) (tgt := 16) dX12_comesTo_230 (by decide) ?_
                      refine pv_fg (lo2 := [.ref 123, .int x0, .int x1, .int y4, .int v3, .int v105, pv_U, pv_U]) ⟨Or.inr rfl, ⟨Or.inr rfl, ⟨Or.inr rfl, ⟨Or.inr rfl, ⟨Or.inr rfl, ⟨Or.inr rfl, ⟨Or.inl rfl, ⟨Or.inl rfl, trivial⟩⟩⟩⟩⟩⟩⟩⟩ ?_
                      have kb : H v105.toInt.toNat ≤ y4.toInt := by first | (rw [show v105.toInt.toNat = (y5.toInt).toNat + 1 by omega]; omega) | (rw [show v105.toInt.toNat = (agv (m 136 (y5.toInt).toNat)).toNat by omega]; omega)
                      exact ih12 y4 v105 m6 n7 (by first | omega | assumption | exact (iv_rng _).2 | exact (iv_rng _).1 | decide) (by first | omega | assumption | exact (iv_rng _).2 | exact (iv_rng _).1 | decide) (by first | omega | assumption | exact (iv_rng _).2 | exact (iv_rng _).1 | decide) (by first | omega | assumption | exact (iv_rng _).2 | exact (iv_rng _).1 | decide) (by first | omega | assumption | (show x0.toInt ≤ v105.toInt; omega) | decide) (by first | omega | assumption | (show y4.toInt ≤ v105.toInt; omega) | decide) kb I8 K9 (by omega)
            · have c43 := iv_eq (X := v27.toInt) (Y := 10) c43 rfl (by decide)
              refine pv_aload_n (M := mX12_comesTo) 0 dX12_comesTo_100 101 rfl rfl rfl ?_
              refine mv_get (M := mX12_comesTo) (v := .ref 141) dX12_comesTo_101 FX12 32 wd1205 (by decide) (tl123 hT) rfl rfl 104 rfl ?_
              refine pv_iload_n (M := mX12_comesTo) 3 dX12_comesTo_104 105 rfl rfl rfl ?_
              refine pv_iconst (M := mX12_comesTo) (v := 1) dX12_comesTo_105 106 rfl (by decide) ?_
              refine iv_isub (M := mX12_comesTo) (X := y4.toInt) (Y := 1) dX12_comesTo_106 107 rfl rfl (by decide) (by omega) (by omega) (fun v107 ev107 => ?_)
              refine pv_iconst (M := mX12_comesTo) (v := 1) dX12_comesTo_107 108 rfl (by decide) ?_
              refine pv_aload_n (M := mX12_comesTo) 0 dX12_comesTo_108 109 rfl rfl rfl ?_
              refine mv_get (M := mX12_comesTo) (v := .ref 141) dX12_comesTo_109 FX12 32 wd1205 (by decide) (tl123 hT) rfl rfl 112 rfl ?_
              refine pv_iload_n (M := mX12_comesTo) 3 dX12_comesTo_112 113 rfl rfl rfl ?_
              refine pv_iconst (M := mX12_comesTo) (v := 1) dX12_comesTo_113 114 rfl (by decide) ?_
              refine iv_isub (M := mX12_comesTo) (X := y4.toInt) (Y := 1) dX12_comesTo_114 115 rfl rfl (by decide) (by omega) (by omega) (fun v108 ev108 => ?_)
              refine iv_iald (M := mX12_comesTo) (X := v108.toInt) (l1 := (-2147483648)) (l2 := 2147483647) dX12_comesTo_115 (tl141 hT) rfl (by omega) (by omega) I8 (fun _ => rfl) 116 rfl (fun v109 ev109 pv109 qv109 => ?_)
              refine iv_subU (M := mX12_comesTo) dX12_comesTo_116 117 rfl (fun v110 ev110 => ?_)
              refine iv_iast (M := mX12_comesTo) (X := v107.toInt) (l1 := (-2147483648)) (l2 := 2147483647) dX12_comesTo_117 (tl141 hT) rfl (by omega) (by omega) I8 (fun _ => rfl) (iv_rng v110).1 (iv_rng v110).2 118 rfl (fun m111 e114 I112 => ?_)
              have K113 := K9.set e114 rfl
              refine pv_goto (M := mX12_comesTo) (tgt := 230) dX12_comesTo_118 (by decide) ?_
              refine pv_goto (M := mX12_comesTo) (tgt := 16) dX12_comesTo_230 (by decide) ?_
              refine pv_fg (lo2 := [.ref 123, .int x0, .int x1, .int y4, .int v3, .int v33, pv_U, pv_U]) ⟨Or.inr rfl, ⟨Or.inr rfl, ⟨Or.inr rfl, ⟨Or.inr rfl, ⟨Or.inr rfl, ⟨Or.inr rfl, ⟨Or.inl rfl, ⟨Or.inl rfl, trivial⟩⟩⟩⟩⟩⟩⟩⟩ ?_
              have kb : H v33.toInt.toNat ≤ y4.toInt := by first | (rw [show v33.toInt.toNat = (y5.toInt).toNat + 1 by omega]; omega) | (rw [show v33.toInt.toNat = (agv (m 136 (y5.toInt).toNat)).toNat by omega]; omega)
              exact ih12 y4 v33 m111 n7 (by first | omega | assumption | exact (iv_rng _).2 | exact (iv_rng _).1 | decide) (by first | omega | assumption | exact (iv_rng _).2 | exact (iv_rng _).1 | decide) (by first | omega | assumption | exact (iv_rng _).2 | exact (iv_rng _).1 | decide) (by first | omega | assumption | exact (iv_rng _).2 | exact (iv_rng _).1 | decide) (by first | omega | assumption | (show x0.toInt ≤ v33.toInt; omega) | decide) (by first | omega | assumption | (show y4.toInt ≤ v33.toInt; omega) | decide) kb I112 K113 (by omega)
          · have c42 := iv_eq (X := v27.toInt) (Y := 1) c42 rfl (by decide)
            refine pv_aload_n (M := mX12_comesTo) 0 dX12_comesTo_63 64 rfl rfl rfl ?_
            refine mv_get (M := mX12_comesTo) (v := .ref 141) dX12_comesTo_64 FX12 32 wd1205 (by decide) (tl123 hT) rfl rfl 67 rfl ?_
            refine pv_iload_n (M := mX12_comesTo) 3 dX12_comesTo_67 68 rfl rfl rfl ?_
            refine pv_iload (M := mX12_comesTo) dX12_comesTo_68 70 rfl rfl ?_
            refine pv_if_ne (M := mX12_comesTo) (tgt := 78) dX12_comesTo_70 73 rfl (by decide) (fun c116 => ?_) (fun c116 => ?_)
            · have c116 := iv_ne (X := v27.toInt) (Y := 0) c116 rfl (by decide)
              refine pv_aload_n (M := mX12_comesTo) 0 dX12_comesTo_78 79 rfl rfl rfl ?_
              refine mv_get (M := mX12_comesTo) (v := .ref 142) dX12_comesTo_79 FX12 33 wd1206 (by decide) (tl123 hT) rfl rfl 82 rfl ?_
              refine pv_iload (M := mX12_comesTo) dX12_comesTo_82 84 rfl rfl ?_
              refine iv_iald (M := mX12_comesTo) (X := v31.toInt) (l1 := (-2147483648)) (l2 := 2147483647) dX12_comesTo_84 (tl142 hT) rfl (by omega) (by omega) I8 (fun _ => rfl) 85 rfl (fun v117 ev117 pv117 qv117 => ?_)
              refine iv_iast (M := mX12_comesTo) (X := y4.toInt) (l1 := (-2147483648)) (l2 := 2147483647) dX12_comesTo_85 (tl141 hT) rfl (by omega) (by omega) I8 (fun _ => rfl) (iv_rng v117).1 (iv_rng v117).2 86 rfl (fun m118 e121 I119 => ?_)
              have K120 := K9.set e121 rfl
              refine pv_iload_n (M := mX12_comesTo) 3 dX12_comesTo_86 87 rfl rfl rfl ?_
              refine pv_iconst (M := mX12_comesTo) (v := 1) dX12_comesTo_87 88 rfl (by decide) ?_
              refine iv_iadd (M := mX12_comesTo) (X := y4.toInt) (Y := 1) dX12_comesTo_88 89 rfl rfl (by decide) (by omega) (by omega) (fun v122 ev122 => ?_)
              refine pv_istore_n (M := mX12_comesTo) 3 (lo2 := [.ref 123, .int x0, .int x1, .int v122, .int v3, .int v33, .int v27, .int v31]) dX12_comesTo_89 90 rfl rfl (by decide) rfl rfl ?_
              refine pv_goto (M := mX12_comesTo) (tgt := 230) dX12_comesTo_90 (by decide) ?_
              refine pv_goto (M := mX12_comesTo) (tgt := 16) dX12_comesTo_230 (by decide) ?_
              refine pv_fg (lo2 := [.ref 123, .int x0, .int x1, .int v122, .int v3, .int v33, pv_U, pv_U]) ⟨Or.inr rfl, ⟨Or.inr rfl, ⟨Or.inr rfl, ⟨Or.inr rfl, ⟨Or.inr rfl, ⟨Or.inr rfl, ⟨Or.inl rfl, ⟨Or.inl rfl, trivial⟩⟩⟩⟩⟩⟩⟩⟩ ?_
              have kb : H v33.toInt.toNat ≤ v122.toInt := by first | (rw [show v33.toInt.toNat = (y5.toInt).toNat + 1 by omega]; omega) | (rw [show v33.toInt.toNat = (agv (m 136 (y5.toInt).toNat)).toNat by omega]; omega)
              exact ih12 v122 v33 m118 n7 (by first | omega | assumption | exact (iv_rng _).2 | exact (iv_rng _).1 | decide) (by first | omega | assumption | exact (iv_rng _).2 | exact (iv_rng _).1 | decide) (by first | omega | assumption | exact (iv_rng _).2 | exact (iv_rng _).1 | decide) (by first | omega | assumption | exact (iv_rng _).2 | exact (iv_rng _).1 | decide) (by first | omega | assumption | (show x0.toInt ≤ v33.toInt; omega) | decide) (by first | omega | assumption | (show v122.toInt ≤ v33.toInt; omega) | decide) kb I119 K120 (by omega)
            · have c116 := iv_eq (X := v27.toInt) (Y := 0) c116 rfl (by decide)
              omega
  have z124 : (0 : Int32).toInt = 0 := by decide
  exact lp11 (((180 - x0.toInt) : Int).toNat + 1) 0 x0 m n (by first | omega | assumption | exact (iv_rng _).2 | exact (iv_rng _).1 | decide) (by first | omega | assumption | exact (iv_rng _).2 | exact (iv_rng _).1 | decide) (by first | omega | assumption | exact (iv_rng _).2 | exact (iv_rng _).1 | decide) (by first | omega | assumption | exact (iv_rng _).2 | exact (iv_rng _).1 | decide) (by first | omega | assumption | (show x0.toInt ≤ x0.toInt; omega) | decide) (by first | omega | assumption | (show 0 ≤ x0.toInt; omega) | decide) (by rw [H0]; decide) I Kp (by omega)

set_option maxHeartbeats 2000000 in
set_option maxRecDepth 20000 in
theorem s_X12_feels (g : pv_G) {T : List mv_T} {m : Nat → Nat → Int32} {n : Nat → Nat → Int64} {r : Nat → Value} (hT : TX T) (I : IV BB m) (x0 : Int32) (hl0 : 0 ≤ x0.toInt) (hh0 : x0.toInt ≤ 7) (x1 : Int32) (hl1 : 0 ≤ x1.toInt) (hh1 : x1.toInt ≤ 39) (x2 : Int32) (hp0 : x1.toInt < nu m x0.toInt 0) : PM g mX12_feels yX12_feels (sqV T BB (wl [(142, 142, none)]) r m (fun m' => True)) 2 0 0 [.ref 123, .int x0, .int x1, .int x2] (mk T m n r) := by
  have Kp : fr (wl [(142, 142, none)]) m m := fr.rf
  refine PM.of 1 (lo := [.ref 123, .int x0, .int x1, .int x2, pv_U]) rfl (by decide) rfl rfl (Nat.le_of_ble_eq_true rfl) ?_
  refine pv_aload_n (M := mX12_feels) 0 dX12_feels_0 1 rfl rfl rfl ?_
  refine pv_iload_n (M := mX12_feels) 1 dX12_feels_1 2 rfl rfl rfl ?_
  refine pv_iload_n (M := mX12_feels) 2 dX12_feels_2 3 rfl rfl rfl ?_
  refine pv_callv (M := mX12_feels) (as := [.int x0, .int x1]) (st := []) (kc2 := 0) (ks2 := 0) dX12_feels_3 wd1397 YX12_numberAt ⟨wd1399, wd57⟩ (mk_get (tl123 hT)) rfl rfl (s_X12_numberAt g hT I x0 (by omega) (by omega) x1 (by omega) (by omega) (by first | omega | assumption | exact (iv_rng _).2 | exact (iv_rng _).1 | decide)) rfl rfl (Nat.le_of_ble_eq_true rfl) (by decide) rfl rfl 6 rfl (fun rv h1 q1 => ?_)
  obtain ⟨v2, rfl, rfl, pv2, qv2, rv2⟩ := q1
  replace rv2 : v2.toInt < (m 124 x0.toInt.toNat).toInt ∧ (m 128 (40 * x0.toInt + v2.toInt).toNat).toInt = 0 := rv2
  show PV _ _ _ _ _ _ _ 6 [.ref 123, .int x0, .int x1, .int x2, pv_U] [.int v2] _
  refine pv_istore (M := mX12_feels) (lo2 := [.ref 123, .int x0, .int x1, .int x2, .int v2]) dX12_feels_6 8 rfl (by decide) rfl rfl ?_
  refine pv_aload_n (M := mX12_feels) 0 dX12_feels_8 9 rfl rfl rfl ?_
  refine mv_get (M := mX12_feels) (v := .ref 142) dX12_feels_9 FX12 33 wd1206 (by decide) (tl123 hT) rfl rfl 12 rfl ?_
  refine pv_iconst (M := mX12_feels) (v := 0) dX12_feels_12 13 rfl (by decide) ?_
  refine pv_aload_n (M := mX12_feels) 0 dX12_feels_13 14 rfl rfl rfl ?_
  refine mv_get (M := mX12_feels) (v := .ref 125) dX12_feels_14 FX12 6 wd1179 (by decide) (tl123 hT) rfl rfl 17 rfl ?_
  refine pv_bipush (M := mX12_feels) (v := 40) dX12_feels_17 19 rfl (by decide) ?_
  refine pv_iload_n (M := mX12_feels) 1 dX12_feels_19 20 rfl rfl rfl ?_
  refine iv_imul (M := mX12_feels) (X := 40) (Y := x0.toInt) dX12_feels_20 21 rfl (by decide) rfl (by omega) (by omega) (fun v3 ev3 => ?_)
  refine pv_iload (M := mX12_feels) dX12_feels_21 23 rfl rfl ?_
  refine iv_iadd (M := mX12_feels) (X := v3.toInt) (Y := v2.toInt) dX12_feels_23 24 rfl rfl rfl (by omega) (by omega) (fun v4 ev4 => ?_)
  refine iv_iald (M := mX12_feels) (X := v4.toInt) (l1 := 0) (l2 := 25) dX12_feels_24 (tl125 hT) rfl (by omega) (by omega) I (fun _ => rfl) 25 rfl (fun v5 ev5 pv5 qv5 => ?_)
  refine iv_iast (M := mX12_feels) (X := 0) (l1 := (-2147483648)) (l2 := 2147483647) dX12_feels_25 (tl142 hT) (by decide) (by omega) (by omega) I (fun _ => rfl) (iv_rng v5).1 (iv_rng v5).2 26 rfl (fun m6 e9 I7 => ?_)
  have K8 := Kp.set e9 rfl
  refine pv_aload_n (M := mX12_feels) 0 dX12_feels_26 27 rfl rfl rfl ?_
  refine mv_get (M := mX12_feels) (v := .ref 142) dX12_feels_27 FX12 33 wd1206 (by decide) (tl123 hT) rfl rfl 30 rfl ?_
  refine pv_iconst (M := mX12_feels) (v := 1) dX12_feels_30 31 rfl (by decide) ?_
  refine pv_iload_n (M := mX12_feels) 2 dX12_feels_31 32 rfl rfl rfl ?_
  refine iv_iast (M := mX12_feels) (X := 1) (l1 := (-2147483648)) (l2 := 2147483647) dX12_feels_32 (tl142 hT) (by decide) (by omega) (by omega) I7 (fun _ => rfl) (iv_rng x1).1 (iv_rng x1).2 33 rfl (fun m10 e13 I11 => ?_)
  have K12 := K8.set e13 rfl
  refine pv_aload_n (M := mX12_feels) 0 dX12_feels_33 34 rfl rfl rfl ?_
  refine mv_get (M := mX12_feels) (v := .ref 142) dX12_feels_34 FX12 33 wd1206 (by decide) (tl123 hT) rfl rfl 37 rfl ?_
  refine pv_iconst (M := mX12_feels) (v := 2) dX12_feels_37 38 rfl (by decide) ?_
  refine pv_iload (M := mX12_feels) dX12_feels_38 40 rfl rfl ?_
  refine iv_iast (M := mX12_feels) (X := 2) (l1 := (-2147483648)) (l2 := 2147483647) dX12_feels_40 (tl142 hT) (by decide) (by omega) (by omega) I11 (fun _ => rfl) (iv_rng v2).1 (iv_rng v2).2 41 rfl (fun m14 e17 I15 => ?_)
  have K16 := K12.set e17 rfl
  refine pv_aload_n (M := mX12_feels) 0 dX12_feels_41 42 rfl rfl rfl ?_
  refine mv_get (M := mX12_feels) (v := .ref 142) dX12_feels_42 FX12 33 wd1206 (by decide) (tl123 hT) rfl rfl 45 rfl ?_
  refine pv_iconst (M := mX12_feels) (v := 3) dX12_feels_45 46 rfl (by decide) ?_
  refine pv_aload_n (M := mX12_feels) 0 dX12_feels_46 47 rfl rfl rfl ?_
  refine pv_iload_n (M := mX12_feels) 1 dX12_feels_47 48 rfl rfl rfl ?_
  refine pv_callv (M := mX12_feels) (as := [.int x0]) (st := [.int 3, .ref 142]) (kc2 := 0) (ks2 := 0) dX12_feels_48 wd1393 YX12_leftMany ⟨wd1395, wd56⟩ (mk_get (tl123 hT)) rfl rfl (s_X12_leftMany g hT I15 x0 (by omega) (by omega)) rfl rfl (Nat.le_of_ble_eq_true rfl) (by decide) rfl rfl 51 rfl (fun rv h1 q18 => ?_)
  obtain ⟨v19, rfl, rfl, pv19, qv19, rv19⟩ := q18
  replace rv19 : v19.toInt = nu m14 x0.toInt 0 := rv19
  show PV _ _ _ _ _ _ _ 51 [.ref 123, .int x0, .int x1, .int x2, .int v2] [.int v19, .int 3, .ref 142] _
  refine iv_iast (M := mX12_feels) (X := 3) (l1 := (-2147483648)) (l2 := 2147483647) dX12_feels_51 (tl142 hT) (by decide) (by omega) (by omega) I15 (fun _ => rfl) (iv_rng v19).1 (iv_rng v19).2 52 rfl (fun m20 e23 I21 => ?_)
  have K22 := K16.set e23 rfl
  refine pv_aload_n (M := mX12_feels) 0 dX12_feels_52 53 rfl rfl rfl ?_
  refine mv_get (M := mX12_feels) (v := .ref 142) dX12_feels_53 FX12 33 wd1206 (by decide) (tl123 hT) rfl rfl 56 rfl ?_
  refine pv_iconst (M := mX12_feels) (v := 4) dX12_feels_56 57 rfl (by decide) ?_
  refine pv_aload_n (M := mX12_feels) 0 dX12_feels_57 58 rfl rfl rfl ?_
  refine pv_iload_n (M := mX12_feels) 1 dX12_feels_58 59 rfl rfl rfl ?_
  refine pv_aload_n (M := mX12_feels) 0 dX12_feels_59 60 rfl rfl rfl ?_
  refine mv_get (M := mX12_feels) (v := .ref 125) dX12_feels_60 FX12 6 wd1179 (by decide) (tl123 hT) rfl rfl 63 rfl ?_
  refine pv_bipush (M := mX12_feels) (v := 40) dX12_feels_63 65 rfl (by decide) ?_
  refine pv_iload_n (M := mX12_feels) 1 dX12_feels_65 66 rfl rfl rfl ?_
  refine iv_imul (M := mX12_feels) (X := 40) (Y := x0.toInt) dX12_feels_66 67 rfl (by decide) rfl (by omega) (by omega) (fun v24 ev24 => ?_)
  refine pv_iload (M := mX12_feels) dX12_feels_67 69 rfl rfl ?_
  refine iv_iadd (M := mX12_feels) (X := v24.toInt) (Y := v2.toInt) dX12_feels_69 70 rfl rfl rfl (by omega) (by omega) (fun v25 ev25 => ?_)
  refine iv_iald (M := mX12_feels) (X := v25.toInt) (l1 := 0) (l2 := 25) dX12_feels_70 (tl125 hT) rfl (by omega) (by omega) I21 (fun _ => rfl) 71 rfl (fun v26 ev26 pv26 qv26 => ?_)
  refine pv_callv (M := mX12_feels) (as := [.int x0, .int v26]) (st := [.int 4, .ref 142]) (kc2 := 0) (ks2 := 0) dX12_feels_71 wd1507 YX12_howOften ⟨wd1509, wd79⟩ (mk_get (tl123 hT)) rfl rfl (s_X12_howOften g hT I21 x0 (by omega) (by omega) v26) rfl rfl (Nat.le_of_ble_eq_true rfl) (by decide) rfl rfl 74 rfl (fun rv h1 q27 => ?_)
  obtain ⟨v28, rfl, rfl, pv28, qv28, rv28⟩ := q27
  show PV _ _ _ _ _ _ _ 74 [.ref 123, .int x0, .int x1, .int x2, .int v2] [.int v28, .int 4, .ref 142] _
  refine iv_iast (M := mX12_feels) (X := 4) (l1 := (-2147483648)) (l2 := 2147483647) dX12_feels_74 (tl142 hT) (by decide) (by omega) (by omega) I21 (fun _ => rfl) (iv_rng v28).1 (iv_rng v28).2 75 rfl (fun m29 e32 I30 => ?_)
  have K31 := K22.set e32 rfl
  refine pv_aload_n (M := mX12_feels) 0 dX12_feels_75 76 rfl rfl rfl ?_
  refine mv_get (M := mX12_feels) (v := .ref 142) dX12_feels_76 FX12 33 wd1206 (by decide) (tl123 hT) rfl rfl 79 rfl ?_
  refine pv_iconst (M := mX12_feels) (v := 5) dX12_feels_79 80 rfl (by decide) ?_
  refine pv_iload_n (M := mX12_feels) 3 dX12_feels_80 81 rfl rfl rfl ?_
  refine iv_iast (M := mX12_feels) (X := 5) (l1 := (-2147483648)) (l2 := 2147483647) dX12_feels_81 (tl142 hT) (by decide) (by omega) (by omega) I30 (fun _ => rfl) (iv_rng x2).1 (iv_rng x2).2 82 rfl (fun m33 e36 I34 => ?_)
  have K35 := K31.set e36 rfl
  refine pv_aload_n (M := mX12_feels) 0 dX12_feels_82 83 rfl rfl rfl ?_
  refine mv_get (M := mX12_feels) (v := .ref 142) dX12_feels_83 FX12 33 wd1206 (by decide) (tl123 hT) rfl rfl 86 rfl ?_
  refine pv_bipush (M := mX12_feels) (v := 6) dX12_feels_86 88 rfl (by decide) ?_
  refine pv_aload_n (M := mX12_feels) 0 dX12_feels_88 89 rfl rfl rfl ?_
  refine iv_get (M := mX12_feels) (l1 := 0) (l2 := 999) dX12_feels_89 FX12 1 wd1174 (by decide) (tl123 hT) rfl I34 rfl 92 rfl (fun v37 ev37 pv37 qv37 => ?_)
  refine iv_iast (M := mX12_feels) (X := 6) (l1 := (-2147483648)) (l2 := 2147483647) dX12_feels_92 (tl142 hT) (by decide) (by omega) (by omega) I34 (fun _ => rfl) (iv_rng v37).1 (iv_rng v37).2 93 rfl (fun m38 e41 I39 => ?_)
  have K40 := K35.set e41 rfl
  refine pv_aload_n (M := mX12_feels) 0 dX12_feels_93 94 rfl rfl rfl ?_
  refine mv_get (M := mX12_feels) (v := .ref 142) dX12_feels_94 FX12 33 wd1206 (by decide) (tl123 hT) rfl rfl 97 rfl ?_
  refine pv_bipush (M := mX12_feels) (v := 7) dX12_feels_97 99 rfl (by decide) ?_
  refine pv_iload_n (M := mX12_feels) 1 dX12_feels_99 100 rfl rfl rfl ?_
  refine iv_iast (M := mX12_feels) (X := 7) (l1 := (-2147483648)) (l2 := 2147483647) dX12_feels_100 (tl142 hT) (by decide) (by omega) (by omega) I39 (fun _ => rfl) (iv_rng x0).1 (iv_rng x0).2 101 rfl (fun m42 e45 I43 => ?_)
  have K44 := K40.set e45 rfl
  refine pv_aload_n (M := mX12_feels) 0 dX12_feels_101 102 rfl rfl rfl ?_
  refine mv_get (M := mX12_feels) (v := .ref 142) dX12_feels_102 FX12 33 wd1206 (by decide) (tl123 hT) rfl rfl 105 rfl ?_
  refine pv_bipush (M := mX12_feels) (v := 8) dX12_feels_105 107 rfl (by decide) ?_
  refine pv_aload_n (M := mX12_feels) 0 dX12_feels_107 108 rfl rfl rfl ?_
  refine pv_iload_n (M := mX12_feels) 1 dX12_feels_108 109 rfl rfl rfl ?_
  refine pv_iload (M := mX12_feels) dX12_feels_109 111 rfl rfl ?_
  refine pv_iconst (M := mX12_feels) (v := 1) dX12_feels_111 112 rfl (by decide) ?_
  refine iv_isub (M := mX12_feels) (X := v2.toInt) (Y := 1) dX12_feels_112 113 rfl rfl (by decide) (by omega) (by omega) (fun v46 ev46 => ?_)
  refine pv_callv (M := mX12_feels) (as := [.int x0, .int v46]) (st := [.int 8, .ref 142]) (kc2 := 0) (ks2 := 0) dX12_feels_113 wd1511 YX12_isStruckAt ⟨wd1513, wd80⟩ (mk_get (tl123 hT)) rfl rfl (s_X12_isStruckAt g hT I43 x0 (by omega) (by omega) v46 (by omega) (by omega)) rfl rfl (Nat.le_of_ble_eq_true rfl) (by decide) rfl rfl 116 rfl (fun rv h1 q47 => ?_)
  obtain ⟨v48, rfl, rfl, pv48, qv48, rv48⟩ := q47
  show PV _ _ _ _ _ _ _ 116 [.ref 123, .int x0, .int x1, .int x2, .int v2] [.int v48, .int 8, .ref 142] _
  refine pv_if_eq (M := mX12_feels) (tgt := 123) dX12_feels_116 119 rfl (by decide) (fun c49 => ?_) (fun c49 => ?_)
  · have c49 := iv_eq (X := v48.toInt) (Y := 0) c49 rfl (by decide)
    refine pv_iconst (M := mX12_feels) (v := 0) dX12_feels_123 124 rfl (by decide) ?_
    refine iv_iast (M := mX12_feels) (X := 8) (l1 := (-2147483648)) (l2 := 2147483647) dX12_feels_124 (tl142 hT) (by decide) (by omega) (by omega) I43 (fun _ => rfl) (by decide) (by decide) 125 rfl (fun m50 e53 I51 => ?_)
    have K52 := K44.set e53 rfl
    refine pv_aload_n (M := mX12_feels) 0 dX12_feels_125 126 rfl rfl rfl ?_
    refine mv_get (M := mX12_feels) (v := .ref 142) dX12_feels_126 FX12 33 wd1206 (by decide) (tl123 hT) rfl rfl 129 rfl ?_
    refine pv_bipush (M := mX12_feels) (v := 9) dX12_feels_129 131 rfl (by decide) ?_
    refine pv_aload_n (M := mX12_feels) 0 dX12_feels_131 132 rfl rfl rfl ?_
    refine pv_iload_n (M := mX12_feels) 1 dX12_feels_132 133 rfl rfl rfl ?_
    refine pv_iload (M := mX12_feels) dX12_feels_133 135 rfl rfl ?_
    refine pv_iconst (M := mX12_feels) (v := 1) dX12_feels_135 136 rfl (by decide) ?_
    refine iv_iadd (M := mX12_feels) (X := v2.toInt) (Y := 1) dX12_feels_136 137 rfl rfl (by decide) (by omega) (by omega) (fun v54 ev54 => ?_)
    refine pv_callv (M := mX12_feels) (as := [.int x0, .int v54]) (st := [.int 9, .ref 142]) (kc2 := 0) (ks2 := 0) dX12_feels_137 wd1511 YX12_isStruckAt ⟨wd1513, wd80⟩ (mk_get (tl123 hT)) rfl rfl (s_X12_isStruckAt g hT I51 x0 (by omega) (by omega) v54 (by omega) (by omega)) rfl rfl (Nat.le_of_ble_eq_true rfl) (by decide) rfl rfl 140 rfl (fun rv h1 q55 => ?_)
    obtain ⟨v56, rfl, rfl, pv56, qv56, rv56⟩ := q55
    show PV _ _ _ _ _ _ _ 140 [.ref 123, .int x0, .int x1, .int x2, .int v2] [.int v56, .int 9, .ref 142] _
    refine pv_if_eq (M := mX12_feels) (tgt := 147) dX12_feels_140 143 rfl (by decide) (fun c57 => ?_) (fun c57 => ?_)
    · have c57 := iv_eq (X := v56.toInt) (Y := 0) c57 rfl (by decide)
      refine pv_iconst (M := mX12_feels) (v := 0) dX12_feels_147 148 rfl (by decide) ?_
      refine iv_iast (M := mX12_feels) (X := 9) (l1 := (-2147483648)) (l2 := 2147483647) dX12_feels_148 (tl142 hT) (by decide) (by omega) (by omega) I51 (fun _ => rfl) (by decide) (by decide) 149 rfl (fun m58 e61 I59 => ?_)
      have K60 := K52.set e61 rfl
      exact pv_vret (M := mX12_feels) dX12_feels_149 rfl ⟨_, _, rfl, rfl, I59, K60, trivial⟩
    · have c57 := iv_ne (X := v56.toInt) (Y := 0) c57 rfl (by decide)
      refine pv_iconst (M := mX12_feels) (v := 1) dX12_feels_143 144 rfl (by decide) ?_
      refine pv_goto (M := mX12_feels) (tgt := 148) dX12_feels_144 (by decide) ?_
      refine iv_iast (M := mX12_feels) (X := 9) (l1 := (-2147483648)) (l2 := 2147483647) dX12_feels_148 (tl142 hT) (by decide) (by omega) (by omega) I51 (fun _ => rfl) (by decide) (by decide) 149 rfl (fun m62 e65 I63 => ?_)
      have K64 := K52.set e65 rfl
      exact pv_vret (M := mX12_feels) dX12_feels_149 rfl ⟨_, _, rfl, rfl, I63, K64, trivial⟩
  · have c49 := iv_ne (X := v48.toInt) (Y := 0) c49 rfl (by decide)
    refine pv_iconst (M := mX12_feels) (v := 1) dX12_feels_119 120 rfl (by decide) ?_
    refine pv_goto (M := mX12_feels) (tgt := 124) dX12_feels_120 (by decide) ?_
    refine iv_iast (M := mX12_feels) (X := 8) (l1 := (-2147483648)) (l2 := 2147483647) dX12_feels_124 (tl142 hT) (by decide) (by omega) (by omega) I43 (fun _ => rfl) (by decide) (by decide) 125 rfl (fun m66 e69 I67 => ?_)
    have K68 := K44.set e69 rfl
    refine pv_aload_n (M := mX12_feels) 0 dX12_feels_125 126 rfl rfl rfl ?_
    refine mv_get (M := mX12_feels) (v := .ref 142) dX12_feels_126 FX12 33 wd1206 (by decide) (tl123 hT) rfl rfl 129 rfl ?_
    refine pv_bipush (M := mX12_feels) (v := 9) dX12_feels_129 131 rfl (by decide) ?_
    refine pv_aload_n (M := mX12_feels) 0 dX12_feels_131 132 rfl rfl rfl ?_
    refine pv_iload_n (M := mX12_feels) 1 dX12_feels_132 133 rfl rfl rfl ?_
    refine pv_iload (M := mX12_feels) dX12_feels_133 135 rfl rfl ?_
    refine pv_iconst (M := mX12_feels) (v := 1) dX12_feels_135 136 rfl (by decide) ?_
    refine iv_iadd (M := mX12_feels) (X := v2.toInt) (Y := 1) dX12_feels_136 137 rfl rfl (by decide) (by omega) (by omega) (fun v70 ev70 => ?_)
    refine pv_callv (M := mX12_feels) (as := [.int x0, .int v70]) (st := [.int 9, .ref 142]) (kc2 := 0) (ks2 := 0) dX12_feels_137 wd1511 YX12_isStruckAt ⟨wd1513, wd80⟩ (mk_get (tl123 hT)) rfl rfl (s_X12_isStruckAt g hT I67 x0 (by omega) (by omega) v70 (by omega) (by omega)) rfl rfl (Nat.le_of_ble_eq_true rfl) (by decide) rfl rfl 140 rfl (fun rv h1 q71 => ?_)
    obtain ⟨v72, rfl, rfl, pv72, qv72, rv72⟩ := q71
    show PV _ _ _ _ _ _ _ 140 [.ref 123, .int x0, .int x1, .int x2, .int v2] [.int v72, .int 9, .ref 142] _
    refine pv_if_eq (M := mX12_feels) (tgt := 147) dX12_feels_140 143 rfl (by decide) (fun c73 => ?_) (fun c73 => ?_)
    · have c73 := iv_eq (X := v72.toInt) (Y := 0) c73 rfl (by decide)
      refine pv_iconst (M := mX12_feels) (v := 0) dX12_feels_147 148 rfl (by decide) ?_
      refine iv_iast (M := mX12_feels) (X := 9) (l1 := (-2147483648)) (l2 := 2147483647) dX12_feels_148 (tl142 hT) (by decide) (by omega) (by omega) I67 (fun _ => rfl) (by decide) (by decide) 149 rfl (fun m74 e77 I75 => ?_)
      have K76 := K68.set e77 rfl
      exact pv_vret (M := mX12_feels) dX12_feels_149 rfl ⟨_, _, rfl, rfl, I75, K76, trivial⟩
    · have c73 := iv_ne (X := v72.toInt) (Y := 0) c73 rfl (by decide)
      refine pv_iconst (M := mX12_feels) (v := 1) dX12_feels_143 144 rfl (by decide) ?_
      refine pv_goto (M := mX12_feels) (tgt := 148) dX12_feels_144 (by decide) ?_
      refine iv_iast (M := mX12_feels) (X := 9) (l1 := (-2147483648)) (l2 := 2147483647) dX12_feels_148 (tl142 hT) (by decide) (by omega) (by omega) I67 (fun _ => rfl) (by decide) (by decide) 149 rfl (fun m78 e81 I79 => ?_)
      have K80 := K68.set e81 rfl
      exact pv_vret (M := mX12_feels) dX12_feels_149 rfl ⟨_, _, rfl, rfl, I79, K80, trivial⟩

set_option maxHeartbeats 2000000 in
set_option maxRecDepth 20000 in
theorem s_X12_mayStrike (g : pv_G) {T : List mv_T} {m : Nat → Nat → Int32} {n : Nat → Nat → Int64} {r : Nat → Value} (hT : TX T) (I : IV BB m) (x0 : Int32) (hl0 : 0 ≤ x0.toInt) (hh0 : x0.toInt ≤ 7) (x1 : Int32) (hl1 : 0 ≤ x1.toInt) (hh1 : x1.toInt ≤ 39) (x2 : Int32) (hp0 : x1.toInt < nu m x0.toInt 0) (hp1 : LX m) : PM g mX12_mayStrike yX12_mayStrike (sqI T BB (wl [(141, 141, none), (142, 142, none)]) r m 0 1 (fun m' v => True)) 3 0 0 [.ref 123, .int x0, .int x1, .int x2] (mk T m n r) := by
  have Kp : fr (wl [(141, 141, none), (142, 142, none)]) m m := fr.rf
  have kLX := hp1
  have z39 : 0 ≤ (m 123 20).toInt ∧ (m 123 20).toInt ≤ 12 := I 123 20
  refine PM.of 1 (lo := [.ref 123, .int x0, .int x1, .int x2, pv_U]) rfl (by decide) rfl rfl (Nat.le_of_ble_eq_true rfl) ?_
  refine pv_aload_n (M := mX12_mayStrike) 0 dX12_mayStrike_0 1 rfl rfl rfl ?_
  refine pv_iload_n (M := mX12_mayStrike) 1 dX12_mayStrike_1 2 rfl rfl rfl ?_
  refine pv_iload_n (M := mX12_mayStrike) 2 dX12_mayStrike_2 3 rfl rfl rfl ?_
  refine pv_iload_n (M := mX12_mayStrike) 3 dX12_mayStrike_3 4 rfl rfl rfl ?_
  refine pv_callv (M := mX12_mayStrike) (as := [.int x0, .int x1, .int x2]) (st := []) (kc2 := 0) (ks2 := 0) dX12_mayStrike_4 wd1503 YX12_feels ⟨wd1505, wd78⟩ (mk_get (tl123 hT)) rfl rfl (s_X12_feels g hT I x0 (by omega) (by omega) x1 (by omega) (by omega) x2 (by first | omega | assumption | exact (iv_rng _).2 | exact (iv_rng _).1 | decide)) rfl rfl (Nat.le_of_ble_eq_true rfl) (by decide) rfl rfl 7 rfl (fun rv h1 q1 => ?_)
  obtain ⟨m2, n3, rfl, rfl, I4, K5, rm2⟩ := q1
  have K5c := K5
  have kLX : LX m2 := LX_eq kLX (K5c 123 20 rfl) (fun j => K5c 136 j rfl) (fun j => K5c 138 j rfl) (fun j => K5c 139 j rfl) (fun j => K5c 140 j rfl)
  have w6 : (m2 123 20).toInt = (m 123 20).toInt := congrArg Int32.toInt (K5 123 20 rfl)
  have K5 := Kp.trans (K5.sub (wl_sub (by decide)))
  show PV _ _ _ _ _ _ _ 7 [.ref 123, .int x0, .int x1, .int x2, pv_U] [] _
  refine pv_iconst (M := mX12_mayStrike) (v := 0) dX12_mayStrike_7 8 rfl (by decide) ?_
  refine pv_istore (M := mX12_mayStrike) (lo2 := [.ref 123, .int x0, .int x1, .int x2, .int 0]) dX12_mayStrike_8 10 rfl (by decide) rfl rfl ?_
  have lp13 : ∀ (fuel12 : Nat) (y7 : Int32) (m8 : Nat → Nat → Int32) (n9 : Nat → Nat → Int64), (0 ≤ y7.toInt) → (y7.toInt ≤ 12) → (LX m8) → IV BB m8 → fr (wl [(141, 141, none), (142, 142, none)]) m m8 → ((12 - y7.toInt) : Int).toNat < fuel12 → PV none g mX12_mayStrike (sqI T BB (wl [(141, 141, none), (142, 142, none)]) r m 0 1 (fun m' v => True)) 3 0 0 10 [.ref 123, .int x0, .int x1, .int x2, .int y7] [] (mk T m8 n9 r) := by
    intro fuel12
    induction fuel12 with
    | zero => intro y7 m8 n9 b15 b16 b17 I10 K11 z18; omega
    | succ fuel12 ih14 =>
      intro y7 m8 n9 b15 b16 b17 I10 K11 z18
      have z19 : 0 ≤ (m8 123 20).toInt ∧ (m8 123 20).toInt ≤ 12 := I10 123 20
      have kLX := (show LX m8 by assumption)
      refine pv_iload (M := mX12_mayStrike) dX12_mayStrike_10 12 rfl rfl ?_
      refine pv_aload_n (M := mX12_mayStrike) 0 dX12_mayStrike_12 13 rfl rfl rfl ?_
      refine iv_get (M := mX12_mayStrike) (l1 := 0) (l2 := 12) dX12_mayStrike_13 FX12 20 wd1193 (by decide) (tl123 hT) rfl I10 rfl 16 rfl (fun v20 ev20 pv20 qv20 => ?_)
      have wv20 : v20.toInt = (m8 123 20).toInt := congrArg Int32.toInt ev20
      refine pv_icmp_ge (M := mX12_mayStrike) (tgt := 61) dX12_mayStrike_16 19 rfl (by decide) (fun c21 => ?_) (fun c21 => ?_)
      · have c21 := iv_le (X := v20.toInt) (Y := y7.toInt) c21 rfl rfl
        refine pv_iconst (M := mX12_mayStrike) (v := 1) dX12_mayStrike_61 62 rfl (by decide) ?_
        exact pv_iret (M := mX12_mayStrike) dX12_mayStrike_62 rfl rfl ⟨_, _, _, rfl, rfl, I10, K11, by decide, by decide, trivial⟩
      · have c21 := iv_nle (X := v20.toInt) (Y := y7.toInt) c21 rfl rfl
        refine pv_aload_n (M := mX12_mayStrike) 0 dX12_mayStrike_19 20 rfl rfl rfl ?_
        refine mv_get (M := mX12_mayStrike) (v := .ref 137) dX12_mayStrike_20 FX12 28 wd1201 (by decide) (tl123 hT) rfl rfl 23 rfl ?_
        refine pv_iload (M := mX12_mayStrike) dX12_mayStrike_23 25 rfl rfl ?_
        refine iv_iald (M := mX12_mayStrike) (X := y7.toInt) (l1 := (-2147483648)) (l2 := 2147483647) dX12_mayStrike_25 (tl137 hT) rfl (by omega) (by omega) I10 (fun _ => rfl) 26 rfl (fun v22 ev22 pv22 qv22 => ?_)
        refine pv_bipush (M := mX12_mayStrike) (v := 110) dX12_mayStrike_26 28 rfl (by decide) ?_
        refine pv_icmp_ne (M := mX12_mayStrike) (tgt := 55) dX12_mayStrike_28 31 rfl (by decide) (fun c23 => ?_) (fun c23 => ?_)
        · have c23 := iv_ne (X := v22.toInt) (Y := 110) c23 rfl (by decide)
          refine iv_inc (M := mX12_mayStrike) (C := 1) dX12_mayStrike_55 58 rfl rfl (by decide) rfl rfl (by decide) (by omega) (by omega) (fun v24 ev24 => ?_)
          show PV _ _ _ _ _ _ _ 58 [.ref 123, .int x0, .int x1, .int x2, .int v24] [] _
          refine pv_goto (M := mX12_mayStrike) (tgt := 10) dX12_mayStrike_58 (by decide) ?_
          exact ih14 v24 m8 n9 (by first | omega | assumption | exact (iv_rng _).2 | exact (iv_rng _).1 | decide) (by first | omega | assumption | exact (iv_rng _).2 | exact (iv_rng _).1 | decide) kLX I10 K11 (by omega)
        · have c23 := iv_eq (X := v22.toInt) (Y := 110) c23 rfl (by decide)
          refine pv_aload_n (M := mX12_mayStrike) 0 dX12_mayStrike_31 32 rfl rfl rfl ?_
          refine pv_aload_n (M := mX12_mayStrike) 0 dX12_mayStrike_32 33 rfl rfl rfl ?_
          refine mv_get (M := mX12_mayStrike) (v := .ref 139) dX12_mayStrike_33 FX12 30 wd1203 (by decide) (tl123 hT) rfl rfl 36 rfl ?_
          refine pv_iload (M := mX12_mayStrike) dX12_mayStrike_36 38 rfl rfl ?_
          refine iv_iald (M := mX12_mayStrike) (X := y7.toInt) (l1 := 0) (l2 := 180) dX12_mayStrike_38 (tl139 hT) rfl (by omega) (by omega) I10 (fun _ => rfl) 39 rfl (fun v25 ev25 pv25 qv25 => ?_)
          refine pv_aload_n (M := mX12_mayStrike) 0 dX12_mayStrike_39 40 rfl rfl rfl ?_
          refine mv_get (M := mX12_mayStrike) (v := .ref 140) dX12_mayStrike_40 FX12 31 wd1204 (by decide) (tl123 hT) rfl rfl 43 rfl ?_
          refine pv_iload (M := mX12_mayStrike) dX12_mayStrike_43 45 rfl rfl ?_
          refine iv_iald (M := mX12_mayStrike) (X := y7.toInt) (l1 := 0) (l2 := 180) dX12_mayStrike_45 (tl140 hT) rfl (by omega) (by omega) I10 (fun _ => rfl) 46 rfl (fun v26 ev26 pv26 qv26 => ?_)
          have k46 : WFc (m8 136) v25.toInt.toNat v26.toInt.toNat := by rw [ev25, ev26]; exact (kLX y7.toInt.toNat (by omega)).2.1
          have k46b : v25.toInt ≤ 179 := by rw [ev25]; exact (kLX y7.toInt.toNat (by omega)).2.2.2
          refine pv_callv (M := mX12_mayStrike) (as := [.int v25, .int v26]) (st := []) (kc2 := 0) (ks2 := 0) dX12_mayStrike_46 wd1515 YX12_comesTo ⟨wd1517, wd81⟩ (mk_get (tl123 hT)) rfl rfl (s_X12_comesTo g hT I10 v25 (by omega) (by omega) v26 (by omega) (by omega) (by first | omega | assumption | exact (iv_rng _).2 | exact (iv_rng _).1 | decide) (by first | omega | assumption | exact (iv_rng _).2 | exact (iv_rng _).1 | decide)) rfl rfl (Nat.le_of_ble_eq_true rfl) (by decide) rfl rfl 49 rfl (fun rv h1 q29 => ?_)
          obtain ⟨m30, n31, v34, rfl, rfl, I32, K33, pv34, qv34, rv34⟩ := q29
          have K33c := K33
          have kLX : LX m30 := LX_eq kLX (K33c 123 20 rfl) (fun j => K33c 136 j rfl) (fun j => K33c 138 j rfl) (fun j => K33c 139 j rfl) (fun j => K33c 140 j rfl)
          have w35 : (m30 123 20).toInt = (m8 123 20).toInt := congrArg Int32.toInt (K33 123 20 rfl)
          have K33 := K11.trans (K33.sub (wl_sub (by decide)))
          show PV _ _ _ _ _ _ _ 49 [.ref 123, .int x0, .int x1, .int x2, .int y7] [.int v34] _
          refine pv_iconst (M := mX12_mayStrike) (v := 1) dX12_mayStrike_49 50 rfl (by decide) ?_
          refine pv_icmp_ne (M := mX12_mayStrike) (tgt := 55) dX12_mayStrike_50 53 rfl (by decide) (fun c36 => ?_) (fun c36 => ?_)
          · have c36 := iv_ne (X := v34.toInt) (Y := 1) c36 rfl (by decide)
            refine iv_inc (M := mX12_mayStrike) (C := 1) dX12_mayStrike_55 58 rfl rfl (by decide) rfl rfl (by decide) (by omega) (by omega) (fun v37 ev37 => ?_)
            show PV _ _ _ _ _ _ _ 58 [.ref 123, .int x0, .int x1, .int x2, .int v37] [] _
            refine pv_goto (M := mX12_mayStrike) (tgt := 10) dX12_mayStrike_58 (by decide) ?_
            exact ih14 v37 m30 n31 (by first | omega | assumption | exact (iv_rng _).2 | exact (iv_rng _).1 | decide) (by first | omega | assumption | exact (iv_rng _).2 | exact (iv_rng _).1 | decide) kLX I32 K33 (by omega)
          · have c36 := iv_eq (X := v34.toInt) (Y := 1) c36 rfl (by decide)
            refine pv_iconst (M := mX12_mayStrike) (v := 0) dX12_mayStrike_53 54 rfl (by decide) ?_
            exact pv_iret (M := mX12_mayStrike) dX12_mayStrike_54 rfl rfl ⟨_, _, _, rfl, rfl, I32, K33, by decide, by decide, trivial⟩
  have z38 : (0 : Int32).toInt = 0 := by decide
  exact lp13 (((12 - 0) : Int).toNat + 1) 0 m2 n3 (by first | omega | assumption | exact (iv_rng _).2 | exact (iv_rng _).1 | decide) (by first | omega | assumption | exact (iv_rng _).2 | exact (iv_rng _).1 | decide) kLX I4 K5 (by omega)

set_option maxHeartbeats 2000000 in
set_option maxRecDepth 20000 in
theorem s_X12_priceOf (g : pv_G) {T : List mv_T} {m : Nat → Nat → Int32} {n : Nat → Nat → Int64} {r : Nat → Value} (hT : TX T) (I : IV BB m) (x0 : Int32) (hl0 : 0 ≤ x0.toInt) (hh0 : x0.toInt ≤ 7) (x1 : Int32) (hl1 : 0 ≤ x1.toInt) (hh1 : x1.toInt ≤ 39) (x2 : Int32) (hp0 : x1.toInt < nu m x0.toInt 0) (hp1 : LX m) : PM g mX12_priceOf yX12_priceOf (sqI T BB (wl [(141, 141, none), (142, 142, none)]) r m 0 99 (fun m' v => True)) 3 0 0 [.ref 123, .int x0, .int x1, .int x2] (mk T m n r) := by
  have Kp : fr (wl [(141, 141, none), (142, 142, none)]) m m := fr.rf
  have kLX := hp1
  have z52 : 0 ≤ (m 123 20).toInt ∧ (m 123 20).toInt ≤ 12 := I 123 20
  refine PM.of 2 (lo := [.ref 123, .int x0, .int x1, .int x2, pv_U, pv_U]) rfl (by decide) rfl rfl (Nat.le_of_ble_eq_true rfl) ?_
  refine pv_aload_n (M := mX12_priceOf) 0 dX12_priceOf_0 1 rfl rfl rfl ?_
  refine pv_iload_n (M := mX12_priceOf) 1 dX12_priceOf_1 2 rfl rfl rfl ?_
  refine pv_iload_n (M := mX12_priceOf) 2 dX12_priceOf_2 3 rfl rfl rfl ?_
  refine pv_iload_n (M := mX12_priceOf) 3 dX12_priceOf_3 4 rfl rfl rfl ?_
  refine pv_callv (M := mX12_priceOf) (as := [.int x0, .int x1, .int x2]) (st := []) (kc2 := 0) (ks2 := 0) dX12_priceOf_4 wd1503 YX12_feels ⟨wd1505, wd78⟩ (mk_get (tl123 hT)) rfl rfl (s_X12_feels g hT I x0 (by omega) (by omega) x1 (by omega) (by omega) x2 (by first | omega | assumption | exact (iv_rng _).2 | exact (iv_rng _).1 | decide)) rfl rfl (Nat.le_of_ble_eq_true rfl) (by decide) rfl rfl 7 rfl (fun rv h1 q1 => ?_)
  obtain ⟨m2, n3, rfl, rfl, I4, K5, rm2⟩ := q1
  have K5c := K5
  have kLX : LX m2 := LX_eq kLX (K5c 123 20 rfl) (fun j => K5c 136 j rfl) (fun j => K5c 138 j rfl) (fun j => K5c 139 j rfl) (fun j => K5c 140 j rfl)
  have w6 : (m2 123 20).toInt = (m 123 20).toInt := congrArg Int32.toInt (K5 123 20 rfl)
  have K5 := Kp.trans (K5.sub (wl_sub (by decide)))
  show PV _ _ _ _ _ _ _ 7 [.ref 123, .int x0, .int x1, .int x2, pv_U, pv_U] [] _
  refine pv_iconst (M := mX12_priceOf) (v := 0) dX12_priceOf_7 8 rfl (by decide) ?_
  refine pv_istore (M := mX12_priceOf) (lo2 := [.ref 123, .int x0, .int x1, .int x2, .int 0, pv_U]) dX12_priceOf_8 10 rfl (by decide) rfl rfl ?_
  have lp13 : ∀ (fuel12 : Nat) (y7 : Int32) (m8 : Nat → Nat → Int32) (n9 : Nat → Nat → Int64), (0 ≤ y7.toInt) → (y7.toInt ≤ 12) → (LX m8) → IV BB m8 → fr (wl [(141, 141, none), (142, 142, none)]) m m8 → ((12 - y7.toInt) : Int).toNat < fuel12 → PV none g mX12_priceOf (sqI T BB (wl [(141, 141, none), (142, 142, none)]) r m 0 99 (fun m' v => True)) 3 0 0 10 [.ref 123, .int x0, .int x1, .int x2, .int y7, pv_U] [] (mk T m8 n9 r) := by
    intro fuel12
    induction fuel12 with
    | zero => intro y7 m8 n9 b15 b16 b17 I10 K11 z18; omega
    | succ fuel12 ih14 =>
      intro y7 m8 n9 b15 b16 b17 I10 K11 z18
      have z19 : 0 ≤ (m8 123 20).toInt ∧ (m8 123 20).toInt ≤ 12 := I10 123 20
      have kLX := (show LX m8 by assumption)
      refine pv_iload (M := mX12_priceOf) dX12_priceOf_10 12 rfl rfl ?_
      refine pv_aload_n (M := mX12_priceOf) 0 dX12_priceOf_12 13 rfl rfl rfl ?_
      refine iv_get (M := mX12_priceOf) (l1 := 0) (l2 := 12) dX12_priceOf_13 FX12 20 wd1193 (by decide) (tl123 hT) rfl I10 rfl 16 rfl (fun v20 ev20 pv20 qv20 => ?_)
      have wv20 : v20.toInt = (m8 123 20).toInt := congrArg Int32.toInt ev20
      refine pv_icmp_ge (M := mX12_priceOf) (tgt := 106) dX12_priceOf_16 19 rfl (by decide) (fun c21 => ?_) (fun c21 => ?_)
      · have c21 := iv_le (X := v20.toInt) (Y := y7.toInt) c21 rfl rfl
        refine pv_iconst (M := mX12_priceOf) (v := 1) dX12_priceOf_106 107 rfl (by decide) ?_
        exact pv_iret (M := mX12_priceOf) dX12_priceOf_107 rfl rfl ⟨_, _, _, rfl, rfl, I10, K11, by decide, by decide, trivial⟩
      · have c21 := iv_nle (X := v20.toInt) (Y := y7.toInt) c21 rfl rfl
        refine pv_aload_n (M := mX12_priceOf) 0 dX12_priceOf_19 20 rfl rfl rfl ?_
        refine mv_get (M := mX12_priceOf) (v := .ref 137) dX12_priceOf_20 FX12 28 wd1201 (by decide) (tl123 hT) rfl rfl 23 rfl ?_
        refine pv_iload (M := mX12_priceOf) dX12_priceOf_23 25 rfl rfl ?_
        refine iv_iald (M := mX12_priceOf) (X := y7.toInt) (l1 := (-2147483648)) (l2 := 2147483647) dX12_priceOf_25 (tl137 hT) rfl (by omega) (by omega) I10 (fun _ => rfl) 26 rfl (fun v22 ev22 pv22 qv22 => ?_)
        refine pv_bipush (M := mX12_priceOf) (v := 112) dX12_priceOf_26 28 rfl (by decide) ?_
        refine pv_icmp_ne (M := mX12_priceOf) (tgt := 100) dX12_priceOf_28 31 rfl (by decide) (fun c23 => ?_) (fun c23 => ?_)
        · have c23 := iv_ne (X := v22.toInt) (Y := 112) c23 rfl (by decide)
          refine iv_inc (M := mX12_priceOf) (C := 1) dX12_priceOf_100 103 rfl rfl (by decide) rfl rfl (by decide) (by omega) (by omega) (fun v24 ev24 => ?_)
          show PV _ _ _ _ _ _ _ 103 [.ref 123, .int x0, .int x1, .int x2, .int v24, pv_U] [] _
          refine pv_goto (M := mX12_priceOf) (tgt := 10) dX12_priceOf_103 (by decide) ?_
          exact ih14 v24 m8 n9 (by first | omega | assumption | exact (iv_rng _).2 | exact (iv_rng _).1 | decide) (by first | omega | assumption | exact (iv_rng _).2 | exact (iv_rng _).1 | decide) kLX I10 K11 (by omega)
        · have c23 := iv_eq (X := v22.toInt) (Y := 112) c23 rfl (by decide)
          refine pv_aload_n (M := mX12_priceOf) 0 dX12_priceOf_31 32 rfl rfl rfl ?_
          refine pv_aload_n (M := mX12_priceOf) 0 dX12_priceOf_32 33 rfl rfl rfl ?_
          refine mv_get (M := mX12_priceOf) (v := .ref 139) dX12_priceOf_33 FX12 30 wd1203 (by decide) (tl123 hT) rfl rfl 36 rfl ?_
          refine pv_iload (M := mX12_priceOf) dX12_priceOf_36 38 rfl rfl ?_
          refine iv_iald (M := mX12_priceOf) (X := y7.toInt) (l1 := 0) (l2 := 180) dX12_priceOf_38 (tl139 hT) rfl (by omega) (by omega) I10 (fun _ => rfl) 39 rfl (fun v25 ev25 pv25 qv25 => ?_)
          refine pv_aload_n (M := mX12_priceOf) 0 dX12_priceOf_39 40 rfl rfl rfl ?_
          refine mv_get (M := mX12_priceOf) (v := .ref 140) dX12_priceOf_40 FX12 31 wd1204 (by decide) (tl123 hT) rfl rfl 43 rfl ?_
          refine pv_iload (M := mX12_priceOf) dX12_priceOf_43 45 rfl rfl ?_
          refine iv_iald (M := mX12_priceOf) (X := y7.toInt) (l1 := 0) (l2 := 180) dX12_priceOf_45 (tl140 hT) rfl (by omega) (by omega) I10 (fun _ => rfl) 46 rfl (fun v26 ev26 pv26 qv26 => ?_)
          have k46 : WFc (m8 136) v25.toInt.toNat v26.toInt.toNat := by rw [ev25, ev26]; exact (kLX y7.toInt.toNat (by omega)).2.1
          have k46b : v25.toInt ≤ 179 := by rw [ev25]; exact (kLX y7.toInt.toNat (by omega)).2.2.2
          refine pv_callv (M := mX12_priceOf) (as := [.int v25, .int v26]) (st := []) (kc2 := 0) (ks2 := 0) dX12_priceOf_46 wd1515 YX12_comesTo ⟨wd1517, wd81⟩ (mk_get (tl123 hT)) rfl rfl (s_X12_comesTo g hT I10 v25 (by omega) (by omega) v26 (by omega) (by omega) (by first | omega | assumption | exact (iv_rng _).2 | exact (iv_rng _).1 | decide) (by first | omega | assumption | exact (iv_rng _).2 | exact (iv_rng _).1 | decide)) rfl rfl (Nat.le_of_ble_eq_true rfl) (by decide) rfl rfl 49 rfl (fun rv h1 q29 => ?_)
          obtain ⟨m30, n31, v34, rfl, rfl, I32, K33, pv34, qv34, rv34⟩ := q29
          have K33c := K33
          have kLX : LX m30 := LX_eq kLX (K33c 123 20 rfl) (fun j => K33c 136 j rfl) (fun j => K33c 138 j rfl) (fun j => K33c 139 j rfl) (fun j => K33c 140 j rfl)
          have w35 : (m30 123 20).toInt = (m8 123 20).toInt := congrArg Int32.toInt (K33 123 20 rfl)
          have K33 := K11.trans (K33.sub (wl_sub (by decide)))
          show PV _ _ _ _ _ _ _ 49 [.ref 123, .int x0, .int x1, .int x2, .int y7, pv_U] [.int v34] _
          refine pv_iconst (M := mX12_priceOf) (v := 1) dX12_priceOf_49 50 rfl (by decide) ?_
          refine pv_icmp_eq (M := mX12_priceOf) (tgt := 56) dX12_priceOf_50 53 rfl (by decide) (fun c36 => ?_) (fun c36 => ?_)
          · have c36 := iv_eq (X := v34.toInt) (Y := 1) c36 rfl (by decide)
            refine pv_aload_n (M := mX12_priceOf) 0 dX12_priceOf_56 57 rfl rfl rfl ?_
            refine pv_aload_n (M := mX12_priceOf) 0 dX12_priceOf_57 58 rfl rfl rfl ?_
            refine mv_get (M := mX12_priceOf) (v := .ref 138) dX12_priceOf_58 FX12 29 wd1202 (by decide) (tl123 hT) rfl rfl 61 rfl ?_
            refine pv_iload (M := mX12_priceOf) dX12_priceOf_61 63 rfl rfl ?_
            refine iv_iald (M := mX12_priceOf) (X := y7.toInt) (l1 := 0) (l2 := 180) dX12_priceOf_63 (tl138 hT) rfl (by omega) (by omega) I32 (fun _ => rfl) 64 rfl (fun v37 ev37 pv37 qv37 => ?_)
            refine pv_aload_n (M := mX12_priceOf) 0 dX12_priceOf_64 65 rfl rfl rfl ?_
            refine mv_get (M := mX12_priceOf) (v := .ref 139) dX12_priceOf_65 FX12 30 wd1203 (by decide) (tl123 hT) rfl rfl 68 rfl ?_
            refine pv_iload (M := mX12_priceOf) dX12_priceOf_68 70 rfl rfl ?_
            refine iv_iald (M := mX12_priceOf) (X := y7.toInt) (l1 := 0) (l2 := 180) dX12_priceOf_70 (tl139 hT) rfl (by omega) (by omega) I32 (fun _ => rfl) 71 rfl (fun v38 ev38 pv38 qv38 => ?_)
            have k71 : WFc (m30 136) v37.toInt.toNat v38.toInt.toNat := by rw [ev37, ev38]; exact (kLX y7.toInt.toNat (by omega)).1
            have k71b : v37.toInt ≤ 179 := by rw [ev37]; exact (kLX y7.toInt.toNat (by omega)).2.2.1
            refine pv_callv (M := mX12_priceOf) (as := [.int v37, .int v38]) (st := []) (kc2 := 0) (ks2 := 0) dX12_priceOf_71 wd1515 YX12_comesTo ⟨wd1517, wd81⟩ (mk_get (tl123 hT)) rfl rfl (s_X12_comesTo g hT I32 v37 (by omega) (by omega) v38 (by omega) (by omega) (by first | omega | assumption | exact (iv_rng _).2 | exact (iv_rng _).1 | decide) (by first | omega | assumption | exact (iv_rng _).2 | exact (iv_rng _).1 | decide)) rfl rfl (Nat.le_of_ble_eq_true rfl) (by decide) rfl rfl 74 rfl (fun rv h1 q41 => ?_)
            obtain ⟨m42, n43, v46, rfl, rfl, I44, K45, pv46, qv46, rv46⟩ := q41
            have K45c := K45
            have kLX : LX m42 := LX_eq kLX (K45c 123 20 rfl) (fun j => K45c 136 j rfl) (fun j => K45c 138 j rfl) (fun j => K45c 139 j rfl) (fun j => K45c 140 j rfl)
            have w47 : (m42 123 20).toInt = (m30 123 20).toInt := congrArg Int32.toInt (K45 123 20 rfl)
            have K45 := K33.trans (K45.sub (wl_sub (by decide)))
            show PV _ _ _ _ _ _ _ 74 [.ref 123, .int x0, .int x1, .int x2, .int y7, pv_U] [.int v46] _
            refine pv_istore (M := mX12_priceOf) (lo2 := [.ref 123, .int x0, .int x1, .int x2, .int y7, .int v46]) dX12_priceOf_74 76 rfl (by decide) rfl rfl ?_
            refine pv_iload (M := mX12_priceOf) dX12_priceOf_76 78 rfl rfl ?_
            refine pv_if_ge (M := mX12_priceOf) (tgt := 85) dX12_priceOf_78 81 rfl (by decide) (fun c48 => ?_) (fun c48 => ?_)
            · have c48 := iv_le (X := 0) (Y := v46.toInt) c48 (by decide) rfl
              refine pv_iload (M := mX12_priceOf) dX12_priceOf_85 87 rfl rfl ?_
              refine pv_bipush (M := mX12_priceOf) (v := 99) dX12_priceOf_87 89 rfl (by decide) ?_
              refine pv_icmp_le (M := mX12_priceOf) (tgt := 97) dX12_priceOf_89 92 rfl (by decide) (fun c49 => ?_) (fun c49 => ?_)
              · have c49 := iv_le (X := v46.toInt) (Y := 99) c49 rfl (by decide)
                refine pv_iload (M := mX12_priceOf) dX12_priceOf_97 99 rfl rfl ?_
                exact pv_iret (M := mX12_priceOf) dX12_priceOf_99 rfl rfl ⟨_, _, _, rfl, rfl, I44, K45, by omega, by omega, trivial⟩
              · have c49 := iv_nle (X := v46.toInt) (Y := 99) c49 rfl (by decide)
                refine pv_bipush (M := mX12_priceOf) (v := 99) dX12_priceOf_92 94 rfl (by decide) ?_
                refine pv_goto (M := mX12_priceOf) (tgt := 99) dX12_priceOf_94 (by decide) ?_
                exact pv_iret (M := mX12_priceOf) dX12_priceOf_99 rfl rfl ⟨_, _, _, rfl, rfl, I44, K45, by decide, by decide, trivial⟩
            · have c48 := iv_nle (X := 0) (Y := v46.toInt) c48 (by decide) rfl
              refine pv_iconst (M := mX12_priceOf) (v := 0) dX12_priceOf_81 82 rfl (by decide) ?_
              refine pv_goto (M := mX12_priceOf) (tgt := 99) dX12_priceOf_82 (by decide) ?_
              exact pv_iret (M := mX12_priceOf) dX12_priceOf_99 rfl rfl ⟨_, _, _, rfl, rfl, I44, K45, by decide, by decide, trivial⟩
          · have c36 := iv_ne (X := v34.toInt) (Y := 1) c36 rfl (by decide)
            refine pv_goto (M := mX12_priceOf) (tgt := 100) dX12_priceOf_53 (by decide) ?_
            refine iv_inc (M := mX12_priceOf) (C := 1) dX12_priceOf_100 103 rfl rfl (by decide) rfl rfl (by decide) (by omega) (by omega) (fun v50 ev50 => ?_)
            show PV _ _ _ _ _ _ _ 103 [.ref 123, .int x0, .int x1, .int x2, .int v50, pv_U] [] _
            refine pv_goto (M := mX12_priceOf) (tgt := 10) dX12_priceOf_103 (by decide) ?_
            exact ih14 v50 m30 n31 (by first | omega | assumption | exact (iv_rng _).2 | exact (iv_rng _).1 | decide) (by first | omega | assumption | exact (iv_rng _).2 | exact (iv_rng _).1 | decide) kLX I32 K33 (by omega)
  have z51 : (0 : Int32).toInt = 0 := by decide
  exact lp13 (((12 - 0) : Int).toNat + 1) 0 m2 n3 (by first | omega | assumption | exact (iv_rng _).2 | exact (iv_rng _).1 | decide) (by first | omega | assumption | exact (iv_rng _).2 | exact (iv_rng _).1 | decide) kLX I4 K5 (by omega)

set_option maxHeartbeats 2000000 in
set_option maxRecDepth 20000 in
theorem s_X12_may (g : pv_G) {T : List mv_T} {m : Nat → Nat → Int32} {n : Nat → Nat → Int64} {r : Nat → Value} (hT : TX T) (I : IV BB m) (x0 : Int32) (x1 : Int32) (x2 : Int32) (x3 : Int32) (hp0 : LX m) : PM g mX12_may yX12_may (sqI T BB (wl [(141, 141, none), (142, 142, none)]) r m (-2147483648) 2147483647 (fun m' v => True)) 4 0 0 [.ref 123, .int x0, .int x1, .int x2, .int x3] (mk T m n r) := by
  have Kp : fr (wl [(141, 141, none), (142, 142, none)]) m m := fr.rf
  have kLX := hp0
  refine PM.of 0 (lo := [.ref 123, .int x0, .int x1, .int x2, .int x3]) rfl (by decide) rfl rfl (Nat.le_of_ble_eq_true rfl) ?_
  refine pv_aload_n (M := mX12_may) 0 dX12_may_0 1 rfl rfl rfl ?_
  refine pv_iload_n (M := mX12_may) 1 dX12_may_1 2 rfl rfl rfl ?_
  refine pv_callv (M := mX12_may) (as := [.int x0]) (st := []) (kc2 := 0) (ks2 := 0) dX12_may_2 wd1389 YX12_isBlank ⟨wd1391, wd55⟩ (mk_get (tl123 hT)) rfl rfl (s_X12_isBlank g hT I x0) rfl rfl (Nat.le_of_ble_eq_true rfl) (by decide) rfl rfl 5 rfl (fun rv h1 q1 => ?_)
  obtain ⟨v2, rfl, rfl, pv2, qv2, rv2⟩ := q1
  replace rv2 : v2 = 0 ∨ (0 ≤ x0.toInt ∧ x0.toInt ≤ 7) := rv2
  show PV _ _ _ _ _ _ _ 5 [.ref 123, .int x0, .int x1, .int x2, .int x3] [.int v2] _
  refine pv_if_eq (M := mX12_may) (tgt := 38) dX12_may_5 8 rfl (by decide) (fun c3 => ?_) (fun c3 => ?_)
  · have c3 := iv_eq (X := v2.toInt) (Y := 0) c3 rfl (by decide)
    refine pv_iconst (M := mX12_may) (v := (-1)) dX12_may_38 39 rfl (by decide) ?_
    exact pv_iret (M := mX12_may) dX12_may_39 rfl rfl ⟨_, _, _, rfl, rfl, I, Kp, by decide, by decide, trivial⟩
  · have pc3 := rv2.resolve_left c3
    have c3 := iv_ne (X := v2.toInt) (Y := 0) c3 rfl (by decide)
    refine pv_iload_n (M := mX12_may) 2 dX12_may_8 9 rfl rfl rfl ?_
    refine pv_if_lt (M := mX12_may) (tgt := 38) dX12_may_9 12 rfl (by decide) (fun c4 => ?_) (fun c4 => ?_)
    · have c4 := iv_lt (X := x1.toInt) (Y := 0) c4 rfl (by decide)
      refine pv_iconst (M := mX12_may) (v := (-1)) dX12_may_38 39 rfl (by decide) ?_
      exact pv_iret (M := mX12_may) dX12_may_39 rfl rfl ⟨_, _, _, rfl, rfl, I, Kp, by decide, by decide, trivial⟩
    · have c4 := iv_nlt (X := x1.toInt) (Y := 0) c4 rfl (by decide)
      refine pv_iload_n (M := mX12_may) 2 dX12_may_12 13 rfl rfl rfl ?_
      refine pv_aload_n (M := mX12_may) 0 dX12_may_13 14 rfl rfl rfl ?_
      refine pv_iload_n (M := mX12_may) 1 dX12_may_14 15 rfl rfl rfl ?_
      refine pv_callv (M := mX12_may) (as := [.int x0]) (st := [.int x1]) (kc2 := 0) (ks2 := 0) dX12_may_15 wd1393 YX12_leftMany ⟨wd1395, wd56⟩ (mk_get (tl123 hT)) rfl rfl (s_X12_leftMany g hT I x0 (by omega) (by omega)) rfl rfl (Nat.le_of_ble_eq_true rfl) (by decide) rfl rfl 18 rfl (fun rv h1 q5 => ?_)
      obtain ⟨v6, rfl, rfl, pv6, qv6, rv6⟩ := q5
      replace rv6 : v6.toInt = nu m x0.toInt 0 := rv6
      show PV _ _ _ _ _ _ _ 18 [.ref 123, .int x0, .int x1, .int x2, .int x3] [.int v6, .int x1] _
      refine pv_icmp_ge (M := mX12_may) (tgt := 38) dX12_may_18 21 rfl (by decide) (fun c7 => ?_) (fun c7 => ?_)
      · have c7 := iv_le (X := v6.toInt) (Y := x1.toInt) c7 rfl rfl
        refine pv_iconst (M := mX12_may) (v := (-1)) dX12_may_38 39 rfl (by decide) ?_
        exact pv_iret (M := mX12_may) dX12_may_39 rfl rfl ⟨_, _, _, rfl, rfl, I, Kp, by decide, by decide, trivial⟩
      · have c7 := iv_nle (X := v6.toInt) (Y := x1.toInt) c7 rfl rfl
        refine pv_iload_n (M := mX12_may) 3 dX12_may_21 22 rfl rfl rfl ?_
        refine pv_calls (M := mX12_may) (as := [.int x2]) (st := []) (kc2 := 0) (ks2 := 0) dX12_may_22 wd1496 YX12_isClerk wd1497 (s_X12_isClerk g hT I x2) rfl rfl (Nat.le_of_ble_eq_true rfl) (by decide) rfl rfl 25 rfl (fun rv h1 q8 => ?_)
        obtain ⟨v9, rfl, rfl, pv9, qv9, rv9⟩ := q8
        replace rv9 : v9 = 0 ∨ (0 ≤ x2.toInt ∧ x2.toInt ≤ 7) := rv9
        show PV _ _ _ _ _ _ _ 25 [.ref 123, .int x0, .int x1, .int x2, .int x3] [.int v9] _
        refine pv_if_eq (M := mX12_may) (tgt := 38) dX12_may_25 28 rfl (by decide) (fun c10 => ?_) (fun c10 => ?_)
        · have c10 := iv_eq (X := v9.toInt) (Y := 0) c10 rfl (by decide)
          refine pv_iconst (M := mX12_may) (v := (-1)) dX12_may_38 39 rfl (by decide) ?_
          exact pv_iret (M := mX12_may) dX12_may_39 rfl rfl ⟨_, _, _, rfl, rfl, I, Kp, by decide, by decide, trivial⟩
        · have pc10 := rv9.resolve_left c10
          have c10 := iv_ne (X := v9.toInt) (Y := 0) c10 rfl (by decide)
          refine pv_iload (M := mX12_may) dX12_may_28 30 rfl rfl ?_
          refine pv_iconst (M := mX12_may) (v := 0) dX12_may_30 31 rfl (by decide) ?_
          refine pv_iconst (M := mX12_may) (v := 1) dX12_may_31 32 rfl (by decide) ?_
          have z11 : (0 : Int32).toInt = 0 := by decide
          have z12 : (1 : Int32).toInt = 1 := by decide
          refine pv_calls (M := mX12_may) (as := [.int x3, .int 0, .int 1]) (st := []) (kc2 := 0) (ks2 := 0) dX12_may_32 wd1370 YX12_in wd1371 (s_X12_in g hT I x3 0 1) rfl rfl (Nat.le_of_ble_eq_true rfl) (by decide) rfl rfl 35 rfl (fun rv h1 q13 => ?_)
          obtain ⟨v14, rfl, rfl, pv14, qv14, rv14⟩ := q13
          replace rv14 : v14 = 0 ∨ ((0 : Int) ≤ x3.toInt ∧ x3.toInt ≤ (1 : Int)) := by have q_ := rv14; (try rw [z11] at q_); (try rw [z12] at q_); exact q_
          show PV _ _ _ _ _ _ _ 35 [.ref 123, .int x0, .int x1, .int x2, .int x3] [.int v14] _
          refine pv_if_ne (M := mX12_may) (tgt := 40) dX12_may_35 38 rfl (by decide) (fun c15 => ?_) (fun c15 => ?_)
          · have pc15 := rv14.resolve_left c15
            have c15 := iv_ne (X := v14.toInt) (Y := 0) c15 rfl (by decide)
            refine pv_iload (M := mX12_may) dX12_may_40 42 rfl rfl ?_
            refine pv_iconst (M := mX12_may) (v := 1) dX12_may_42 43 rfl (by decide) ?_
            refine pv_icmp_ne (M := mX12_may) (tgt := 56) dX12_may_43 46 rfl (by decide) (fun c16 => ?_) (fun c16 => ?_)
            · have c16 := iv_ne (X := x3.toInt) (Y := 1) c16 rfl (by decide)
              refine pv_aload_n (M := mX12_may) 0 dX12_may_56 57 rfl rfl rfl ?_
              refine pv_iload_n (M := mX12_may) 1 dX12_may_57 58 rfl rfl rfl ?_
              refine pv_iload_n (M := mX12_may) 2 dX12_may_58 59 rfl rfl rfl ?_
              refine pv_iload_n (M := mX12_may) 3 dX12_may_59 60 rfl rfl rfl ?_
              refine pv_callv (M := mX12_may) (as := [.int x0, .int x1, .int x2]) (st := []) (kc2 := 0) (ks2 := 0) dX12_may_60 wd1522 YX12_mayStrike ⟨wd1524, wd82⟩ (mk_get (tl123 hT)) rfl rfl (s_X12_mayStrike g hT I x0 (by omega) (by omega) x1 (by omega) (by omega) x2 (by first | omega | assumption | exact (iv_rng _).2 | exact (iv_rng _).1 | decide) (by first | omega | assumption | exact (iv_rng _).2 | exact (iv_rng _).1 | decide)) rfl rfl (Nat.le_of_ble_eq_true rfl) (by decide) rfl rfl 63 rfl (fun rv h1 q17 => ?_)
              obtain ⟨m18, n19, v22, rfl, rfl, I20, K21, pv22, qv22, rv22⟩ := q17
              have K21c := K21
              have kLX : LX m18 := LX_eq kLX (K21c 123 20 rfl) (fun j => K21c 136 j rfl) (fun j => K21c 138 j rfl) (fun j => K21c 139 j rfl) (fun j => K21c 140 j rfl)
              have K21 := Kp.trans (K21.sub (fun _ _ q => q))
              show PV _ _ _ _ _ _ _ 63 [.ref 123, .int x0, .int x1, .int x2, .int x3] [.int v22] _
              refine pv_if_eq (M := mX12_may) (tgt := 70) dX12_may_63 66 rfl (by decide) (fun c23 => ?_) (fun c23 => ?_)
              · have c23 := iv_eq (X := v22.toInt) (Y := 0) c23 rfl (by decide)
                refine pv_iconst (M := mX12_may) (v := 0) dX12_may_70 71 rfl (by decide) ?_
                exact pv_iret (M := mX12_may) dX12_may_71 rfl rfl ⟨_, _, _, rfl, rfl, I20, K21, by decide, by decide, trivial⟩
              · have c23 := iv_ne (X := v22.toInt) (Y := 0) c23 rfl (by decide)
                refine pv_iconst (M := mX12_may) (v := 1) dX12_may_66 67 rfl (by decide) ?_
                refine pv_goto (M := mX12_may) (tgt := 71) dX12_may_67 (by decide) ?_
                exact pv_iret (M := mX12_may) dX12_may_71 rfl rfl ⟨_, _, _, rfl, rfl, I20, K21, by decide, by decide, trivial⟩
            · have c16 := iv_eq (X := x3.toInt) (Y := 1) c16 rfl (by decide)
              refine pv_aload_n (M := mX12_may) 0 dX12_may_46 47 rfl rfl rfl ?_
              refine pv_iload_n (M := mX12_may) 1 dX12_may_47 48 rfl rfl rfl ?_
              refine pv_iload_n (M := mX12_may) 2 dX12_may_48 49 rfl rfl rfl ?_
              refine pv_iload_n (M := mX12_may) 3 dX12_may_49 50 rfl rfl rfl ?_
              refine pv_callv (M := mX12_may) (as := [.int x0, .int x1, .int x2]) (st := []) (kc2 := 0) (ks2 := 0) dX12_may_50 wd1499 YX12_priceOf ⟨wd1501, wd77⟩ (mk_get (tl123 hT)) rfl rfl (s_X12_priceOf g hT I x0 (by omega) (by omega) x1 (by omega) (by omega) x2 (by first | omega | assumption | exact (iv_rng _).2 | exact (iv_rng _).1 | decide) (by first | omega | assumption | exact (iv_rng _).2 | exact (iv_rng _).1 | decide)) rfl rfl (Nat.le_of_ble_eq_true rfl) (by decide) rfl rfl 53 rfl (fun rv h1 q24 => ?_)
              obtain ⟨m25, n26, v29, rfl, rfl, I27, K28, pv29, qv29, rv29⟩ := q24
              have K28c := K28
              have kLX : LX m25 := LX_eq kLX (K28c 123 20 rfl) (fun j => K28c 136 j rfl) (fun j => K28c 138 j rfl) (fun j => K28c 139 j rfl) (fun j => K28c 140 j rfl)
              have K28 := Kp.trans (K28.sub (fun _ _ q => q))
              show PV _ _ _ _ _ _ _ 53 [.ref 123, .int x0, .int x1, .int x2, .int x3] [.int v29] _
              refine pv_goto (M := mX12_may) (tgt := 71) dX12_may_53 (by decide) ?_
              exact pv_iret (M := mX12_may) dX12_may_71 rfl rfl ⟨_, _, _, rfl, rfl, I27, K28, (iv_rng v29).1, (iv_rng v29).2, trivial⟩
          · have c15 := iv_eq (X := v14.toInt) (Y := 0) c15 rfl (by decide)
            refine pv_iconst (M := mX12_may) (v := (-1)) dX12_may_38 39 rfl (by decide) ?_
            exact pv_iret (M := mX12_may) dX12_may_39 rfl rfl ⟨_, _, _, rfl, rfl, I, Kp, by decide, by decide, trivial⟩

set_option maxHeartbeats 2000000 in
set_option maxRecDepth 20000 in
theorem s_X12_book (g : pv_G) {T : List mv_T} {m : Nat → Nat → Int32} {n : Nat → Nat → Int64} {r : Nat → Value} (hT : TX T) (I : IV BB m) (x0 : Int32) (x1 : Int32) : PM g mX12_book yX12_book (sqP (mk T m n r) (-2147483648) 2147483647 (fun v => True)) 2 0 0 [.ref 123, .int x0, .int x1] (mk T m n r) := by
  have Kp : fr (wl []) m m := fr.rf
  refine PM.of 0 (lo := [.ref 123, .int x0, .int x1]) rfl (by decide) rfl rfl (Nat.le_of_ble_eq_true rfl) ?_
  refine pv_iload_n (M := mX12_book) 1 dX12_book_0 1 rfl rfl rfl ?_
  refine pv_if_lt (M := mX12_book) (tgt := 12) dX12_book_1 4 rfl (by decide) (fun c1 => ?_) (fun c1 => ?_)
  · have c1 := iv_lt (X := x0.toInt) (Y := 0) c1 rfl (by decide)
    refine pv_sipush (M := mX12_book) (v := (-1000)) dX12_book_12 15 rfl (by decide) ?_
    exact pv_iret (M := mX12_book) dX12_book_15 rfl rfl ⟨_, rfl, rfl, by decide, by decide, trivial⟩
  · have c1 := iv_nlt (X := x0.toInt) (Y := 0) c1 rfl (by decide)
    refine pv_iload_n (M := mX12_book) 1 dX12_book_4 5 rfl rfl rfl ?_
    refine pv_aload_n (M := mX12_book) 0 dX12_book_5 6 rfl rfl rfl ?_
    refine iv_get (M := mX12_book) (l1 := 0) (l2 := 60) dX12_book_6 FX12 3 wd1176 (by decide) (tl123 hT) rfl I rfl 9 rfl (fun v2 ev2 pv2 qv2 => ?_)
    refine pv_icmp_lt (M := mX12_book) (tgt := 16) dX12_book_9 12 rfl (by decide) (fun c3 => ?_) (fun c3 => ?_)
    · have c3 := iv_lt (X := x0.toInt) (Y := v2.toInt) c3 rfl rfl
      refine pv_iload_n (M := mX12_book) 2 dX12_book_16 17 rfl rfl rfl ?_
      by_cases c4 : x1.toInt = 0
      · refine iv_tabIn (M := mX12_book) (X := 0) (off := 35) (tgt := 52) dX12_book_17 c4 (by decide) (by decide) (by decide) (by decide) ?_
        refine pv_aload_n (M := mX12_book) 0 dX12_book_52 53 rfl rfl rfl ?_
        refine mv_get (M := mX12_book) (v := .ref 143) dX12_book_53 FX12 34 wd1207 (by decide) (tl123 hT) rfl rfl 56 rfl ?_
        refine pv_iload_n (M := mX12_book) 1 dX12_book_56 57 rfl rfl rfl ?_
        refine iv_iald (M := mX12_book) (X := x0.toInt) (l1 := 0) (l2 := 7) dX12_book_57 (tl143 hT) rfl (by omega) (by omega) I (fun _ => rfl) 58 rfl (fun v5 ev5 pv5 qv5 => ?_)
        exact pv_iret (M := mX12_book) dX12_book_58 rfl rfl ⟨_, rfl, rfl, (iv_rng v5).1, (iv_rng v5).2, trivial⟩
      by_cases c6 : x1.toInt = 1
      · refine iv_tabIn (M := mX12_book) (X := 1) (off := 42) (tgt := 59) dX12_book_17 c6 (by decide) (by decide) (by decide) (by decide) ?_
        refine pv_aload_n (M := mX12_book) 0 dX12_book_59 60 rfl rfl rfl ?_
        refine mv_get (M := mX12_book) (v := .ref 144) dX12_book_60 FX12 35 wd1208 (by decide) (tl123 hT) rfl rfl 63 rfl ?_
        refine pv_iload_n (M := mX12_book) 1 dX12_book_63 64 rfl rfl rfl ?_
        refine iv_iald (M := mX12_book) (X := x0.toInt) (l1 := (-2147483648)) (l2 := 2147483647) dX12_book_64 (tl144 hT) rfl (by omega) (by omega) I (fun _ => rfl) 65 rfl (fun v7 ev7 pv7 qv7 => ?_)
        exact pv_iret (M := mX12_book) dX12_book_65 rfl rfl ⟨_, rfl, rfl, (iv_rng v7).1, (iv_rng v7).2, trivial⟩
      by_cases c8 : x1.toInt = 2
      · refine iv_tabIn (M := mX12_book) (X := 2) (off := 49) (tgt := 66) dX12_book_17 c8 (by decide) (by decide) (by decide) (by decide) ?_
        refine pv_aload_n (M := mX12_book) 0 dX12_book_66 67 rfl rfl rfl ?_
        refine mv_get (M := mX12_book) (v := .ref 145) dX12_book_67 FX12 36 wd1209 (by decide) (tl123 hT) rfl rfl 70 rfl ?_
        refine pv_iload_n (M := mX12_book) 1 dX12_book_70 71 rfl rfl rfl ?_
        refine iv_iald (M := mX12_book) (X := x0.toInt) (l1 := (-2147483648)) (l2 := 2147483647) dX12_book_71 (tl145 hT) rfl (by omega) (by omega) I (fun _ => rfl) 72 rfl (fun v9 ev9 pv9 qv9 => ?_)
        exact pv_iret (M := mX12_book) dX12_book_72 rfl rfl ⟨_, rfl, rfl, (iv_rng v9).1, (iv_rng v9).2, trivial⟩
      by_cases c10 : x1.toInt = 3
      · refine iv_tabIn (M := mX12_book) (X := 3) (off := 56) (tgt := 73) dX12_book_17 c10 (by decide) (by decide) (by decide) (by decide) ?_
        refine pv_aload_n (M := mX12_book) 0 dX12_book_73 74 rfl rfl rfl ?_
        refine mv_get (M := mX12_book) (v := .ref 146) dX12_book_74 FX12 37 wd1210 (by decide) (tl123 hT) rfl rfl 77 rfl ?_
        refine pv_iload_n (M := mX12_book) 1 dX12_book_77 78 rfl rfl rfl ?_
        refine iv_iald (M := mX12_book) (X := x0.toInt) (l1 := (-2147483648)) (l2 := 2147483647) dX12_book_78 (tl146 hT) rfl (by omega) (by omega) I (fun _ => rfl) 79 rfl (fun v11 ev11 pv11 qv11 => ?_)
        exact pv_iret (M := mX12_book) dX12_book_79 rfl rfl ⟨_, rfl, rfl, (iv_rng v11).1, (iv_rng v11).2, trivial⟩
      by_cases c12 : x1.toInt = 4
      · refine iv_tabIn (M := mX12_book) (X := 4) (off := 63) (tgt := 80) dX12_book_17 c12 (by decide) (by decide) (by decide) (by decide) ?_
        refine pv_aload_n (M := mX12_book) 0 dX12_book_80 81 rfl rfl rfl ?_
        refine mv_get (M := mX12_book) (v := .ref 147) dX12_book_81 FX12 38 wd1211 (by decide) (tl123 hT) rfl rfl 84 rfl ?_
        refine pv_iload_n (M := mX12_book) 1 dX12_book_84 85 rfl rfl rfl ?_
        refine iv_iald (M := mX12_book) (X := x0.toInt) (l1 := 0) (l2 := 9) dX12_book_85 (tl147 hT) rfl (by omega) (by omega) I (fun _ => rfl) 86 rfl (fun v13 ev13 pv13 qv13 => ?_)
        exact pv_iret (M := mX12_book) dX12_book_86 rfl rfl ⟨_, rfl, rfl, (iv_rng v13).1, (iv_rng v13).2, trivial⟩
      refine pv_tableOut (M := mX12_book) (tgt := 87) dX12_book_17 (by omega) (by decide) ?_
      refine pv_iload_n (M := mX12_book) 2 dX12_book_87 88 rfl rfl rfl ?_
      refine pv_bipush (M := mX12_book) (v := 10) dX12_book_88 90 rfl (by decide) ?_
      refine pv_bipush (M := mX12_book) (v := 9) dX12_book_90 92 rfl (by decide) ?_
      refine pv_aload_n (M := mX12_book) 0 dX12_book_92 93 rfl rfl rfl ?_
      refine mv_get (M := mX12_book) (v := .ref 147) dX12_book_93 FX12 38 wd1211 (by decide) (tl123 hT) rfl rfl 96 rfl ?_
      refine pv_iload_n (M := mX12_book) 1 dX12_book_96 97 rfl rfl rfl ?_
      refine iv_iald (M := mX12_book) (X := x0.toInt) (l1 := 0) (l2 := 9) dX12_book_97 (tl147 hT) rfl (by omega) (by omega) I (fun _ => rfl) 98 rfl (fun v14 ev14 pv14 qv14 => ?_)
      refine iv_iadd (M := mX12_book) (X := 9) (Y := v14.toInt) dX12_book_98 99 rfl (by decide) rfl (by omega) (by omega) (fun v15 ev15 => ?_)
      have z16 : (10 : Int32).toInt = 10 := by decide
      refine pv_calls (M := mX12_book) (as := [.int x1, .int 10, .int v15]) (st := []) (kc2 := 0) (ks2 := 0) dX12_book_99 wd1370 YX12_in wd1371 (s_X12_in g hT I x1 10 v15) rfl rfl (Nat.le_of_ble_eq_true rfl) (by decide) rfl rfl 102 rfl (fun rv h1 q17 => ?_)
      obtain ⟨v18, rfl, rfl, pv18, qv18, rv18⟩ := q17
      replace rv18 : v18 = 0 ∨ ((10 : Int) ≤ x1.toInt ∧ x1.toInt ≤ v15.toInt) := by have q_ := rv18; (try rw [z16] at q_); exact q_
      show PV _ _ _ _ _ _ _ 102 [.ref 123, .int x0, .int x1] [.int v18] _
      refine pv_if_eq (M := mX12_book) (tgt := 122) dX12_book_102 105 rfl (by decide) (fun c19 => ?_) (fun c19 => ?_)
      · have c19 := iv_eq (X := v18.toInt) (Y := 0) c19 rfl (by decide)
        refine pv_sipush (M := mX12_book) (v := (-1000)) dX12_book_122 125 rfl (by decide) ?_
        exact pv_iret (M := mX12_book) dX12_book_125 rfl rfl ⟨_, rfl, rfl, by decide, by decide, trivial⟩
      · have pc19 := rv18.resolve_left c19
        have c19 := iv_ne (X := v18.toInt) (Y := 0) c19 rfl (by decide)
        refine pv_aload_n (M := mX12_book) 0 dX12_book_105 106 rfl rfl rfl ?_
        refine mv_get (M := mX12_book) (v := .ref 148) dX12_book_106 FX12 39 wd1212 (by decide) (tl123 hT) rfl rfl 109 rfl ?_
        refine pv_bipush (M := mX12_book) (v := 9) dX12_book_109 111 rfl (by decide) ?_
        refine pv_iload_n (M := mX12_book) 1 dX12_book_111 112 rfl rfl rfl ?_
        refine iv_imul (M := mX12_book) (X := 9) (Y := x0.toInt) dX12_book_112 113 rfl (by decide) rfl (by omega) (by omega) (fun v20 ev20 => ?_)
        refine pv_iload_n (M := mX12_book) 2 dX12_book_113 114 rfl rfl rfl ?_
        refine iv_iadd (M := mX12_book) (X := v20.toInt) (Y := x1.toInt) dX12_book_114 115 rfl rfl rfl (by omega) (by omega) (fun v21 ev21 => ?_)
        refine pv_bipush (M := mX12_book) (v := 10) dX12_book_115 117 rfl (by decide) ?_
        refine iv_isub (M := mX12_book) (X := v21.toInt) (Y := 10) dX12_book_117 118 rfl rfl (by decide) (by omega) (by omega) (fun v22 ev22 => ?_)
        refine iv_iald (M := mX12_book) (X := v22.toInt) (l1 := 0) (l2 := 39) dX12_book_118 (tl148 hT) rfl (by omega) (by omega) I (fun _ => rfl) 119 rfl (fun v23 ev23 pv23 qv23 => ?_)
        refine pv_goto (M := mX12_book) (tgt := 125) dX12_book_119 (by decide) ?_
        exact pv_iret (M := mX12_book) dX12_book_125 rfl rfl ⟨_, rfl, rfl, (iv_rng v23).1, (iv_rng v23).2, trivial⟩
    · have c3 := iv_nlt (X := x0.toInt) (Y := v2.toInt) c3 rfl rfl
      refine pv_sipush (M := mX12_book) (v := (-1000)) dX12_book_12 15 rfl (by decide) ?_
      exact pv_iret (M := mX12_book) dX12_book_15 rfl rfl ⟨_, rfl, rfl, by decide, by decide, trivial⟩
