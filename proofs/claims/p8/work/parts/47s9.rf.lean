set_option maxHeartbeats 2000000 in
set_option maxRecDepth 20000 in
theorem s_X12_reckon_vz (g : pv_G) {T : List mv_T} {m : Nat → Nat → Int32} {n : Nat → Nat → Int64} {r : Nat → Value} (hT : TX T) (I : IV BB m) (x0 : Int32) (x1 : Int32) (x2 : Int32) (hp0 : (x0.toInt = 5 ∨ x0.toInt = 6) → x2.toInt ≠ 0) : PM g mX12_reckon yX12_reckon (sqP (mk T m n r) (-2147483648) 2147483647 (fun v => v = jnv (opc x0.toInt) x1 x2)) 1 0 0 [.int x0, .int x1, .int x2] (mk T m n r) := by
  have Kp : fr (wl []) m m := fr.rf
  refine PM.of 0 (lo := [.int x0, .int x1, .int x2]) rfl (by decide) rfl rfl (Nat.le_of_ble_eq_true rfl) ?_
  refine pv_iload_n (M := mX12_reckon) 0 dX12_reckon_0 1 rfl rfl rfl ?_
  by_cases c1 : x0.toInt = 2
  · refine iv_tabIn (M := mX12_reckon) (X := 2) (off := 43) (tgt := 44) dX12_reckon_1 c1 (by decide) (by decide) (by decide) (by decide) ?_
    refine pv_iload_n (M := mX12_reckon) 1 dX12_reckon_44 45 rfl rfl rfl ?_
    refine pv_iload_n (M := mX12_reckon) 2 dX12_reckon_45 46 rfl rfl rfl ?_
    refine iv_addU (M := mX12_reckon) dX12_reckon_46 47 rfl (fun v2 ev2 => ?_)
    exact pv_iret (M := mX12_reckon) dX12_reckon_47 rfl rfl ⟨_, rfl, rfl, (iv_rng v2).1, (iv_rng v2).2, (by rw [opc_2 (by omega), jnv_add rfl]; exact ev2)⟩
  by_cases c3 : x0.toInt = 3
  · refine iv_tabIn (M := mX12_reckon) (X := 3) (off := 47) (tgt := 48) dX12_reckon_1 c3 (by decide) (by decide) (by decide) (by decide) ?_
    refine pv_iload_n (M := mX12_reckon) 1 dX12_reckon_48 49 rfl rfl rfl ?_
    refine pv_iload_n (M := mX12_reckon) 2 dX12_reckon_49 50 rfl rfl rfl ?_
    refine iv_subU (M := mX12_reckon) dX12_reckon_50 51 rfl (fun v4 ev4 => ?_)
    exact pv_iret (M := mX12_reckon) dX12_reckon_51 rfl rfl ⟨_, rfl, rfl, (iv_rng v4).1, (iv_rng v4).2, (by rw [opc_3 (by omega), jnv_sub rfl]; exact ev4)⟩
  by_cases c5 : x0.toInt = 4
  · refine iv_tabIn (M := mX12_reckon) (X := 4) (off := 51) (tgt := 52) dX12_reckon_1 c5 (by decide) (by decide) (by decide) (by decide) ?_
    refine pv_iload_n (M := mX12_reckon) 1 dX12_reckon_52 53 rfl rfl rfl ?_
    refine pv_iload_n (M := mX12_reckon) 2 dX12_reckon_53 54 rfl rfl rfl ?_
    refine iv_mulU (M := mX12_reckon) dX12_reckon_54 55 rfl (fun v6 ev6 => ?_)
    exact pv_iret (M := mX12_reckon) dX12_reckon_55 rfl rfl ⟨_, rfl, rfl, (iv_rng v6).1, (iv_rng v6).2, (by rw [opc_4 (by omega), jnv_mul rfl]; exact ev6)⟩
  by_cases c7 : x0.toInt = 5
  · refine iv_tabIn (M := mX12_reckon) (X := 5) (off := 55) (tgt := 56) dX12_reckon_1 c7 (by decide) (by decide) (by decide) (by decide) ?_
    refine pv_iload_n (M := mX12_reckon) 1 dX12_reckon_56 57 rfl rfl rfl ?_
    refine pv_iload_n (M := mX12_reckon) 2 dX12_reckon_57 58 rfl rfl rfl ?_
    refine iv_divU (M := mX12_reckon) (Y := x2.toInt) dX12_reckon_58 59 rfl rfl (by omega) (fun v8 ev8 => ?_)
    exact pv_iret (M := mX12_reckon) dX12_reckon_59 rfl rfl ⟨_, rfl, rfl, (iv_rng v8).1, (iv_rng v8).2, (by rw [opc_5 (by omega), jnv_div rfl]; exact ev8)⟩
  by_cases c9 : x0.toInt = 6
  · refine iv_tabIn (M := mX12_reckon) (X := 6) (off := 59) (tgt := 60) dX12_reckon_1 c9 (by decide) (by decide) (by decide) (by decide) ?_
    refine pv_iload_n (M := mX12_reckon) 1 dX12_reckon_60 61 rfl rfl rfl ?_
    refine pv_iload_n (M := mX12_reckon) 2 dX12_reckon_61 62 rfl rfl rfl ?_
    refine iv_remU (M := mX12_reckon) (Y := x2.toInt) dX12_reckon_62 63 rfl rfl (by omega) (fun v10 ev10 => ?_)
    exact pv_iret (M := mX12_reckon) dX12_reckon_63 rfl rfl ⟨_, rfl, rfl, (iv_rng v10).1, (iv_rng v10).2, (by rw [opc_6 (by omega), jnv_rem rfl]; exact ev10)⟩
  by_cases c11 : x0.toInt = 7
  · refine iv_tabIn (M := mX12_reckon) (X := 7) (off := 63) (tgt := 64) dX12_reckon_1 c11 (by decide) (by decide) (by decide) (by decide) ?_
    refine pv_iload_n (M := mX12_reckon) 1 dX12_reckon_64 65 rfl rfl rfl ?_
    refine pv_iload_n (M := mX12_reckon) 2 dX12_reckon_65 66 rfl rfl rfl ?_
    refine pv_icmp_ge (M := mX12_reckon) (tgt := 73) dX12_reckon_66 69 rfl (by decide) (fun c12 => ?_) (fun c12 => ?_)
    · have c12 := iv_le (X := x2.toInt) (Y := x1.toInt) c12 rfl rfl
      refine pv_iconst (M := mX12_reckon) (v := 0) dX12_reckon_73 74 rfl (by decide) ?_
      have z13 : (0 : Int32).toInt = 0 := by decide
      exact pv_iret (M := mX12_reckon) dX12_reckon_74 rfl rfl ⟨_, rfl, rfl, by decide, by decide, (by rw [opc_7 (by omega), jnv_lt (by decide)]; first | exact b01_1 (i_lt (by omega)) | exact b01_0 (i_nlt (by omega)))⟩
    · have c12 := iv_nle (X := x2.toInt) (Y := x1.toInt) c12 rfl rfl
      refine pv_iconst (M := mX12_reckon) (v := 1) dX12_reckon_69 70 rfl (by decide) ?_
      refine pv_goto (M := mX12_reckon) (tgt := 74) dX12_reckon_70 (by decide) ?_
      have z14 : (1 : Int32).toInt = 1 := by decide
      exact pv_iret (M := mX12_reckon) dX12_reckon_74 rfl rfl ⟨_, rfl, rfl, by decide, by decide, (by rw [opc_7 (by omega), jnv_lt (by decide)]; first | exact b01_1 (i_lt (by omega)) | exact b01_0 (i_nlt (by omega)))⟩
  by_cases c15 : x0.toInt = 8
  · refine iv_tabIn (M := mX12_reckon) (X := 8) (off := 74) (tgt := 75) dX12_reckon_1 c15 (by decide) (by decide) (by decide) (by decide) ?_
    refine pv_iload_n (M := mX12_reckon) 1 dX12_reckon_75 76 rfl rfl rfl ?_
    refine pv_iload_n (M := mX12_reckon) 2 dX12_reckon_76 77 rfl rfl rfl ?_
    refine pv_icmp_le (M := mX12_reckon) (tgt := 84) dX12_reckon_77 80 rfl (by decide) (fun c16 => ?_) (fun c16 => ?_)
    · have c16 := iv_le (X := x1.toInt) (Y := x2.toInt) c16 rfl rfl
      refine pv_iconst (M := mX12_reckon) (v := 0) dX12_reckon_84 85 rfl (by decide) ?_
      have z17 : (0 : Int32).toInt = 0 := by decide
      exact pv_iret (M := mX12_reckon) dX12_reckon_85 rfl rfl ⟨_, rfl, rfl, by decide, by decide, (by rw [opc_8 (by omega), jnv_gt (by decide)]; first | exact b01_1 (i_lt (by omega)) | exact b01_0 (i_nlt (by omega)))⟩
    · have c16 := iv_nle (X := x1.toInt) (Y := x2.toInt) c16 rfl rfl
      refine pv_iconst (M := mX12_reckon) (v := 1) dX12_reckon_80 81 rfl (by decide) ?_
      refine pv_goto (M := mX12_reckon) (tgt := 85) dX12_reckon_81 (by decide) ?_
      have z18 : (1 : Int32).toInt = 1 := by decide
      exact pv_iret (M := mX12_reckon) dX12_reckon_85 rfl rfl ⟨_, rfl, rfl, by decide, by decide, (by rw [opc_8 (by omega), jnv_gt (by decide)]; first | exact b01_1 (i_lt (by omega)) | exact b01_0 (i_nlt (by omega)))⟩
  refine pv_tableOut (M := mX12_reckon) (tgt := 86) dX12_reckon_1 (by omega) (by decide) ?_
  refine pv_iload_n (M := mX12_reckon) 1 dX12_reckon_86 87 rfl rfl rfl ?_
  refine pv_iload_n (M := mX12_reckon) 2 dX12_reckon_87 88 rfl rfl rfl ?_
  refine pv_icmp_ne (M := mX12_reckon) (tgt := 95) dX12_reckon_88 91 rfl (by decide) (fun c19 => ?_) (fun c19 => ?_)
  · have c19 := iv_ne (X := x1.toInt) (Y := x2.toInt) c19 rfl rfl
    refine pv_iconst (M := mX12_reckon) (v := 0) dX12_reckon_95 96 rfl (by decide) ?_
    have z20 : (0 : Int32).toInt = 0 := by decide
    exact pv_iret (M := mX12_reckon) dX12_reckon_96 rfl rfl ⟨_, rfl, rfl, by decide, by decide, (by rw [opc_9 (by omega), jnv_eq (by decide)]; first | exact b01_1 (i_eq (by omega)) | exact b01_0 (i_ne (by omega)))⟩
  · have c19 := iv_eq (X := x1.toInt) (Y := x2.toInt) c19 rfl rfl
    refine pv_iconst (M := mX12_reckon) (v := 1) dX12_reckon_91 92 rfl (by decide) ?_
    refine pv_goto (M := mX12_reckon) (tgt := 96) dX12_reckon_92 (by decide) ?_
    have z21 : (1 : Int32).toInt = 1 := by decide
    exact pv_iret (M := mX12_reckon) dX12_reckon_96 rfl rfl ⟨_, rfl, rfl, by decide, by decide, (by rw [opc_9 (by omega), jnv_eq (by decide)]; first | exact b01_1 (i_eq (by omega)) | exact b01_0 (i_ne (by omega)))⟩

set_option maxHeartbeats 2000000 in
set_option maxRecDepth 20000 in
theorem s_X12_comesTo_vz (g : pv_G) {T : List mv_T} {m : Nat → Nat → Int32} {n : Nat → Nat → Int64} {r : Nat → Value} (hT : TX T) (I : IV BB m) (x0 : Int32) (hl0 : 0 ≤ x0.toInt) (hh0 : x0.toInt ≤ 180) (x1 : Int32) (hl1 : 0 ≤ x1.toInt) (hh1 : x1.toInt ≤ 180) (hp0 : WFc (m 136) x0.toInt.toNat x1.toInt.toNat) (hp1 : x0.toInt ≤ 179) : PM g mX12_comesTo yX12_comesTo (sqI T BB (wl [(141, 141, none)]) r m (-2147483648) 2147483647 (fun m' v => RKR (er (m 136) (frn m) x1.toInt.toNat x0.toInt.toNat []) v)) 2 0 0 [.ref 123, .int x0, .int x1] (mk T m n r) := by
  have Kp : fr (wl [(141, 141, none)]) m m := fr.rf
  refine PM.of 5 (lo := [.ref 123, .int x0, .int x1, pv_U, pv_U, pv_U, pv_U, pv_U]) rfl (by decide) rfl rfl (Nat.le_of_ble_eq_true rfl) ?_
  obtain ⟨H, H0, HK⟩ := hp0
  refine pv_iconst (M := mX12_comesTo) (v := 0) dX12_comesTo_0 1 rfl (by decide) ?_
  refine pv_istore_n (M := mX12_comesTo) 3 (lo2 := [.ref 123, .int x0, .int x1, .int 0, pv_U, pv_U, pv_U, pv_U]) dX12_comesTo_1 2 rfl rfl (by decide) rfl rfl ?_
  refine pv_sipush (M := mX12_comesTo) (v := 180) dX12_comesTo_2 5 rfl (by decide) ?_
  refine pv_iload_n (M := mX12_comesTo) 1 dX12_comesTo_5 6 rfl rfl rfl ?_
  refine pv_sipush (M := mX12_comesTo) (v := 180) dX12_comesTo_6 9 rfl (by decide) ?_
  refine iv_idiv (M := mX12_comesTo) (X := x0.toInt) (Y := 180) dX12_comesTo_9 10 rfl rfl (by decide) (by omega) (by omega) (fun v2 ev2 => ?_)
  refine iv_imul (M := mX12_comesTo) (X := 180) (Y := v2.toInt) dX12_comesTo_10 11 rfl (by decide) rfl (by omega) (by omega) (fun v3 ev3 => ?_)
  refine pv_istore (M := mX12_comesTo) (lo2 := [.ref 123, .int x0, .int x1, .int 0, .int v3, pv_U, pv_U, pv_U]) dX12_comesTo_11 13 rfl (by decide) rfl rfl ?_
  refine pv_iload_n (M := mX12_comesTo) 1 dX12_comesTo_13 14 rfl rfl rfl ?_
  refine pv_istore (M := mX12_comesTo) (lo2 := [.ref 123, .int x0, .int x1, .int 0, .int v3, .int x0, pv_U, pv_U]) dX12_comesTo_14 16 rfl (by decide) rfl rfl ?_
  have lp11 : ∀ (fuel10 : Nat) (y4 : Int32) (y5 : Int32) (m6 : Nat → Nat → Int32) (n7 : Nat → Nat → Int64), (0 ≤ y4.toInt) → (y4.toInt ≤ 180) → (0 ≤ y5.toInt) → (y5.toInt ≤ 180) → (x0.toInt ≤ y5.toInt) → (y4.toInt ≤ y5.toInt) → (H y5.toInt.toNat ≤ y4.toInt) → (ERR m m6 x1.toInt.toNat x0.toInt.toNat y5.toInt.toNat y4.toInt) → IV BB m6 → fr (wl [(141, 141, none)]) m m6 → ((180 - y5.toInt) : Int).toNat < fuel10 → PV none g mX12_comesTo (sqI T BB (wl [(141, 141, none)]) r m (-2147483648) 2147483647 (fun m' v => RKR (er (m 136) (frn m) x1.toInt.toNat x0.toInt.toNat []) v)) 2 0 0 16 [.ref 123, .int x0, .int x1, .int y4, .int v3, .int y5, pv_U, pv_U] [] (mk T m6 n7 r) := by
    intro fuel10
    induction fuel10 with
    | zero => intro y4 y5 m6 n7 b13 b14 b15 b16 b17 b18 b19 b20 I8 K9 z21; omega
    | succ fuel10 ih12 =>
      intro y4 y5 m6 n7 b13 b14 b15 b16 b17 b18 b19 b20 I8 K9 z21
      have kge := (show ERR m m6 x1.toInt.toNat x0.toInt.toNat y5.toInt.toNat y4.toInt by assumption)
      refine pv_iload (M := mX12_comesTo) dX12_comesTo_16 18 rfl rfl ?_
      refine pv_iload_n (M := mX12_comesTo) 2 dX12_comesTo_18 19 rfl rfl rfl ?_
      refine pv_icmp_ge (M := mX12_comesTo) (tgt := 233) dX12_comesTo_19 22 rfl (by decide) (fun c23 => ?_) (fun c23 => ?_)
      · have c23 := iv_le (X := x1.toInt) (Y := y5.toInt) c23 rfl rfl
        refine pv_aload_n (M := mX12_comesTo) 0 dX12_comesTo_233 234 rfl rfl rfl ?_
        refine mv_get (M := mX12_comesTo) (v := .ref 141) dX12_comesTo_234 FX12 32 wd1205 (by decide) (tl123 hT) rfl rfl 237 rfl ?_
        refine pv_iconst (M := mX12_comesTo) (v := 0) dX12_comesTo_237 238 rfl (by decide) ?_
        refine iv_iald (M := mX12_comesTo) (X := 0) (l1 := (-2147483648)) (l2 := 2147483647) dX12_comesTo_238 (tl141 hT) (by decide) (by omega) (by omega) I8 (fun _ => rfl) 239 rfl (fun v24 ev24 pv24 qv24 => ?_)
        exact pv_iret (M := mX12_comesTo) dX12_comesTo_239 rfl rfl ⟨_, _, _, rfl, rfl, I8, K9, (iv_rng v24).1, (iv_rng v24).2, (ERR_e kge (by omega) ev24)⟩
      · have c23 := iv_nle (X := x1.toInt) (Y := y5.toInt) c23 rfl rfl
        have kk := HK y5.toInt.toNat (by omega) (by omega)
        unfold ifv at kk
        refine pv_aload_n (M := mX12_comesTo) 0 dX12_comesTo_22 23 rfl rfl rfl ?_
        refine mv_get (M := mX12_comesTo) (v := .ref 136) dX12_comesTo_23 FX12 27 wd1200 (by decide) (tl123 hT) rfl rfl 26 rfl ?_
        refine pv_iload (M := mX12_comesTo) dX12_comesTo_26 28 rfl rfl ?_
        refine iv_iald (M := mX12_comesTo) (X := y5.toInt) (l1 := 0) (l2 := 13631487) dX12_comesTo_28 (tl136 hT) rfl (by omega) (by omega) I8 (fun _ => rfl) 29 rfl (fun v27 ev27 pv27 qv27 => ?_)
        have k29 : v27.toInt = (m 136 y5.toInt.toNat).toInt := congrArg Int32.toInt (ev27.trans (K9 136 _ rfl))
        refine pv_ldc (M := mX12_comesTo) (v := 1048576) dX12_comesTo_29 31 rfl wd1437 ?_
        refine iv_idiv (M := mX12_comesTo) (X := v27.toInt) (Y := 1048576) dX12_comesTo_31 32 rfl rfl (by decide) (by omega) (by omega) (fun v29 ev29 => ?_)
        have k32 : v29.toInt = opv (m 136 y5.toInt.toNat) := by unfold opv; omega
        refine pv_istore (M := mX12_comesTo) (lo2 := [.ref 123, .int x0, .int x1, .int y4, .int v3, .int y5, .int v29, pv_U]) dX12_comesTo_32 34 rfl (by decide) rfl rfl ?_
        refine pv_aload_n (M := mX12_comesTo) 0 dX12_comesTo_34 35 rfl rfl rfl ?_
        refine mv_get (M := mX12_comesTo) (v := .ref 136) dX12_comesTo_35 FX12 27 wd1200 (by decide) (tl123 hT) rfl rfl 38 rfl ?_
        refine pv_iload (M := mX12_comesTo) dX12_comesTo_38 40 rfl rfl ?_
        refine iv_iald (M := mX12_comesTo) (X := y5.toInt) (l1 := 0) (l2 := 13631487) dX12_comesTo_40 (tl136 hT) rfl (by omega) (by omega) I8 (fun _ => rfl) 41 rfl (fun v31 ev31 pv31 qv31 => ?_)
        have k41 : v31.toInt = (m 136 y5.toInt.toNat).toInt := congrArg Int32.toInt (ev31.trans (K9 136 _ rfl))
        refine pv_ldc (M := mX12_comesTo) (v := 1048576) dX12_comesTo_41 43 rfl wd1437 ?_
        refine iv_irem (M := mX12_comesTo) (X := v31.toInt) (Y := 1048576) dX12_comesTo_43 44 rfl rfl (by decide) (by omega) (by omega) (fun v33 ev33 => ?_)
        have k44 : v33.toInt = agv (m 136 y5.toInt.toNat) := by unfold agv; omega
        refine pv_istore (M := mX12_comesTo) (lo2 := [.ref 123, .int x0, .int x1, .int y4, .int v3, .int y5, .int v29, .int v33]) dX12_comesTo_44 46 rfl (by decide) rfl rfl ?_
        refine pv_iload (M := mX12_comesTo) dX12_comesTo_46 48 rfl rfl ?_
        refine pv_iconst (M := mX12_comesTo) (v := 1) dX12_comesTo_48 49 rfl (by decide) ?_
        refine iv_iadd (M := mX12_comesTo) (X := y5.toInt) (Y := 1) dX12_comesTo_49 50 rfl rfl (by decide) (by omega) (by omega) (fun v35 ev35 => ?_)
        refine pv_istore (M := mX12_comesTo) (lo2 := [.ref 123, .int x0, .int x1, .int y4, .int v3, .int v35, .int v29, .int v33]) dX12_comesTo_50 52 rfl (by decide) rfl rfl ?_
        refine pv_iload (M := mX12_comesTo) dX12_comesTo_52 54 rfl rfl ?_
        refine pv_if_eq (M := mX12_comesTo) (tgt := 63) dX12_comesTo_54 57 rfl (by decide) (fun c36 => ?_) (fun c36 => ?_)
        · have c36 := iv_eq (X := v29.toInt) (Y := 0) c36 rfl (by decide)
          refine pv_aload_n (M := mX12_comesTo) 0 dX12_comesTo_63 64 rfl rfl rfl ?_
          refine mv_get (M := mX12_comesTo) (v := .ref 141) dX12_comesTo_64 FX12 32 wd1205 (by decide) (tl123 hT) rfl rfl 67 rfl ?_
          refine pv_iload_n (M := mX12_comesTo) 3 dX12_comesTo_67 68 rfl rfl rfl ?_
          refine pv_iload (M := mX12_comesTo) dX12_comesTo_68 70 rfl rfl ?_
          refine pv_if_ne (M := mX12_comesTo) (tgt := 78) dX12_comesTo_70 73 rfl (by decide) (fun c37 => ?_) (fun c37 => ?_)
          · have c37 := iv_ne (X := v29.toInt) (Y := 0) c37 rfl (by decide)
            omega
          · have c37 := iv_eq (X := v29.toInt) (Y := 0) c37 rfl (by decide)
            refine pv_iload (M := mX12_comesTo) dX12_comesTo_73 75 rfl rfl ?_
            refine pv_goto (M := mX12_comesTo) (tgt := 85) dX12_comesTo_75 (by decide) ?_
            try have k85n : v33.toInt = agv (m 136 (y5.toInt).toNat) := k44
            try have k85f : v33 = m 142 (agv (m 136 (y5.toInt).toNat)).toNat := ev33.trans ((K9 142 _ rfl).trans (by rw [k44]))
            refine iv_iast (M := mX12_comesTo) (X := y4.toInt) (l1 := (-2147483648)) (l2 := 2147483647) dX12_comesTo_85 (tl141 hT) rfl (by omega) (by omega) I8 (fun _ => rfl) (iv_rng v33).1 (iv_rng v33).2 86 rfl (fun m40 e43 I41 => ?_)
            have K42 := K9.set e43 rfl
            refine pv_iload_n (M := mX12_comesTo) 3 dX12_comesTo_86 87 rfl rfl rfl ?_
            refine pv_iconst (M := mX12_comesTo) (v := 1) dX12_comesTo_87 88 rfl (by decide) ?_
            refine iv_iadd (M := mX12_comesTo) (X := y4.toInt) (Y := 1) dX12_comesTo_88 89 rfl rfl (by decide) (by omega) (by omega) (fun v44 ev44 => ?_)
            refine pv_istore_n (M := mX12_comesTo) 3 (lo2 := [.ref 123, .int x0, .int x1, .int v44, .int v3, .int v35, .int v29, .int v33]) dX12_comesTo_89 90 rfl rfl (by decide) rfl rfl ?_
            refine pv_goto (M := mX12_comesTo) (tgt := 230) dX12_comesTo_90 (by decide) ?_
            refine pv_goto (M := mX12_comesTo) (tgt := 16) dX12_comesTo_230 (by decide) ?_
            refine pv_fg (lo2 := [.ref 123, .int x0, .int x1, .int v44, .int v3, .int v35, pv_U, pv_U]) ⟨Or.inr rfl, ⟨Or.inr rfl, ⟨Or.inr rfl, ⟨Or.inr rfl, ⟨Or.inr rfl, ⟨Or.inr rfl, ⟨Or.inl rfl, ⟨Or.inl rfl, trivial⟩⟩⟩⟩⟩⟩⟩⟩ ?_
            have kb : H v35.toInt.toNat ≤ v44.toInt := by first | (rw [show v35.toInt.toNat = (y5.toInt).toNat + 1 by omega]; omega) | (rw [show v35.toInt.toNat = (agv (m 136 (y5.toInt).toNat)).toNat by omega]; omega)
            have kbe : ERR m m40 x1.toInt.toNat x0.toInt.toNat v35.toInt.toNat v44.toInt := by first | exact ERR_num kge (by omega) (by omega) k85n (stR_push e43 (by omega) (by omega) (by omega)) (by omega) | exact ERR_nam kge (by omega) (by omega) (by omega) (by omega) k85f (stR_push e43 (by omega) (by omega) (by omega)) (by omega) | exact ERR_not kge (by omega) (by omega) (by omega) (v := _) (by rw [← k116]; exact k117) (stR_top e43 (by omega) (by omega)) (by omega) | exact ERR_leap (o := 12) kge (by omega) (Or.inr rfl) (by omega) (by omega) (by rw [← k143]; exact i_eq (by rw [if_pos rfl]; show _ = (1 : Int32).toInt; rw [show (1 : Int32).toInt = 1 by decide]; omega)) (by omega) (by omega) | exact ERR_leap (o := 11) kge (by omega) (Or.inl rfl) (by omega) (by omega) (by rw [← k143]; exact i_eq (by rw [if_neg (by decide), Int32.toInt_zero]; omega)) (by omega) (by omega) | exact ERR_stay (o := 12) kge (by omega) (Or.inr rfl) (by omega) (by omega) (by rw [← k143]; exact i_ne (by rw [if_pos rfl, show (1 : Int32).toInt = 1 by decide]; omega)) (by omega) (by omega) | exact ERR_stay (o := 11) kge (by omega) (Or.inl rfl) (by omega) (by omega) (by rw [← k143]; exact i_ne (by rw [if_neg (by decide), Int32.toInt_zero]; omega)) (by omega) (by omega) | exact ERR_op kge (by omega) (by omega) (by omega) (by omega) (fun q => by have q1 := congrArg Int32.toInt q.1; rw [Int32.toInt_zero, ← k226z] at q1; omega) k229 (by rw [show v44.toInt = y4.toInt - 1 by omega]; exact (stR_top (n := y4.toInt - 1) e43 (by omega) (by omega)).trans (by rw [show y4.toInt - 1 - 1 = y4.toInt - 2 by omega])) (by omega)
            exact ih12 v44 v35 m40 n7 (by first | omega | assumption | exact (iv_rng _).2 | exact (iv_rng _).1 | decide) (by first | omega | assumption | exact (iv_rng _).2 | exact (iv_rng _).1 | decide) (by first | omega | assumption | exact (iv_rng _).2 | exact (iv_rng _).1 | decide) (by first | omega | assumption | exact (iv_rng _).2 | exact (iv_rng _).1 | decide) (by first | omega | assumption | (show x0.toInt ≤ v35.toInt; omega) | decide) (by first | omega | assumption | (show v44.toInt ≤ v35.toInt; omega) | decide) kb kbe I41 K42 (by omega)
        · have c36 := iv_ne (X := v29.toInt) (Y := 0) c36 rfl (by decide)
          refine pv_iload (M := mX12_comesTo) dX12_comesTo_57 59 rfl rfl ?_
          refine pv_iconst (M := mX12_comesTo) (v := 1) dX12_comesTo_59 60 rfl (by decide) ?_
          refine pv_icmp_ne (M := mX12_comesTo) (tgt := 93) dX12_comesTo_60 63 rfl (by decide) (fun c47 => ?_) (fun c47 => ?_)
          · have c47 := iv_ne (X := v29.toInt) (Y := 1) c47 rfl (by decide)
            refine pv_iload (M := mX12_comesTo) dX12_comesTo_93 95 rfl rfl ?_
            refine pv_bipush (M := mX12_comesTo) (v := 10) dX12_comesTo_95 97 rfl (by decide) ?_
            refine pv_icmp_ne (M := mX12_comesTo) (tgt := 121) dX12_comesTo_97 100 rfl (by decide) (fun c48 => ?_) (fun c48 => ?_)
            · have c48 := iv_ne (X := v29.toInt) (Y := 10) c48 rfl (by decide)
              refine pv_iload (M := mX12_comesTo) dX12_comesTo_121 123 rfl rfl ?_
              refine pv_bipush (M := mX12_comesTo) (v := 11) dX12_comesTo_123 125 rfl (by decide) ?_
              refine pv_icmp_eq (M := mX12_comesTo) (tgt := 135) dX12_comesTo_125 128 rfl (by decide) (fun c49 => ?_) (fun c49 => ?_)
              · have c49 := iv_eq (X := v29.toInt) (Y := 11) c49 rfl (by decide)
                refine pv_aload_n (M := mX12_comesTo) 0 dX12_comesTo_135 136 rfl rfl rfl ?_
                refine mv_get (M := mX12_comesTo) (v := .ref 141) dX12_comesTo_136 FX12 32 wd1205 (by decide) (tl123 hT) rfl rfl 139 rfl ?_
                refine pv_iload_n (M := mX12_comesTo) 3 dX12_comesTo_139 140 rfl rfl rfl ?_
                refine pv_iconst (M := mX12_comesTo) (v := 1) dX12_comesTo_140 141 rfl (by decide) ?_
                refine iv_isub (M := mX12_comesTo) (X := y4.toInt) (Y := 1) dX12_comesTo_141 142 rfl rfl (by decide) (by omega) (by omega) (fun v50 ev50 => ?_)
                refine iv_iald (M := mX12_comesTo) (X := v50.toInt) (l1 := (-2147483648)) (l2 := 2147483647) dX12_comesTo_142 (tl141 hT) rfl (by omega) (by omega) I8 (fun _ => rfl) 143 rfl (fun v51 ev51 pv51 qv51 => ?_)
                have k143 : v51 = m6 141 (y4.toInt - 1).toNat := ev51.trans (congrArg (fun z => m6 141 z) (by omega))
                refine pv_iload (M := mX12_comesTo) dX12_comesTo_143 145 rfl rfl ?_
                refine pv_bipush (M := mX12_comesTo) (v := 12) dX12_comesTo_145 147 rfl (by decide) ?_
                refine pv_icmp_ne (M := mX12_comesTo) (tgt := 154) dX12_comesTo_147 150 rfl (by decide) (fun c53 => ?_) (fun c53 => ?_)
                · have c53 := iv_ne (X := v29.toInt) (Y := 12) c53 rfl (by decide)
                  refine pv_iconst (M := mX12_comesTo) (v := 0) dX12_comesTo_154 155 rfl (by decide) ?_
                  refine pv_icmp_ne (M := mX12_comesTo) (tgt := 168) dX12_comesTo_155 158 rfl (by decide) (fun c54 => ?_) (fun c54 => ?_)
                  · have c54 := iv_ne (X := v51.toInt) (Y := 0) c54 rfl (by decide)
                    refine pv_iload_n (M := mX12_comesTo) 3 dX12_comesTo_168 169 rfl rfl rfl ?_
                    refine pv_iconst (M := mX12_comesTo) (v := 1) dX12_comesTo_169 170 rfl (by decide) ?_
                    refine iv_isub (M := mX12_comesTo) (X := y4.toInt) (Y := 1) dX12_comesTo_170 171 rfl rfl (by decide) (by omega) (by omega) (fun v55 ev55 => ?_)
                    refine pv_istore_n (M := mX12_comesTo) 3 (lo2 := [.ref 123, .int x0, .int x1, .int v55, .int v3, .int v35, .int v29, .int v33]) dX12_comesTo_171 172 rfl rfl (by decide) rfl rfl ?_
                    refine pv_goto (M := mX12_comesTo) (tgt := 230) dX12_comesTo_172 (by decide) ?_
                    refine pv_goto (M := mX12_comesTo) (tgt := 16) dX12_comesTo_230 (by decide) ?_
                    refine pv_fg (lo2 := [.ref 123, .int x0, .int x1, .int v55, .int v3, .int v35, pv_U, pv_U]) ⟨Or.inr rfl, ⟨Or.inr rfl, ⟨Or.inr rfl, ⟨Or.inr rfl, ⟨Or.inr rfl, ⟨Or.inr rfl, ⟨Or.inl rfl, ⟨Or.inl rfl, trivial⟩⟩⟩⟩⟩⟩⟩⟩ ?_
                    have kb : H v35.toInt.toNat ≤ v55.toInt := by first | (rw [show v35.toInt.toNat = (y5.toInt).toNat + 1 by omega]; omega) | (rw [show v35.toInt.toNat = (agv (m 136 (y5.toInt).toNat)).toNat by omega]; omega)
                    have kbe : ERR m m6 x1.toInt.toNat x0.toInt.toNat v35.toInt.toNat v55.toInt := by first | exact ERR_num kge (by omega) (by omega) k85n (stR_push noE (by omega) (by omega) (by omega)) (by omega) | exact ERR_nam kge (by omega) (by omega) (by omega) (by omega) k85f (stR_push noE (by omega) (by omega) (by omega)) (by omega) | exact ERR_not kge (by omega) (by omega) (by omega) (v := _) (by rw [← k116]; exact k117) (stR_top noE (by omega) (by omega)) (by omega) | exact ERR_leap (o := 12) kge (by omega) (Or.inr rfl) (by omega) (by omega) (by rw [← k143]; exact i_eq (by rw [if_pos rfl]; show _ = (1 : Int32).toInt; rw [show (1 : Int32).toInt = 1 by decide]; omega)) (by omega) (by omega) | exact ERR_leap (o := 11) kge (by omega) (Or.inl rfl) (by omega) (by omega) (by rw [← k143]; exact i_eq (by rw [if_neg (by decide), Int32.toInt_zero]; omega)) (by omega) (by omega) | exact ERR_stay (o := 12) kge (by omega) (Or.inr rfl) (by omega) (by omega) (by rw [← k143]; exact i_ne (by rw [if_pos rfl, show (1 : Int32).toInt = 1 by decide]; omega)) (by omega) (by omega) | exact ERR_stay (o := 11) kge (by omega) (Or.inl rfl) (by omega) (by omega) (by rw [← k143]; exact i_ne (by rw [if_neg (by decide), Int32.toInt_zero]; omega)) (by omega) (by omega) | exact ERR_op kge (by omega) (by omega) (by omega) (by omega) (fun q => by have q1 := congrArg Int32.toInt q.1; rw [Int32.toInt_zero, ← k226z] at q1; omega) k229 (by rw [show v55.toInt = y4.toInt - 1 by omega]; exact (stR_top (n := y4.toInt - 1) noE (by omega) (by omega)).trans (by rw [show y4.toInt - 1 - 1 = y4.toInt - 2 by omega])) (by omega)
                    exact ih12 v55 v35 m6 n7 (by first | omega | assumption | exact (iv_rng _).2 | exact (iv_rng _).1 | decide) (by first | omega | assumption | exact (iv_rng _).2 | exact (iv_rng _).1 | decide) (by first | omega | assumption | exact (iv_rng _).2 | exact (iv_rng _).1 | decide) (by first | omega | assumption | exact (iv_rng _).2 | exact (iv_rng _).1 | decide) (by first | omega | assumption | (show x0.toInt ≤ v35.toInt; omega) | decide) (by first | omega | assumption | (show v55.toInt ≤ v35.toInt; omega) | decide) kb kbe I8 K9 (by omega)
                  · have c54 := iv_eq (X := v51.toInt) (Y := 0) c54 rfl (by decide)
                    refine pv_iload (M := mX12_comesTo) dX12_comesTo_158 160 rfl rfl ?_
                    refine pv_iload (M := mX12_comesTo) dX12_comesTo_160 162 rfl rfl ?_
                    refine iv_iadd (M := mX12_comesTo) (X := v3.toInt) (Y := v33.toInt) dX12_comesTo_162 163 rfl rfl rfl (by omega) (by omega) (fun v58 ev58 => ?_)
                    refine pv_istore (M := mX12_comesTo) (lo2 := [.ref 123, .int x0, .int x1, .int y4, .int v3, .int v58, .int v29, .int v33]) dX12_comesTo_163 165 rfl (by decide) rfl rfl ?_
                    refine pv_goto (M := mX12_comesTo) (tgt := 230) dX12_comesTo_165 (by decide) ?_
                    refine pv_goto (M := mX12_comesTo) (tgt := 16) dX12_comesTo_230 (by decide) ?_
                    refine pv_fg (lo2 := [.ref 123, .int x0, .int x1, .int y4, .int v3, .int v58, pv_U, pv_U]) ⟨Or.inr rfl, ⟨Or.inr rfl, ⟨Or.inr rfl, ⟨Or.inr rfl, ⟨Or.inr rfl, ⟨Or.inr rfl, ⟨Or.inl rfl, ⟨Or.inl rfl, trivial⟩⟩⟩⟩⟩⟩⟩⟩ ?_
                    have kb : H v58.toInt.toNat ≤ y4.toInt := by first | (rw [show v58.toInt.toNat = (y5.toInt).toNat + 1 by omega]; omega) | (rw [show v58.toInt.toNat = (agv (m 136 (y5.toInt).toNat)).toNat by omega]; omega)
                    have kbe : ERR m m6 x1.toInt.toNat x0.toInt.toNat v58.toInt.toNat y4.toInt := by first | exact ERR_num kge (by omega) (by omega) k85n (stR_push noE (by omega) (by omega) (by omega)) (by omega) | exact ERR_nam kge (by omega) (by omega) (by omega) (by omega) k85f (stR_push noE (by omega) (by omega) (by omega)) (by omega) | exact ERR_not kge (by omega) (by omega) (by omega) (v := _) (by rw [← k116]; exact k117) (stR_top noE (by omega) (by omega)) (by omega) | exact ERR_leap (o := 12) kge (by omega) (Or.inr rfl) (by omega) (by omega) (by rw [← k143]; exact i_eq (by rw [if_pos rfl]; show _ = (1 : Int32).toInt; rw [show (1 : Int32).toInt = 1 by decide]; omega)) (by omega) (by omega) | exact ERR_leap (o := 11) kge (by omega) (Or.inl rfl) (by omega) (by omega) (by rw [← k143]; exact i_eq (by rw [if_neg (by decide), Int32.toInt_zero]; omega)) (by omega) (by omega) | exact ERR_stay (o := 12) kge (by omega) (Or.inr rfl) (by omega) (by omega) (by rw [← k143]; exact i_ne (by rw [if_pos rfl, show (1 : Int32).toInt = 1 by decide]; omega)) (by omega) (by omega) | exact ERR_stay (o := 11) kge (by omega) (Or.inl rfl) (by omega) (by omega) (by rw [← k143]; exact i_ne (by rw [if_neg (by decide), Int32.toInt_zero]; omega)) (by omega) (by omega) | exact ERR_op kge (by omega) (by omega) (by omega) (by omega) (fun q => by have q1 := congrArg Int32.toInt q.1; rw [Int32.toInt_zero, ← k226z] at q1; omega) k229 (by rw [show y4.toInt = y4.toInt - 1 by omega]; exact (stR_top (n := y4.toInt - 1) noE (by omega) (by omega)).trans (by rw [show y4.toInt - 1 - 1 = y4.toInt - 2 by omega])) (by omega)
                    exact ih12 y4 v58 m6 n7 (by first | omega | assumption | exact (iv_rng _).2 | exact (iv_rng _).1 | decide) (by first | omega | assumption | exact (iv_rng _).2 | exact (iv_rng _).1 | decide) (by first | omega | assumption | exact (iv_rng _).2 | exact (iv_rng _).1 | decide) (by first | omega | assumption | exact (iv_rng _).2 | exact (iv_rng _).1 | decide) (by first | omega | assumption | (show x0.toInt ≤ v58.toInt; omega) | decide) (by first | omega | assumption | (show y4.toInt ≤ v58.toInt; omega) | decide) kb kbe I8 K9 (by omega)
                · have c53 := iv_eq (X := v29.toInt) (Y := 12) c53 rfl (by decide)
                  omega
              · have c49 := iv_ne (X := v29.toInt) (Y := 11) c49 rfl (by decide)
                refine pv_iload (M := mX12_comesTo) dX12_comesTo_128 130 rfl rfl ?_
                refine pv_bipush (M := mX12_comesTo) (v := 12) dX12_comesTo_130 132 rfl (by decide) ?_
                refine pv_icmp_ne (M := mX12_comesTo) (tgt := 175) dX12_comesTo_132 135 rfl (by decide) (fun c61 => ?_) (fun c61 => ?_)
                · have c61 := iv_ne (X := v29.toInt) (Y := 12) c61 rfl (by decide)
                  refine pv_iload_n (M := mX12_comesTo) 3 dX12_comesTo_175 176 rfl rfl rfl ?_
                  refine pv_iconst (M := mX12_comesTo) (v := 1) dX12_comesTo_176 177 rfl (by decide) ?_
                  refine iv_isub (M := mX12_comesTo) (X := y4.toInt) (Y := 1) dX12_comesTo_177 178 rfl rfl (by decide) (by omega) (by omega) (fun v62 ev62 => ?_)
                  refine pv_istore_n (M := mX12_comesTo) 3 (lo2 := [.ref 123, .int x0, .int x1, .int v62, .int v3, .int v35, .int v29, .int v33]) dX12_comesTo_178 179 rfl rfl (by decide) rfl rfl ?_
                  refine pv_iload (M := mX12_comesTo) dX12_comesTo_179 181 rfl rfl ?_
                  refine pv_iconst (M := mX12_comesTo) (v := 5) dX12_comesTo_181 182 rfl (by decide) ?_
                  refine pv_icmp_eq (M := mX12_comesTo) (tgt := 192) dX12_comesTo_182 185 rfl (by decide) (fun c63 => ?_) (fun c63 => ?_)
                  · have c63 := iv_eq (X := v29.toInt) (Y := 5) c63 rfl (by decide)
                    refine pv_aload_n (M := mX12_comesTo) 0 dX12_comesTo_192 193 rfl rfl rfl ?_
                    refine mv_get (M := mX12_comesTo) (v := .ref 141) dX12_comesTo_193 FX12 32 wd1205 (by decide) (tl123 hT) rfl rfl 196 rfl ?_
                    refine pv_iload_n (M := mX12_comesTo) 3 dX12_comesTo_196 197 rfl rfl rfl ?_
                    refine iv_iald (M := mX12_comesTo) (X := v62.toInt) (l1 := (-2147483648)) (l2 := 2147483647) dX12_comesTo_197 (tl141 hT) rfl (by omega) (by omega) I8 (fun _ => rfl) 198 rfl (fun v64 ev64 pv64 qv64 => ?_)
                    have kf := ev64
                    have k198 : v64 = m6 141 (y4.toInt - 1).toNat := ev64.trans (congrArg (fun z => m6 141 z) (by omega))
                    refine pv_if_ne (M := mX12_comesTo) (tgt := 203) dX12_comesTo_198 201 rfl (by decide) (fun c67 => ?_) (fun c67 => ?_)
                    · have c67 := iv_ne (X := v64.toInt) (Y := 0) c67 rfl (by decide)
                      refine pv_aload_n (M := mX12_comesTo) 0 dX12_comesTo_203 204 rfl rfl rfl ?_
                      refine mv_get (M := mX12_comesTo) (v := .ref 141) dX12_comesTo_204 FX12 32 wd1205 (by decide) (tl123 hT) rfl rfl 207 rfl ?_
                      refine pv_iload_n (M := mX12_comesTo) 3 dX12_comesTo_207 208 rfl rfl rfl ?_
                      refine pv_iconst (M := mX12_comesTo) (v := 1) dX12_comesTo_208 209 rfl (by decide) ?_
                      refine iv_isub (M := mX12_comesTo) (X := v62.toInt) (Y := 1) dX12_comesTo_209 210 rfl rfl (by decide) (by omega) (by omega) (fun v68 ev68 => ?_)
                      refine pv_iload (M := mX12_comesTo) dX12_comesTo_210 212 rfl rfl ?_
                      refine pv_aload_n (M := mX12_comesTo) 0 dX12_comesTo_212 213 rfl rfl rfl ?_
                      refine mv_get (M := mX12_comesTo) (v := .ref 141) dX12_comesTo_213 FX12 32 wd1205 (by decide) (tl123 hT) rfl rfl 216 rfl ?_
                      refine pv_iload_n (M := mX12_comesTo) 3 dX12_comesTo_216 217 rfl rfl rfl ?_
                      refine pv_iconst (M := mX12_comesTo) (v := 1) dX12_comesTo_217 218 rfl (by decide) ?_
                      refine iv_isub (M := mX12_comesTo) (X := v62.toInt) (Y := 1) dX12_comesTo_218 219 rfl rfl (by decide) (by omega) (by omega) (fun v69 ev69 => ?_)
                      refine iv_iald (M := mX12_comesTo) (X := v69.toInt) (l1 := (-2147483648)) (l2 := 2147483647) dX12_comesTo_219 (tl141 hT) rfl (by omega) (by omega) I8 (fun _ => rfl) 220 rfl (fun v70 ev70 pv70 qv70 => ?_)
                      have k220 : v70 = m6 141 (y4.toInt - 2).toNat := ev70.trans (congrArg (fun z => m6 141 z) (by omega))
                      refine pv_aload_n (M := mX12_comesTo) 0 dX12_comesTo_220 221 rfl rfl rfl ?_
                      refine mv_get (M := mX12_comesTo) (v := .ref 141) dX12_comesTo_221 FX12 32 wd1205 (by decide) (tl123 hT) rfl rfl 224 rfl ?_
                      refine pv_iload_n (M := mX12_comesTo) 3 dX12_comesTo_224 225 rfl rfl rfl ?_
                      refine iv_iald (M := mX12_comesTo) (X := v62.toInt) (l1 := (-2147483648)) (l2 := 2147483647) dX12_comesTo_225 (tl141 hT) rfl (by omega) (by omega) I8 (fun _ => rfl) 226 rfl (fun v72 ev72 pv72 qv72 => ?_)
                      try have k226 := congrArg Int32.toInt (ev72.trans kf.symm)
                      have k226z : v72 = m6 141 (y4.toInt - 1).toNat := ev72.trans (congrArg (fun z => m6 141 z) (by omega))
                      refine pv_calls (M := mX12_comesTo) (as := [.int v29, .int v70, .int v72]) (st := [.int v68, .ref 141]) (kc2 := 0) (ks2 := 0) dX12_comesTo_226 wd1519 YX12_reckon wd1520 (s_X12_reckon_vz g hT I8 v29 v70 v72 (by first | omega | assumption | exact (iv_rng _).2 | exact (iv_rng _).1 | decide)) rfl rfl (Nat.le_of_ble_eq_true rfl) (by decide) rfl rfl 229 rfl (fun rv h1 q75 => ?_)
                      obtain ⟨v76, rfl, rfl, pv76, qv76, rv76⟩ := q75
                      replace rv76 : v76 = jnv (opc v29.toInt) v70 v72 := rv76
                      show PV _ _ _ _ _ _ _ 229 [.ref 123, .int x0, .int x1, .int v62, .int v3, .int v35, .int v29, .int v33] [.int v76, .int v68, .ref 141] _
                      have k229 := rv76
                      rw [k220, k226z, k32] at k229
                      refine iv_iast (M := mX12_comesTo) (X := v68.toInt) (l1 := (-2147483648)) (l2 := 2147483647) dX12_comesTo_229 (tl141 hT) rfl (by omega) (by omega) I8 (fun _ => rfl) (iv_rng v76).1 (iv_rng v76).2 230 rfl (fun m79 e82 I80 => ?_)
                      have K81 := K9.set e82 rfl
                      refine pv_goto (M := mX12_comesTo) (tgt := 16) dX12_comesTo_230 (by decide) ?_
                      refine pv_fg (lo2 := [.ref 123, .int x0, .int x1, .int v62, .int v3, .int v35, pv_U, pv_U]) ⟨Or.inr rfl, ⟨Or.inr rfl, ⟨Or.inr rfl, ⟨Or.inr rfl, ⟨Or.inr rfl, ⟨Or.inr rfl, ⟨Or.inl rfl, ⟨Or.inl rfl, trivial⟩⟩⟩⟩⟩⟩⟩⟩ ?_
                      have kb : H v35.toInt.toNat ≤ v62.toInt := by first | (rw [show v35.toInt.toNat = (y5.toInt).toNat + 1 by omega]; omega) | (rw [show v35.toInt.toNat = (agv (m 136 (y5.toInt).toNat)).toNat by omega]; omega)
                      have kbe : ERR m m79 x1.toInt.toNat x0.toInt.toNat v35.toInt.toNat v62.toInt := by first | exact ERR_num kge (by omega) (by omega) k85n (stR_push e82 (by omega) (by omega) (by omega)) (by omega) | exact ERR_nam kge (by omega) (by omega) (by omega) (by omega) k85f (stR_push e82 (by omega) (by omega) (by omega)) (by omega) | exact ERR_not kge (by omega) (by omega) (by omega) (v := _) (by rw [← k116]; exact k117) (stR_top e82 (by omega) (by omega)) (by omega) | exact ERR_leap (o := 12) kge (by omega) (Or.inr rfl) (by omega) (by omega) (by rw [← k143]; exact i_eq (by rw [if_pos rfl]; show _ = (1 : Int32).toInt; rw [show (1 : Int32).toInt = 1 by decide]; omega)) (by omega) (by omega) | exact ERR_leap (o := 11) kge (by omega) (Or.inl rfl) (by omega) (by omega) (by rw [← k143]; exact i_eq (by rw [if_neg (by decide), Int32.toInt_zero]; omega)) (by omega) (by omega) | exact ERR_stay (o := 12) kge (by omega) (Or.inr rfl) (by omega) (by omega) (by rw [← k143]; exact i_ne (by rw [if_pos rfl, show (1 : Int32).toInt = 1 by decide]; omega)) (by omega) (by omega) | exact ERR_stay (o := 11) kge (by omega) (Or.inl rfl) (by omega) (by omega) (by rw [← k143]; exact i_ne (by rw [if_neg (by decide), Int32.toInt_zero]; omega)) (by omega) (by omega) | exact ERR_op kge (by omega) (by omega) (by omega) (by omega) (fun q => by have q1 := congrArg Int32.toInt q.1; rw [Int32.toInt_zero, ← k226z] at q1; omega) k229 (by rw [show v62.toInt = y4.toInt - 1 by omega]; exact (stR_top (n := y4.toInt - 1) e82 (by omega) (by omega)).trans (by rw [show y4.toInt - 1 - 1 = y4.toInt - 2 by omega])) (by omega)
                      exact ih12 v62 v35 m79 n7 (by first | omega | assumption | exact (iv_rng _).2 | exact (iv_rng _).1 | decide) (by first | omega | assumption | exact (iv_rng _).2 | exact (iv_rng _).1 | decide) (by first | omega | assumption | exact (iv_rng _).2 | exact (iv_rng _).1 | decide) (by first | omega | assumption | exact (iv_rng _).2 | exact (iv_rng _).1 | decide) (by first | omega | assumption | (show x0.toInt ≤ v35.toInt; omega) | decide) (by first | omega | assumption | (show v62.toInt ≤ v35.toInt; omega) | decide) kb kbe I80 K81 (by omega)
                    · have c67 := iv_eq (X := v64.toInt) (Y := 0) c67 rfl (by decide)
                      refine pv_iconst (M := mX12_comesTo) (v := 0) dX12_comesTo_201 202 rfl (by decide) ?_
                      have z85 : (0 : Int32).toInt = 0 := by decide
                      exact pv_iret (M := mX12_comesTo) dX12_comesTo_202 rfl rfl ⟨_, _, _, rfl, rfl, I8, K9, by decide, by decide, (Or.inl ⟨ERR_ref kge (by omega) (by omega) (by omega) (by omega) (by rw [← k198]; exact i_eq (by rw [Int32.toInt_zero]; omega)) (by omega), rfl⟩)⟩
                  · have c63 := iv_ne (X := v29.toInt) (Y := 5) c63 rfl (by decide)
                    refine pv_iload (M := mX12_comesTo) dX12_comesTo_185 187 rfl rfl ?_
                    refine pv_bipush (M := mX12_comesTo) (v := 6) dX12_comesTo_187 189 rfl (by decide) ?_
                    refine pv_icmp_ne (M := mX12_comesTo) (tgt := 203) dX12_comesTo_189 192 rfl (by decide) (fun c86 => ?_) (fun c86 => ?_)
                    · have c86 := iv_ne (X := v29.toInt) (Y := 6) c86 rfl (by decide)
                      refine pv_aload_n (M := mX12_comesTo) 0 dX12_comesTo_203 204 rfl rfl rfl ?_
                      refine mv_get (M := mX12_comesTo) (v := .ref 141) dX12_comesTo_204 FX12 32 wd1205 (by decide) (tl123 hT) rfl rfl 207 rfl ?_
                      refine pv_iload_n (M := mX12_comesTo) 3 dX12_comesTo_207 208 rfl rfl rfl ?_
                      refine pv_iconst (M := mX12_comesTo) (v := 1) dX12_comesTo_208 209 rfl (by decide) ?_
                      refine iv_isub (M := mX12_comesTo) (X := v62.toInt) (Y := 1) dX12_comesTo_209 210 rfl rfl (by decide) (by omega) (by omega) (fun v87 ev87 => ?_)
                      refine pv_iload (M := mX12_comesTo) dX12_comesTo_210 212 rfl rfl ?_
                      refine pv_aload_n (M := mX12_comesTo) 0 dX12_comesTo_212 213 rfl rfl rfl ?_
                      refine mv_get (M := mX12_comesTo) (v := .ref 141) dX12_comesTo_213 FX12 32 wd1205 (by decide) (tl123 hT) rfl rfl 216 rfl ?_
                      refine pv_iload_n (M := mX12_comesTo) 3 dX12_comesTo_216 217 rfl rfl rfl ?_
                      refine pv_iconst (M := mX12_comesTo) (v := 1) dX12_comesTo_217 218 rfl (by decide) ?_
                      refine iv_isub (M := mX12_comesTo) (X := v62.toInt) (Y := 1) dX12_comesTo_218 219 rfl rfl (by decide) (by omega) (by omega) (fun v88 ev88 => ?_)
                      refine iv_iald (M := mX12_comesTo) (X := v88.toInt) (l1 := (-2147483648)) (l2 := 2147483647) dX12_comesTo_219 (tl141 hT) rfl (by omega) (by omega) I8 (fun _ => rfl) 220 rfl (fun v89 ev89 pv89 qv89 => ?_)
                      have k220 : v89 = m6 141 (y4.toInt - 2).toNat := ev89.trans (congrArg (fun z => m6 141 z) (by omega))
                      refine pv_aload_n (M := mX12_comesTo) 0 dX12_comesTo_220 221 rfl rfl rfl ?_
                      refine mv_get (M := mX12_comesTo) (v := .ref 141) dX12_comesTo_221 FX12 32 wd1205 (by decide) (tl123 hT) rfl rfl 224 rfl ?_
                      refine pv_iload_n (M := mX12_comesTo) 3 dX12_comesTo_224 225 rfl rfl rfl ?_
                      refine iv_iald (M := mX12_comesTo) (X := v62.toInt) (l1 := (-2147483648)) (l2 := 2147483647) dX12_comesTo_225 (tl141 hT) rfl (by omega) (by omega) I8 (fun _ => rfl) 226 rfl (fun v91 ev91 pv91 qv91 => ?_)
                      try have k226 := congrArg Int32.toInt (ev91.trans kf.symm)
                      have k226z : v91 = m6 141 (y4.toInt - 1).toNat := ev91.trans (congrArg (fun z => m6 141 z) (by omega))
                      refine pv_calls (M := mX12_comesTo) (as := [.int v29, .int v89, .int v91]) (st := [.int v87, .ref 141]) (kc2 := 0) (ks2 := 0) dX12_comesTo_226 wd1519 YX12_reckon wd1520 (s_X12_reckon_vz g hT I8 v29 v89 v91 (by first | omega | assumption | exact (iv_rng _).2 | exact (iv_rng _).1 | decide)) rfl rfl (Nat.le_of_ble_eq_true rfl) (by decide) rfl rfl 229 rfl (fun rv h1 q94 => ?_)
                      obtain ⟨v95, rfl, rfl, pv95, qv95, rv95⟩ := q94
                      replace rv95 : v95 = jnv (opc v29.toInt) v89 v91 := rv95
                      show PV _ _ _ _ _ _ _ 229 [.ref 123, .int x0, .int x1, .int v62, .int v3, .int v35, .int v29, .int v33] [.int v95, .int v87, .ref 141] _
                      have k229 := rv95
                      rw [k220, k226z, k32] at k229
                      refine iv_iast (M := mX12_comesTo) (X := v87.toInt) (l1 := (-2147483648)) (l2 := 2147483647) dX12_comesTo_229 (tl141 hT) rfl (by omega) (by omega) I8 (fun _ => rfl) (iv_rng v95).1 (iv_rng v95).2 230 rfl (fun m98 e101 I99 => ?_)
                      have K100 := K9.set e101 rfl
                      refine pv_goto (M := mX12_comesTo) (tgt := 16) dX12_comesTo_230 (by decide) ?_
                      refine pv_fg (lo2 := [.ref 123, .int x0, .int x1, .int v62, .int v3, .int v35, pv_U, pv_U]) ⟨Or.inr rfl, ⟨Or.inr rfl, ⟨Or.inr rfl, ⟨Or.inr rfl, ⟨Or.inr rfl, ⟨Or.inr rfl, ⟨Or.inl rfl, ⟨Or.inl rfl, trivial⟩⟩⟩⟩⟩⟩⟩⟩ ?_
                      have kb : H v35.toInt.toNat ≤ v62.toInt := by first | (rw [show v35.toInt.toNat = (y5.toInt).toNat + 1 by omega]; omega) | (rw [show v35.toInt.toNat = (agv (m 136 (y5.toInt).toNat)).toNat by omega]; omega)
                      have kbe : ERR m m98 x1.toInt.toNat x0.toInt.toNat v35.toInt.toNat v62.toInt := by first | exact ERR_num kge (by omega) (by omega) k85n (stR_push e101 (by omega) (by omega) (by omega)) (by omega) | exact ERR_nam kge (by omega) (by omega) (by omega) (by omega) k85f (stR_push e101 (by omega) (by omega) (by omega)) (by omega) | exact ERR_not kge (by omega) (by omega) (by omega) (v := _) (by rw [← k116]; exact k117) (stR_top e101 (by omega) (by omega)) (by omega) | exact ERR_leap (o := 12) kge (by omega) (Or.inr rfl) (by omega) (by omega) (by rw [← k143]; exact i_eq (by rw [if_pos rfl]; show _ = (1 : Int32).toInt; rw [show (1 : Int32).toInt = 1 by decide]; omega)) (by omega) (by omega) | exact ERR_leap (o := 11) kge (by omega) (Or.inl rfl) (by omega) (by omega) (by rw [← k143]; exact i_eq (by rw [if_neg (by decide), Int32.toInt_zero]; omega)) (by omega) (by omega) | exact ERR_stay (o := 12) kge (by omega) (Or.inr rfl) (by omega) (by omega) (by rw [← k143]; exact i_ne (by rw [if_pos rfl, show (1 : Int32).toInt = 1 by decide]; omega)) (by omega) (by omega) | exact ERR_stay (o := 11) kge (by omega) (Or.inl rfl) (by omega) (by omega) (by rw [← k143]; exact i_ne (by rw [if_neg (by decide), Int32.toInt_zero]; omega)) (by omega) (by omega) | exact ERR_op kge (by omega) (by omega) (by omega) (by omega) (fun q => by have q1 := congrArg Int32.toInt q.1; rw [Int32.toInt_zero, ← k226z] at q1; omega) k229 (by rw [show v62.toInt = y4.toInt - 1 by omega]; exact (stR_top (n := y4.toInt - 1) e101 (by omega) (by omega)).trans (by rw [show y4.toInt - 1 - 1 = y4.toInt - 2 by omega])) (by omega)
                      exact ih12 v62 v35 m98 n7 (by first | omega | assumption | exact (iv_rng _).2 | exact (iv_rng _).1 | decide) (by first | omega | assumption | exact (iv_rng _).2 | exact (iv_rng _).1 | decide) (by first | omega | assumption | exact (iv_rng _).2 | exact (iv_rng _).1 | decide) (by first | omega | assumption | exact (iv_rng _).2 | exact (iv_rng _).1 | decide) (by first | omega | assumption | (show x0.toInt ≤ v35.toInt; omega) | decide) (by first | omega | assumption | (show v62.toInt ≤ v35.toInt; omega) | decide) kb kbe I99 K100 (by omega)
                    · have c86 := iv_eq (X := v29.toInt) (Y := 6) c86 rfl (by decide)
                      refine pv_aload_n (M := mX12_comesTo) 0 dX12_comesTo_192 193 rfl rfl rfl ?_
                      refine mv_get (M := mX12_comesTo) (v := .ref 141) dX12_comesTo_193 FX12 32 wd1205 (by decide) (tl123 hT) rfl rfl 196 rfl ?_
                      refine pv_iload_n (M := mX12_comesTo) 3 dX12_comesTo_196 197 rfl rfl rfl ?_
                      refine iv_iald (M := mX12_comesTo) (X := v62.toInt) (l1 := (-2147483648)) (l2 := 2147483647) dX12_comesTo_197 (tl141 hT) rfl (by omega) (by omega) I8 (fun _ => rfl) 198 rfl (fun v104 ev104 pv104 qv104 => ?_)
                      have kf := ev104
                      have k198 : v104 = m6 141 (y4.toInt - 1).toNat := ev104.trans (congrArg (fun z => m6 141 z) (by omega))
                      refine pv_if_ne (M := mX12_comesTo) (tgt := 203) dX12_comesTo_198 201 rfl (by decide) (fun c107 => ?_) (fun c107 => ?_)
                      · have c107 := iv_ne (X := v104.toInt) (Y := 0) c107 rfl (by decide)
                        refine pv_aload_n (M := mX12_comesTo) 0 dX12_comesTo_203 204 rfl rfl rfl ?_
                        refine mv_get (M := mX12_comesTo) (v := .ref 141) dX12_comesTo_204 FX12 32 wd1205 (by decide) (tl123 hT) rfl rfl 207 rfl ?_
                        refine pv_iload_n (M := mX12_comesTo) 3 dX12_comesTo_207 208 rfl rfl rfl ?_
                        refine pv_iconst (M := mX12_comesTo) (v := 1) dX12_comesTo_208 209 rfl (by decide) ?_
                        refine iv_isub (M := mX12_comesTo) (X := v62.toInt) (Y := 1) dX12_comesTo_209 210 rfl rfl (by decide) (by omega) (by omega) (fun v108 ev108 => ?_)
                        refine pv_iload (M := mX12_comesTo) dX12_comesTo_210 212 rfl rfl ?_
                        refine pv_aload_n (M := mX12_comesTo) 0 dX12_comesTo_212 213 rfl rfl rfl ?_
                        refine mv_get (M := mX12_comesTo) (v := .ref 141) dX12_comesTo_213 FX12 32 wd1205 (by decide) (tl123 hT) rfl rfl 216 rfl ?_
                        refine pv_iload_n (M := mX12_comesTo) 3 dX12_comesTo_216 217 rfl rfl rfl ?_
                        refine pv_iconst (M := mX12_comesTo) (v := 1) dX12_comesTo_217 218 rfl (by decide) ?_
                        refine iv_isub (M := mX12_comesTo) (X := v62.toInt) (Y := 1) dX12_comesTo_218 219 rfl rfl (by decide) (by omega) (by omega) (fun v109 ev109 => ?_)
                        refine iv_iald (M := mX12_comesTo) (X := v109.toInt) (l1 := (-2147483648)) (l2 := 2147483647) dX12_comesTo_219 (tl141 hT) rfl (by omega) (by omega) I8 (fun _ => rfl) 220 rfl (fun v110 ev110 pv110 qv110 => ?_)
                        have k220 : v110 = m6 141 (y4.toInt - 2).toNat := ev110.trans (congrArg (fun z => m6 141 z) (by omega))
                        refine pv_aload_n (M := mX12_comesTo) 0 dX12_comesTo_220 221 rfl rfl rfl ?_
                        refine mv_get (M := mX12_comesTo) (v := .ref 141) dX12_comesTo_221 FX12 32 wd1205 (by decide) (tl123 hT) rfl rfl 224 rfl ?_
                        refine pv_iload_n (M := mX12_comesTo) 3 dX12_comesTo_224 225 rfl rfl rfl ?_
                        refine iv_iald (M := mX12_comesTo) (X := v62.toInt) (l1 := (-2147483648)) (l2 := 2147483647) dX12_comesTo_225 (tl141 hT) rfl (by omega) (by omega) I8 (fun _ => rfl) 226 rfl (fun v112 ev112 pv112 qv112 => ?_)
                        try have k226 := congrArg Int32.toInt (ev112.trans kf.symm)
                        have k226z : v112 = m6 141 (y4.toInt - 1).toNat := ev112.trans (congrArg (fun z => m6 141 z) (by omega))
                        refine pv_calls (M := mX12_comesTo) (as := [.int v29, .int v110, .int v112]) (st := [.int v108, .ref 141]) (kc2 := 0) (ks2 := 0) dX12_comesTo_226 wd1519 YX12_reckon wd1520 (s_X12_reckon_vz g hT I8 v29 v110 v112 (by first | omega | assumption | exact (iv_rng _).2 | exact (iv_rng _).1 | decide)) rfl rfl (Nat.le_of_ble_eq_true rfl) (by decide) rfl rfl 229 rfl (fun rv h1 q115 => ?_)
                        obtain ⟨v116, rfl, rfl, pv116, qv116, rv116⟩ := q115
                        replace rv116 : v116 = jnv (opc v29.toInt) v110 v112 := rv116
                        show PV _ _ _ _ _ _ _ 229 [.ref 123, .int x0, .int x1, .int v62, .int v3, .int v35, .int v29, .int v33] [.int v116, .int v108, .ref 141] _
                        have k229 := rv116
                        rw [k220, k226z, k32] at k229
                        refine iv_iast (M := mX12_comesTo) (X := v108.toInt) (l1 := (-2147483648)) (l2 := 2147483647) dX12_comesTo_229 (tl141 hT) rfl (by omega) (by omega) I8 (fun _ => rfl) (iv_rng v116).1 (iv_rng v116).2 230 rfl (fun m119 e122 I120 => ?_)
                        have K121 := K9.set e122 rfl
                        refine pv_goto (M := mX12_comesTo) (tgt := 16) dX12_comesTo_230 (by decide) ?_
                        refine pv_fg (lo2 := [.ref 123, .int x0, .int x1, .int v62, .int v3, .int v35, pv_U, pv_U]) ⟨Or.inr rfl, ⟨Or.inr rfl, ⟨Or.inr rfl, ⟨Or.inr rfl, ⟨Or.inr rfl, ⟨Or.inr rfl, ⟨Or.inl rfl, ⟨Or.inl rfl, trivial⟩⟩⟩⟩⟩⟩⟩⟩ ?_
                        have kb : H v35.toInt.toNat ≤ v62.toInt := by first | (rw [show v35.toInt.toNat = (y5.toInt).toNat + 1 by omega]; omega) | (rw [show v35.toInt.toNat = (agv (m 136 (y5.toInt).toNat)).toNat by omega]; omega)
                        have kbe : ERR m m119 x1.toInt.toNat x0.toInt.toNat v35.toInt.toNat v62.toInt := by first | exact ERR_num kge (by omega) (by omega) k85n (stR_push e122 (by omega) (by omega) (by omega)) (by omega) | exact ERR_nam kge (by omega) (by omega) (by omega) (by omega) k85f (stR_push e122 (by omega) (by omega) (by omega)) (by omega) | exact ERR_not kge (by omega) (by omega) (by omega) (v := _) (by rw [← k116]; exact k117) (stR_top e122 (by omega) (by omega)) (by omega) | exact ERR_leap (o := 12) kge (by omega) (Or.inr rfl) (by omega) (by omega) (by rw [← k143]; exact i_eq (by rw [if_pos rfl]; show _ = (1 : Int32).toInt; rw [show (1 : Int32).toInt = 1 by decide]; omega)) (by omega) (by omega) | exact ERR_leap (o := 11) kge (by omega) (Or.inl rfl) (by omega) (by omega) (by rw [← k143]; exact i_eq (by rw [if_neg (by decide), Int32.toInt_zero]; omega)) (by omega) (by omega) | exact ERR_stay (o := 12) kge (by omega) (Or.inr rfl) (by omega) (by omega) (by rw [← k143]; exact i_ne (by rw [if_pos rfl, show (1 : Int32).toInt = 1 by decide]; omega)) (by omega) (by omega) | exact ERR_stay (o := 11) kge (by omega) (Or.inl rfl) (by omega) (by omega) (by rw [← k143]; exact i_ne (by rw [if_neg (by decide), Int32.toInt_zero]; omega)) (by omega) (by omega) | exact ERR_op kge (by omega) (by omega) (by omega) (by omega) (fun q => by have q1 := congrArg Int32.toInt q.1; rw [Int32.toInt_zero, ← k226z] at q1; omega) k229 (by rw [show v62.toInt = y4.toInt - 1 by omega]; exact (stR_top (n := y4.toInt - 1) e122 (by omega) (by omega)).trans (by rw [show y4.toInt - 1 - 1 = y4.toInt - 2 by omega])) (by omega)
                        exact ih12 v62 v35 m119 n7 (by first | omega | assumption | exact (iv_rng _).2 | exact (iv_rng _).1 | decide) (by first | omega | assumption | exact (iv_rng _).2 | exact (iv_rng _).1 | decide) (by first | omega | assumption | exact (iv_rng _).2 | exact (iv_rng _).1 | decide) (by first | omega | assumption | exact (iv_rng _).2 | exact (iv_rng _).1 | decide) (by first | omega | assumption | (show x0.toInt ≤ v35.toInt; omega) | decide) (by first | omega | assumption | (show v62.toInt ≤ v35.toInt; omega) | decide) kb kbe I120 K121 (by omega)
                      · have c107 := iv_eq (X := v104.toInt) (Y := 0) c107 rfl (by decide)
                        refine pv_iconst (M := mX12_comesTo) (v := 0) dX12_comesTo_201 202 rfl (by decide) ?_
                        have z125 : (0 : Int32).toInt = 0 := by decide
                        exact pv_iret (M := mX12_comesTo) dX12_comesTo_202 rfl rfl ⟨_, _, _, rfl, rfl, I8, K9, by decide, by decide, (Or.inl ⟨ERR_ref kge (by omega) (by omega) (by omega) (by omega) (by rw [← k198]; exact i_eq (by rw [Int32.toInt_zero]; omega)) (by omega), rfl⟩)⟩
                · have c61 := iv_eq (X := v29.toInt) (Y := 12) c61 rfl (by decide)
                  refine pv_aload_n (M := mX12_comesTo) 0 dX12_comesTo_135 136 rfl rfl rfl ?_
                  refine mv_get (M := mX12_comesTo) (v := .ref 141) dX12_comesTo_136 FX12 32 wd1205 (by decide) (tl123 hT) rfl rfl 139 rfl ?_
                  refine pv_iload_n (M := mX12_comesTo) 3 dX12_comesTo_139 140 rfl rfl rfl ?_
                  refine pv_iconst (M := mX12_comesTo) (v := 1) dX12_comesTo_140 141 rfl (by decide) ?_
                  refine iv_isub (M := mX12_comesTo) (X := y4.toInt) (Y := 1) dX12_comesTo_141 142 rfl rfl (by decide) (by omega) (by omega) (fun v126 ev126 => ?_)
                  refine iv_iald (M := mX12_comesTo) (X := v126.toInt) (l1 := (-2147483648)) (l2 := 2147483647) dX12_comesTo_142 (tl141 hT) rfl (by omega) (by omega) I8 (fun _ => rfl) 143 rfl (fun v127 ev127 pv127 qv127 => ?_)
                  have k143 : v127 = m6 141 (y4.toInt - 1).toNat := ev127.trans (congrArg (fun z => m6 141 z) (by omega))
                  refine pv_iload (M := mX12_comesTo) dX12_comesTo_143 145 rfl rfl ?_
                  refine pv_bipush (M := mX12_comesTo) (v := 12) dX12_comesTo_145 147 rfl (by decide) ?_
                  refine pv_icmp_ne (M := mX12_comesTo) (tgt := 154) dX12_comesTo_147 150 rfl (by decide) (fun c129 => ?_) (fun c129 => ?_)
                  · have c129 := iv_ne (X := v29.toInt) (Y := 12) c129 rfl (by decide)
                    omega
                  · have c129 := iv_eq (X := v29.toInt) (Y := 12) c129 rfl (by decide)
                    refine pv_iconst (M := mX12_comesTo) (v := 1) dX12_comesTo_150 151 rfl (by decide) ?_
                    refine pv_goto (M := mX12_comesTo) (tgt := 155) dX12_comesTo_151 (by decide) ?_
                    refine pv_icmp_ne (M := mX12_comesTo) (tgt := 168) dX12_comesTo_155 158 rfl (by decide) (fun c130 => ?_) (fun c130 => ?_)
                    · have c130 := iv_ne (X := v127.toInt) (Y := 1) c130 rfl (by decide)
                      refine pv_iload_n (M := mX12_comesTo) 3 dX12_comesTo_168 169 rfl rfl rfl ?_
                      refine pv_iconst (M := mX12_comesTo) (v := 1) dX12_comesTo_169 170 rfl (by decide) ?_
                      refine iv_isub (M := mX12_comesTo) (X := y4.toInt) (Y := 1) dX12_comesTo_170 171 rfl rfl (by decide) (by omega) (by omega) (fun v131 ev131 => ?_)
                      refine pv_istore_n (M := mX12_comesTo) 3 (lo2 := [.ref 123, .int x0, .int x1, .int v131, .int v3, .int v35, .int v29, .int v33]) dX12_comesTo_171 172 rfl rfl (by decide) rfl rfl ?_
                      refine pv_goto (M := mX12_comesTo) (tgt := 230) dX12_comesTo_172 (by decide) ?_
                      refine pv_goto (M := mX12_comesTo) (tgt := 16) dX12_comesTo_230 (by decide) ?_
                      refine pv_fg (lo2 := [.ref 123, .int x0, .int x1, .int v131, .int v3, .int v35, pv_U, pv_U]) ⟨Or.inr rfl, ⟨Or.inr rfl, ⟨Or.inr rfl, ⟨Or.inr rfl, ⟨Or.inr rfl, ⟨Or.inr rfl, ⟨Or.inl rfl, ⟨Or.inl rfl, trivial⟩⟩⟩⟩⟩⟩⟩⟩ ?_
                      have kb : H v35.toInt.toNat ≤ v131.toInt := by first | (rw [show v35.toInt.toNat = (y5.toInt).toNat + 1 by omega]; omega) | (rw [show v35.toInt.toNat = (agv (m 136 (y5.toInt).toNat)).toNat by omega]; omega)
                      have kbe : ERR m m6 x1.toInt.toNat x0.toInt.toNat v35.toInt.toNat v131.toInt := by first | exact ERR_num kge (by omega) (by omega) k85n (stR_push noE (by omega) (by omega) (by omega)) (by omega) | exact ERR_nam kge (by omega) (by omega) (by omega) (by omega) k85f (stR_push noE (by omega) (by omega) (by omega)) (by omega) | exact ERR_not kge (by omega) (by omega) (by omega) (v := _) (by rw [← k116]; exact k117) (stR_top noE (by omega) (by omega)) (by omega) | exact ERR_leap (o := 12) kge (by omega) (Or.inr rfl) (by omega) (by omega) (by rw [← k143]; exact i_eq (by rw [if_pos rfl]; show _ = (1 : Int32).toInt; rw [show (1 : Int32).toInt = 1 by decide]; omega)) (by omega) (by omega) | exact ERR_leap (o := 11) kge (by omega) (Or.inl rfl) (by omega) (by omega) (by rw [← k143]; exact i_eq (by rw [if_neg (by decide), Int32.toInt_zero]; omega)) (by omega) (by omega) | exact ERR_stay (o := 12) kge (by omega) (Or.inr rfl) (by omega) (by omega) (by rw [← k143]; exact i_ne (by rw [if_pos rfl, show (1 : Int32).toInt = 1 by decide]; omega)) (by omega) (by omega) | exact ERR_stay (o := 11) kge (by omega) (Or.inl rfl) (by omega) (by omega) (by rw [← k143]; exact i_ne (by rw [if_neg (by decide), Int32.toInt_zero]; omega)) (by omega) (by omega) | exact ERR_op kge (by omega) (by omega) (by omega) (by omega) (fun q => by have q1 := congrArg Int32.toInt q.1; rw [Int32.toInt_zero, ← k226z] at q1; omega) k229 (by rw [show v131.toInt = y4.toInt - 1 by omega]; exact (stR_top (n := y4.toInt - 1) noE (by omega) (by omega)).trans (by rw [show y4.toInt - 1 - 1 = y4.toInt - 2 by omega])) (by omega)
                      exact ih12 v131 v35 m6 n7 (by first | omega | assumption | exact (iv_rng _).2 | exact (iv_rng _).1 | decide) (by first | omega | assumption | exact (iv_rng _).2 | exact (iv_rng _).1 | decide) (by first | omega | assumption | exact (iv_rng _).2 | exact (iv_rng _).1 | decide) (by first | omega | assumption | exact (iv_rng _).2 | exact (iv_rng _).1 | decide) (by first | omega | assumption | (show x0.toInt ≤ v35.toInt; omega) | decide) (by first | omega | assumption | (show v131.toInt ≤ v35.toInt; omega) | decide) kb kbe I8 K9 (by omega)
                    · have c130 := iv_eq (X := v127.toInt) (Y := 1) c130 rfl (by decide)
                      refine pv_iload (M := mX12_comesTo) dX12_comesTo_158 160 rfl rfl ?_
                      refine pv_iload (M := mX12_comesTo) dX12_comesTo_160 162 rfl rfl ?_
                      refine iv_iadd (M := mX12_comesTo) (X := v3.toInt) (Y := v33.toInt) dX12_comesTo_162 163 rfl rfl rfl (by omega) (by omega) (fun v134 ev134 => ?_)
                      refine pv_istore (M := mX12_comesTo) (lo2 := [.ref 123, .int x0, .int x1, .int y4, .int v3, .int v134, .int v29, .int v33]) dX12_comesTo_163 165 rfl (by decide) rfl rfl ?_
                      refine pv_goto (M := mX12_comesTo) (tgt := 230) dX12_comesTo_165 (by decide) ?_
                      refine pv_goto (M := mX12_comesTo) (tgt := 16) dX12_comesTo_230 (by decide) ?_
                      refine pv_fg (lo2 := [.ref 123, .int x0, .int x1, .int y4, .int v3, .int v134, pv_U, pv_U]) ⟨Or.inr rfl, ⟨Or.inr rfl, ⟨Or.inr rfl, ⟨Or.inr rfl, ⟨Or.inr rfl, ⟨Or.inr rfl, ⟨Or.inl rfl, ⟨Or.inl rfl, trivial⟩⟩⟩⟩⟩⟩⟩⟩ ?_
                      have kb : H v134.toInt.toNat ≤ y4.toInt := by first | (rw [show v134.toInt.toNat = (y5.toInt).toNat + 1 by omega]; omega) | (rw [show v134.toInt.toNat = (agv (m 136 (y5.toInt).toNat)).toNat by omega]; omega)
                      have kbe : ERR m m6 x1.toInt.toNat x0.toInt.toNat v134.toInt.toNat y4.toInt := by first | exact ERR_num kge (by omega) (by omega) k85n (stR_push noE (by omega) (by omega) (by omega)) (by omega) | exact ERR_nam kge (by omega) (by omega) (by omega) (by omega) k85f (stR_push noE (by omega) (by omega) (by omega)) (by omega) | exact ERR_not kge (by omega) (by omega) (by omega) (v := _) (by rw [← k116]; exact k117) (stR_top noE (by omega) (by omega)) (by omega) | exact ERR_leap (o := 12) kge (by omega) (Or.inr rfl) (by omega) (by omega) (by rw [← k143]; exact i_eq (by rw [if_pos rfl]; show _ = (1 : Int32).toInt; rw [show (1 : Int32).toInt = 1 by decide]; omega)) (by omega) (by omega) | exact ERR_leap (o := 11) kge (by omega) (Or.inl rfl) (by omega) (by omega) (by rw [← k143]; exact i_eq (by rw [if_neg (by decide), Int32.toInt_zero]; omega)) (by omega) (by omega) | exact ERR_stay (o := 12) kge (by omega) (Or.inr rfl) (by omega) (by omega) (by rw [← k143]; exact i_ne (by rw [if_pos rfl, show (1 : Int32).toInt = 1 by decide]; omega)) (by omega) (by omega) | exact ERR_stay (o := 11) kge (by omega) (Or.inl rfl) (by omega) (by omega) (by rw [← k143]; exact i_ne (by rw [if_neg (by decide), Int32.toInt_zero]; omega)) (by omega) (by omega) | exact ERR_op kge (by omega) (by omega) (by omega) (by omega) (fun q => by have q1 := congrArg Int32.toInt q.1; rw [Int32.toInt_zero, ← k226z] at q1; omega) k229 (by rw [show y4.toInt = y4.toInt - 1 by omega]; exact (stR_top (n := y4.toInt - 1) noE (by omega) (by omega)).trans (by rw [show y4.toInt - 1 - 1 = y4.toInt - 2 by omega])) (by omega)
                      exact ih12 y4 v134 m6 n7 (by first | omega | assumption | exact (iv_rng _).2 | exact (iv_rng _).1 | decide) (by first | omega | assumption | exact (iv_rng _).2 | exact (iv_rng _).1 | decide) (by first | omega | assumption | exact (iv_rng _).2 | exact (iv_rng _).1 | decide) (by first | omega | assumption | exact (iv_rng _).2 | exact (iv_rng _).1 | decide) (by first | omega | assumption | (show x0.toInt ≤ v134.toInt; omega) | decide) (by first | omega | assumption | (show y4.toInt ≤ v134.toInt; omega) | decide) kb kbe I8 K9 (by omega)
            · have c48 := iv_eq (X := v29.toInt) (Y := 10) c48 rfl (by decide)
              refine pv_aload_n (M := mX12_comesTo) 0 dX12_comesTo_100 101 rfl rfl rfl ?_
              refine mv_get (M := mX12_comesTo) (v := .ref 141) dX12_comesTo_101 FX12 32 wd1205 (by decide) (tl123 hT) rfl rfl 104 rfl ?_
              refine pv_iload_n (M := mX12_comesTo) 3 dX12_comesTo_104 105 rfl rfl rfl ?_
              refine pv_iconst (M := mX12_comesTo) (v := 1) dX12_comesTo_105 106 rfl (by decide) ?_
              refine iv_isub (M := mX12_comesTo) (X := y4.toInt) (Y := 1) dX12_comesTo_106 107 rfl rfl (by decide) (by omega) (by omega) (fun v137 ev137 => ?_)
              refine pv_iconst (M := mX12_comesTo) (v := 1) dX12_comesTo_107 108 rfl (by decide) ?_
              refine pv_aload_n (M := mX12_comesTo) 0 dX12_comesTo_108 109 rfl rfl rfl ?_
              refine mv_get (M := mX12_comesTo) (v := .ref 141) dX12_comesTo_109 FX12 32 wd1205 (by decide) (tl123 hT) rfl rfl 112 rfl ?_
              refine pv_iload_n (M := mX12_comesTo) 3 dX12_comesTo_112 113 rfl rfl rfl ?_
              refine pv_iconst (M := mX12_comesTo) (v := 1) dX12_comesTo_113 114 rfl (by decide) ?_
              refine iv_isub (M := mX12_comesTo) (X := y4.toInt) (Y := 1) dX12_comesTo_114 115 rfl rfl (by decide) (by omega) (by omega) (fun v138 ev138 => ?_)
              refine iv_iald (M := mX12_comesTo) (X := v138.toInt) (l1 := (-2147483648)) (l2 := 2147483647) dX12_comesTo_115 (tl141 hT) rfl (by omega) (by omega) I8 (fun _ => rfl) 116 rfl (fun v139 ev139 pv139 qv139 => ?_)
              have k116 : v139 = m6 141 (y4.toInt - 1).toNat := ev139.trans (congrArg (fun z => m6 141 z) (by omega))
              refine iv_subU (M := mX12_comesTo) dX12_comesTo_116 117 rfl (fun v141 ev141 => ?_)
              have k117 := ev141
              refine iv_iast (M := mX12_comesTo) (X := v137.toInt) (l1 := (-2147483648)) (l2 := 2147483647) dX12_comesTo_117 (tl141 hT) rfl (by omega) (by omega) I8 (fun _ => rfl) (iv_rng v141).1 (iv_rng v141).2 118 rfl (fun m143 e146 I144 => ?_)
              have K145 := K9.set e146 rfl
              refine pv_goto (M := mX12_comesTo) (tgt := 230) dX12_comesTo_118 (by decide) ?_
              refine pv_goto (M := mX12_comesTo) (tgt := 16) dX12_comesTo_230 (by decide) ?_
              refine pv_fg (lo2 := [.ref 123, .int x0, .int x1, .int y4, .int v3, .int v35, pv_U, pv_U]) ⟨Or.inr rfl, ⟨Or.inr rfl, ⟨Or.inr rfl, ⟨Or.inr rfl, ⟨Or.inr rfl, ⟨Or.inr rfl, ⟨Or.inl rfl, ⟨Or.inl rfl, trivial⟩⟩⟩⟩⟩⟩⟩⟩ ?_
              have kb : H v35.toInt.toNat ≤ y4.toInt := by first | (rw [show v35.toInt.toNat = (y5.toInt).toNat + 1 by omega]; omega) | (rw [show v35.toInt.toNat = (agv (m 136 (y5.toInt).toNat)).toNat by omega]; omega)
              have kbe : ERR m m143 x1.toInt.toNat x0.toInt.toNat v35.toInt.toNat y4.toInt := by first | exact ERR_num kge (by omega) (by omega) k85n (stR_push e146 (by omega) (by omega) (by omega)) (by omega) | exact ERR_nam kge (by omega) (by omega) (by omega) (by omega) k85f (stR_push e146 (by omega) (by omega) (by omega)) (by omega) | exact ERR_not kge (by omega) (by omega) (by omega) (v := _) (by rw [← k116]; exact k117) (stR_top e146 (by omega) (by omega)) (by omega) | exact ERR_leap (o := 12) kge (by omega) (Or.inr rfl) (by omega) (by omega) (by rw [← k143]; exact i_eq (by rw [if_pos rfl]; show _ = (1 : Int32).toInt; rw [show (1 : Int32).toInt = 1 by decide]; omega)) (by omega) (by omega) | exact ERR_leap (o := 11) kge (by omega) (Or.inl rfl) (by omega) (by omega) (by rw [← k143]; exact i_eq (by rw [if_neg (by decide), Int32.toInt_zero]; omega)) (by omega) (by omega) | exact ERR_stay (o := 12) kge (by omega) (Or.inr rfl) (by omega) (by omega) (by rw [← k143]; exact i_ne (by rw [if_pos rfl, show (1 : Int32).toInt = 1 by decide]; omega)) (by omega) (by omega) | exact ERR_stay (o := 11) kge (by omega) (Or.inl rfl) (by omega) (by omega) (by rw [← k143]; exact i_ne (by rw [if_neg (by decide), Int32.toInt_zero]; omega)) (by omega) (by omega) | exact ERR_op kge (by omega) (by omega) (by omega) (by omega) (fun q => by have q1 := congrArg Int32.toInt q.1; rw [Int32.toInt_zero, ← k226z] at q1; omega) k229 (by rw [show y4.toInt = y4.toInt - 1 by omega]; exact (stR_top (n := y4.toInt - 1) e146 (by omega) (by omega)).trans (by rw [show y4.toInt - 1 - 1 = y4.toInt - 2 by omega])) (by omega)
              exact ih12 y4 v35 m143 n7 (by first | omega | assumption | exact (iv_rng _).2 | exact (iv_rng _).1 | decide) (by first | omega | assumption | exact (iv_rng _).2 | exact (iv_rng _).1 | decide) (by first | omega | assumption | exact (iv_rng _).2 | exact (iv_rng _).1 | decide) (by first | omega | assumption | exact (iv_rng _).2 | exact (iv_rng _).1 | decide) (by first | omega | assumption | (show x0.toInt ≤ v35.toInt; omega) | decide) (by first | omega | assumption | (show y4.toInt ≤ v35.toInt; omega) | decide) kb kbe I144 K145 (by omega)
          · have c47 := iv_eq (X := v29.toInt) (Y := 1) c47 rfl (by decide)
            refine pv_aload_n (M := mX12_comesTo) 0 dX12_comesTo_63 64 rfl rfl rfl ?_
            refine mv_get (M := mX12_comesTo) (v := .ref 141) dX12_comesTo_64 FX12 32 wd1205 (by decide) (tl123 hT) rfl rfl 67 rfl ?_
            refine pv_iload_n (M := mX12_comesTo) 3 dX12_comesTo_67 68 rfl rfl rfl ?_
            refine pv_iload (M := mX12_comesTo) dX12_comesTo_68 70 rfl rfl ?_
            refine pv_if_ne (M := mX12_comesTo) (tgt := 78) dX12_comesTo_70 73 rfl (by decide) (fun c149 => ?_) (fun c149 => ?_)
            · have c149 := iv_ne (X := v29.toInt) (Y := 0) c149 rfl (by decide)
              refine pv_aload_n (M := mX12_comesTo) 0 dX12_comesTo_78 79 rfl rfl rfl ?_
              refine mv_get (M := mX12_comesTo) (v := .ref 142) dX12_comesTo_79 FX12 33 wd1206 (by decide) (tl123 hT) rfl rfl 82 rfl ?_
              refine pv_iload (M := mX12_comesTo) dX12_comesTo_82 84 rfl rfl ?_
              refine iv_iald (M := mX12_comesTo) (X := v33.toInt) (l1 := (-2147483648)) (l2 := 2147483647) dX12_comesTo_84 (tl142 hT) rfl (by omega) (by omega) I8 (fun _ => rfl) 85 rfl (fun v150 ev150 pv150 qv150 => ?_)
              try have k85n : v150.toInt = agv (m 136 (y5.toInt).toNat) := k44
              try have k85f : v150 = m 142 (agv (m 136 (y5.toInt).toNat)).toNat := ev150.trans ((K9 142 _ rfl).trans (by rw [k44]))
              refine iv_iast (M := mX12_comesTo) (X := y4.toInt) (l1 := (-2147483648)) (l2 := 2147483647) dX12_comesTo_85 (tl141 hT) rfl (by omega) (by omega) I8 (fun _ => rfl) (iv_rng v150).1 (iv_rng v150).2 86 rfl (fun m153 e156 I154 => ?_)
              have K155 := K9.set e156 rfl
              refine pv_iload_n (M := mX12_comesTo) 3 dX12_comesTo_86 87 rfl rfl rfl ?_
              refine pv_iconst (M := mX12_comesTo) (v := 1) dX12_comesTo_87 88 rfl (by decide) ?_
              refine iv_iadd (M := mX12_comesTo) (X := y4.toInt) (Y := 1) dX12_comesTo_88 89 rfl rfl (by decide) (by omega) (by omega) (fun v157 ev157 => ?_)
              refine pv_istore_n (M := mX12_comesTo) 3 (lo2 := [.ref 123, .int x0, .int x1, .int v157, .int v3, .int v35, .int v29, .int v33]) dX12_comesTo_89 90 rfl rfl (by decide) rfl rfl ?_
              refine pv_goto (M := mX12_comesTo) (tgt := 230) dX12_comesTo_90 (by decide) ?_
              refine pv_goto (M := mX12_comesTo) (tgt := 16) dX12_comesTo_230 (by decide) ?_
              refine pv_fg (lo2 := [.ref 123, .int x0, .int x1, .int v157, .int v3, .int v35, pv_U, pv_U]) ⟨Or.inr rfl, ⟨Or.inr rfl, ⟨Or.inr rfl, ⟨Or.inr rfl, ⟨Or.inr rfl, ⟨Or.inr rfl, ⟨Or.inl rfl, ⟨Or.inl rfl, trivial⟩⟩⟩⟩⟩⟩⟩⟩ ?_
              have kb : H v35.toInt.toNat ≤ v157.toInt := by first | (rw [show v35.toInt.toNat = (y5.toInt).toNat + 1 by omega]; omega) | (rw [show v35.toInt.toNat = (agv (m 136 (y5.toInt).toNat)).toNat by omega]; omega)
              have kbe : ERR m m153 x1.toInt.toNat x0.toInt.toNat v35.toInt.toNat v157.toInt := by first | exact ERR_num kge (by omega) (by omega) k85n (stR_push e156 (by omega) (by omega) (by omega)) (by omega) | exact ERR_nam kge (by omega) (by omega) (by omega) (by omega) k85f (stR_push e156 (by omega) (by omega) (by omega)) (by omega) | exact ERR_not kge (by omega) (by omega) (by omega) (v := _) (by rw [← k116]; exact k117) (stR_top e156 (by omega) (by omega)) (by omega) | exact ERR_leap (o := 12) kge (by omega) (Or.inr rfl) (by omega) (by omega) (by rw [← k143]; exact i_eq (by rw [if_pos rfl]; show _ = (1 : Int32).toInt; rw [show (1 : Int32).toInt = 1 by decide]; omega)) (by omega) (by omega) | exact ERR_leap (o := 11) kge (by omega) (Or.inl rfl) (by omega) (by omega) (by rw [← k143]; exact i_eq (by rw [if_neg (by decide), Int32.toInt_zero]; omega)) (by omega) (by omega) | exact ERR_stay (o := 12) kge (by omega) (Or.inr rfl) (by omega) (by omega) (by rw [← k143]; exact i_ne (by rw [if_pos rfl, show (1 : Int32).toInt = 1 by decide]; omega)) (by omega) (by omega) | exact ERR_stay (o := 11) kge (by omega) (Or.inl rfl) (by omega) (by omega) (by rw [← k143]; exact i_ne (by rw [if_neg (by decide), Int32.toInt_zero]; omega)) (by omega) (by omega) | exact ERR_op kge (by omega) (by omega) (by omega) (by omega) (fun q => by have q1 := congrArg Int32.toInt q.1; rw [Int32.toInt_zero, ← k226z] at q1; omega) k229 (by rw [show v157.toInt = y4.toInt - 1 by omega]; exact (stR_top (n := y4.toInt - 1) e156 (by omega) (by omega)).trans (by rw [show y4.toInt - 1 - 1 = y4.toInt - 2 by omega])) (by omega)
              exact ih12 v157 v35 m153 n7 (by first | omega | assumption | exact (iv_rng _).2 | exact (iv_rng _).1 | decide) (by first | omega | assumption | exact (iv_rng _).2 | exact (iv_rng _).1 | decide) (by first | omega | assumption | exact (iv_rng _).2 | exact (iv_rng _).1 | decide) (by first | omega | assumption | exact (iv_rng _).2 | exact (iv_rng _).1 | decide) (by first | omega | assumption | (show x0.toInt ≤ v35.toInt; omega) | decide) (by first | omega | assumption | (show v157.toInt ≤ v35.toInt; omega) | decide) kb kbe I154 K155 (by omega)
            · have c149 := iv_eq (X := v29.toInt) (Y := 0) c149 rfl (by decide)
              omega
  have z160 : (0 : Int32).toInt = 0 := by decide
  exact lp11 (((180 - x0.toInt) : Int).toNat + 1) 0 x0 m n (by first | omega | assumption | exact (iv_rng _).2 | exact (iv_rng _).1 | decide) (by first | omega | assumption | exact (iv_rng _).2 | exact (iv_rng _).1 | decide) (by first | omega | assumption | exact (iv_rng _).2 | exact (iv_rng _).1 | decide) (by first | omega | assumption | exact (iv_rng _).2 | exact (iv_rng _).1 | decide) (by first | omega | assumption | (show x0.toInt ≤ x0.toInt; omega) | decide) (by first | omega | assumption | (show 0 ≤ x0.toInt; omega) | decide) (by rw [H0]; decide) (by rw [Int32.toInt_zero]; exact ERR_0) I Kp (by omega)
