set_option maxHeartbeats 2000000 in
set_option maxRecDepth 20000 in
theorem s_X12_law_vz (g : pv_G) {T : List mv_T} {m : Nat → Nat → Int32} {n : Nat → Nat → Int64} {r : Nat → Value} (hT : TX T) (I : IV BB m) (x0 : Int32) (hp0 : LX m) : PM g mX12_law yX12_law (sqI T BB (wl [(123, 123, some 11), (123, 123, some 12), (123, 123, some 13), (123, 123, some 14), (123, 123, some 15), (123, 123, some 16), (123, 123, some 17), (123, 123, some 18), (123, 123, some 19), (123, 123, some 20), (130, 130, none), (131, 131, none), (132, 132, none), (133, 133, none), (134, 134, none), (135, 135, none), (136, 136, none), (137, 137, none), (138, 138, none), (139, 139, none), (140, 140, none)]) r m (-2147483648) 2147483647 (fun m' v => LX m' ∧ LWK x0.toInt (m 123 11).toInt (m' 123 11).toInt ∧ LWV x0.toInt (m 123 11).toInt (tN (m 129) x0.toInt) v.toInt ∧ RDR (tN (m 129) x0.toInt) m m' v.toInt)) 9 0 0 [.ref 123, .int x0] (mk T m n r) := by
  have Kp : fr (wl [(123, 123, some 11), (123, 123, some 12), (123, 123, some 13), (123, 123, some 14), (123, 123, some 15), (123, 123, some 16), (123, 123, some 17), (123, 123, some 18), (123, 123, some 19), (123, 123, some 20), (130, 130, none), (131, 131, none), (132, 132, none), (133, 133, none), (134, 134, none), (135, 135, none), (136, 136, none), (137, 137, none), (138, 138, none), (139, 139, none), (140, 140, none)]) m m := fr.rf
  have z432 : 0 ≤ (m 123 12).toInt ∧ (m 123 12).toInt ≤ 160 := I 123 12
  have z433 : 0 ≤ (m 123 13).toInt ∧ (m 123 13).toInt ≤ 160 := I 123 13
  have z434 : 0 ≤ (m 123 16).toInt ∧ (m 123 16).toInt ≤ 180 := I 123 16
  have z435 : 0 ≤ (m 123 17).toInt ∧ (m 123 17).toInt ≤ 180 := I 123 17
  have z436 : 0 ≤ (m 123 18).toInt ∧ (m 123 18).toInt ≤ 12 := I 123 18
  have z437 : 0 ≤ (m 123 20).toInt ∧ (m 123 20).toInt ≤ 12 := I 123 20
  have z438 : 0 ≤ (m 123 11).toInt ∧ (m 123 11).toInt ≤ 200 := I 123 11
  have z439 : 0 ≤ (m 123 12).toInt ∧ (m 123 12).toInt ≤ 160 := I 123 12
  have z440 : 0 ≤ (m 123 13).toInt ∧ (m 123 13).toInt ≤ 160 := I 123 13
  refine PM.of 2 (lo := [.ref 123, .int x0, pv_U, pv_U]) rfl (by decide) rfl rfl (Nat.le_of_ble_eq_true rfl) ?_
  refine pv_iload_n (M := mX12_law) 1 dX12_law_0 1 rfl rfl rfl ?_
  refine pv_iconst (M := mX12_law) (v := 1) dX12_law_1 2 rfl (by decide) ?_
  refine pv_sipush (M := mX12_law) (v := 160) dX12_law_2 5 rfl (by decide) ?_
  have z1 : (1 : Int32).toInt = 1 := by decide
  have z2 : (160 : Int32).toInt = 160 := by decide
  refine pv_calls (M := mX12_law) (as := [.int x0, .int 1, .int 160]) (st := []) (kc2 := 0) (ks2 := 0) dX12_law_5 wd1370 YX12_in wd1371 (s_X12_in_vx g hT I x0 1 160) rfl rfl (Nat.le_of_ble_eq_true rfl) (by decide) rfl rfl 8 rfl (fun rv h1 q3 => ?_)
  obtain ⟨v4, rfl, rfl, pv4, qv4, rv4⟩ := q3
  replace rv4 : (v4 = 0 ∨ ((1 : Int) ≤ x0.toInt ∧ x0.toInt ≤ (160 : Int))) ∧ ((v4.toInt = 1 ∧ (1 : Int) ≤ x0.toInt ∧ x0.toInt ≤ (160 : Int)) ∨ (v4.toInt = 0 ∧ (x0.toInt < (1 : Int) ∨ (160 : Int) < x0.toInt))) := by have q_ := rv4; (try rw [z1] at q_); (try rw [z2] at q_); exact q_
  show PV _ _ _ _ _ _ _ 8 [.ref 123, .int x0, pv_U, pv_U] [.int v4] _
  refine pv_if_eq (M := mX12_law) (tgt := 19) dX12_law_8 11 rfl (by decide) (fun c5 => ?_) (fun c5 => ?_)
  · have c5 := iv_eq (X := v4.toInt) (Y := 0) c5 rfl (by decide)
    refine pv_iconst (M := mX12_law) (v := (-1)) dX12_law_19 20 rfl (by decide) ?_
    have z6 : ((-1) : Int32).toInt = (-1) := by decide
    exact pv_iret (M := mX12_law) dX12_law_20 rfl rfl ⟨_, _, _, rfl, rfl, I, Kp, by decide, by decide, ⟨hp0, (by first | exact Or.inr ⟨by omega, by omega⟩ | exact Or.inl ⟨by omega, by omega, by omega, by first | omega | decide⟩), Or.inr ⟨by omega, by decide⟩, RDR_no (by decide) STY.rf⟩⟩
  · have pc5 := rv4.1.resolve_left c5
    have c5 := iv_ne (X := v4.toInt) (Y := 0) c5 rfl (by decide)
    refine pv_iload_n (M := mX12_law) 1 dX12_law_11 12 rfl rfl rfl ?_
    refine pv_aload_n (M := mX12_law) 0 dX12_law_12 13 rfl rfl rfl ?_
    refine iv_get (M := mX12_law) (l1 := 0) (l2 := 200) dX12_law_13 FX12 11 wd1184 (by decide) (tl123 hT) rfl I rfl 16 rfl (fun v7 ev7 pv7 qv7 => ?_)
    have wv7 : v7.toInt = (m 123 11).toInt := congrArg Int32.toInt ev7
    refine pv_icmp_le (M := mX12_law) (tgt := 21) dX12_law_16 19 rfl (by decide) (fun c8 => ?_) (fun c8 => ?_)
    · have c8 := iv_le (X := x0.toInt) (Y := v7.toInt) c8 rfl rfl
      refine pv_aload_n (M := mX12_law) 0 dX12_law_21 22 rfl rfl rfl ?_
      refine pv_iconst (M := mX12_law) (v := 0) dX12_law_22 23 rfl (by decide) ?_
      refine iv_put (M := mX12_law) (l1 := 0) (l2 := 160) dX12_law_23 FX12 12 wd1185 (by decide) rfl (tl123 hT) rfl rfl rfl I rfl (by decide) (by decide) 26 rfl (fun m9 e12 I10 => ?_)
      have K11 := Kp.set e12 rfl
      have w13 : (m9 123 12).toInt = 0 := by rw [e12, up2_eq] <;> rfl
      have w14 : (m9 123 13).toInt = (m 123 13).toInt := by rw [e12, up2_ne (by omega)]
      have w15 : (m9 123 16).toInt = (m 123 16).toInt := by rw [e12, up2_ne (by omega)]
      have w16 : (m9 123 17).toInt = (m 123 17).toInt := by rw [e12, up2_ne (by omega)]
      have w17 : (m9 123 18).toInt = (m 123 18).toInt := by rw [e12, up2_ne (by omega)]
      have w18 : (m9 123 20).toInt = (m 123 20).toInt := by rw [e12, up2_ne (by omega)]
      have w19 : (m9 123 11).toInt = (m 123 11).toInt := by rw [e12, up2_ne (by omega)]
      have w20 : (m9 123 14).toInt = (m 123 14).toInt := by rw [e12, up2_ne (by omega)]
      have w21 : (m9 123 12).toInt = 0 := by rw [e12, up2_eq] <;> rfl
      have w22 : (m9 123 13).toInt = (m 123 13).toInt := by rw [e12, up2_ne (by omega)]
      refine pv_aload_n (M := mX12_law) 0 dX12_law_26 27 rfl rfl rfl ?_
      refine pv_iload_n (M := mX12_law) 1 dX12_law_27 28 rfl rfl rfl ?_
      refine iv_put (M := mX12_law) (l1 := 0) (l2 := 160) dX12_law_28 FX12 13 wd1186 (by decide) rfl (tl123 hT) rfl rfl rfl I10 rfl (by omega) (by omega) 31 rfl (fun m23 e26 I24 => ?_)
      have K25 := K11.set e26 rfl
      have w27 : (m23 123 12).toInt = (m9 123 12).toInt := by rw [e26, up2_ne (by omega)]
      have w28 : (m23 123 13).toInt = x0.toInt := by rw [e26, up2_eq]
      have w29 : (m23 123 16).toInt = (m9 123 16).toInt := by rw [e26, up2_ne (by omega)]
      have w30 : (m23 123 17).toInt = (m9 123 17).toInt := by rw [e26, up2_ne (by omega)]
      have w31 : (m23 123 18).toInt = (m9 123 18).toInt := by rw [e26, up2_ne (by omega)]
      have w32 : (m23 123 20).toInt = (m9 123 20).toInt := by rw [e26, up2_ne (by omega)]
      have w33 : (m23 123 11).toInt = (m9 123 11).toInt := by rw [e26, up2_ne (by omega)]
      have w34 : (m23 123 14).toInt = (m9 123 14).toInt := by rw [e26, up2_ne (by omega)]
      have w35 : (m23 123 12).toInt = (m9 123 12).toInt := by rw [e26, up2_ne (by omega)]
      have w36 : (m23 123 13).toInt = x0.toInt := by rw [e26, up2_eq]
      refine pv_aload_n (M := mX12_law) 0 dX12_law_31 32 rfl rfl rfl ?_
      refine pv_iconst (M := mX12_law) (v := 0) dX12_law_32 33 rfl (by decide) ?_
      refine iv_put (M := mX12_law) (l1 := 0) (l2 := 180) dX12_law_33 FX12 16 wd1189 (by decide) rfl (tl123 hT) rfl rfl rfl I24 rfl (by decide) (by decide) 36 rfl (fun m37 e40 I38 => ?_)
      have K39 := K25.set e40 rfl
      have w41 : (m37 123 12).toInt = (m23 123 12).toInt := by rw [e40, up2_ne (by omega)]
      have w42 : (m37 123 13).toInt = (m23 123 13).toInt := by rw [e40, up2_ne (by omega)]
      have w43 : (m37 123 16).toInt = 0 := by rw [e40, up2_eq] <;> rfl
      have w44 : (m37 123 17).toInt = (m23 123 17).toInt := by rw [e40, up2_ne (by omega)]
      have w45 : (m37 123 18).toInt = (m23 123 18).toInt := by rw [e40, up2_ne (by omega)]
      have w46 : (m37 123 20).toInt = (m23 123 20).toInt := by rw [e40, up2_ne (by omega)]
      have w47 : (m37 123 11).toInt = (m23 123 11).toInt := by rw [e40, up2_ne (by omega)]
      have w48 : (m37 123 14).toInt = (m23 123 14).toInt := by rw [e40, up2_ne (by omega)]
      have w49 : (m37 123 12).toInt = (m23 123 12).toInt := by rw [e40, up2_ne (by omega)]
      have w50 : (m37 123 13).toInt = (m23 123 13).toInt := by rw [e40, up2_ne (by omega)]
      refine pv_aload_n (M := mX12_law) 0 dX12_law_36 37 rfl rfl rfl ?_
      refine pv_iconst (M := mX12_law) (v := 0) dX12_law_37 38 rfl (by decide) ?_
      refine iv_put (M := mX12_law) (l1 := 0) (l2 := 12) dX12_law_38 FX12 18 wd1191 (by decide) rfl (tl123 hT) rfl rfl rfl I38 rfl (by decide) (by decide) 41 rfl (fun m51 e54 I52 => ?_)
      have K53 := K39.set e54 rfl
      have w55 : (m51 123 12).toInt = (m37 123 12).toInt := by rw [e54, up2_ne (by omega)]
      have w56 : (m51 123 13).toInt = (m37 123 13).toInt := by rw [e54, up2_ne (by omega)]
      have w57 : (m51 123 16).toInt = (m37 123 16).toInt := by rw [e54, up2_ne (by omega)]
      have w58 : (m51 123 17).toInt = (m37 123 17).toInt := by rw [e54, up2_ne (by omega)]
      have w59 : (m51 123 18).toInt = 0 := by rw [e54, up2_eq] <;> rfl
      have w60 : (m51 123 20).toInt = (m37 123 20).toInt := by rw [e54, up2_ne (by omega)]
      have w61 : (m51 123 11).toInt = (m37 123 11).toInt := by rw [e54, up2_ne (by omega)]
      have w62 : (m51 123 14).toInt = (m37 123 14).toInt := by rw [e54, up2_ne (by omega)]
      have w63 : (m51 123 12).toInt = (m37 123 12).toInt := by rw [e54, up2_ne (by omega)]
      have w64 : (m51 123 13).toInt = (m37 123 13).toInt := by rw [e54, up2_ne (by omega)]
      have kl1 : LX m51 := LX_eq hp0 (by rw [e54, e40, e26, e12, up2_ne (by omega), up2_ne (by omega), up2_ne (by omega), up2_ne (by omega)]) (fun j => by rw [e54, e40, e26, e12, up2_ne (by omega), up2_ne (by omega), up2_ne (by omega), up2_ne (by omega)]) (fun j => by rw [e54, e40, e26, e12, up2_ne (by omega), up2_ne (by omega), up2_ne (by omega), up2_ne (by omega)]) (fun j => by rw [e54, e40, e26, e12, up2_ne (by omega), up2_ne (by omega), up2_ne (by omega), up2_ne (by omega)]) (fun j => by rw [e54, e40, e26, e12, up2_ne (by omega), up2_ne (by omega), up2_ne (by omega), up2_ne (by omega)])
      have kt41 : tR m51 = (tN (m 129) x0.toInt) := tR_N (by omega) (fun j => K53 129 j rfl)
      have kz41 : (m51 123 12).toInt = 0 ∧ (m51 123 18).toInt = 0 := ⟨by omega, by omega⟩
      have kz41b := kz41.1
      have kz41c := kz41.2
      have ksv0 : STY m m51 := STY.of STY.rf (fun j => by rw [e54, up2_ne (by omega), e40, up2_ne (by omega), e26, up2_ne (by omega), e12, up2_ne (by omega)]) (fun j => by rw [e54, up2_ne (by omega), e40, up2_ne (by omega), e26, up2_ne (by omega), e12, up2_ne (by omega)]) (fun j => by rw [e54, up2_ne (by omega), e40, up2_ne (by omega), e26, up2_ne (by omega), e12, up2_ne (by omega)]) (fun j => by rw [e54, up2_ne (by omega), e40, up2_ne (by omega), e26, up2_ne (by omega), e12, up2_ne (by omega)]) (fun j => by rw [e54, up2_ne (by omega), e40, up2_ne (by omega), e26, up2_ne (by omega), e12, up2_ne (by omega)]) (by rw [e54, up2_ne (by omega), e40, up2_ne (by omega), e26, up2_ne (by omega), e12, up2_ne (by omega)])
      refine pv_aload_n (M := mX12_law) 0 dX12_law_41 42 rfl rfl rfl ?_
      refine pv_callv (M := mX12_law) (as := []) (st := []) (kc2 := 0) (ks2 := 0) dX12_law_42 wd1413 YX12_readsClause ⟨wd1415, wd59⟩ (mk_get (tl123 hT)) rfl rfl (s_X12_readsClause_vz g hT I52 (by omega) (by omega) (SX_0 (by omega))) rfl rfl (Nat.le_of_ble_eq_true rfl) (by decide) rfl rfl 45 rfl (fun rv h1 q71 => ?_)
      obtain ⟨m72, n73, v76, rfl, rfl, I74, K75, pv76, qv76, rv76⟩ := q71
      replace rv76 : ((v76.toInt = 0 ∧ FLT (CLA (tR m51) (m51 123 18).toInt (m51 123 12).toInt) (m72 123 14).toInt) ∨ (v76.toInt = 1 ∧ (SX m72 ∧ (m72 123 16).toInt ≤ (m72 123 12).toInt ∧ (m51 123 12).toInt + 1 ≤ (m72 123 12).toInt ∧ (m72 123 12).toInt ≤ (m72 123 13).toInt ∧ (m72 123 13).toInt = (m51 123 13).toInt) ∧ CLA (tR m51) (m51 123 18).toInt (m51 123 12).toInt = (0, (m72 123 12).toInt) ∧ (m72 123 18).toInt = (m51 123 18).toInt + 1)) ∧ IFZ v76.toInt (CLY (tR m51) m51 m72 (m51 123 18).toInt.toNat (m51 123 12).toInt) := rv76
      have K75c := K75
      have w77 : (m72 123 13).toInt = (m51 123 13).toInt := congrArg Int32.toInt (K75 123 13 rfl)
      have w78 : (m72 123 20).toInt = (m51 123 20).toInt := congrArg Int32.toInt (K75 123 20 rfl)
      have w79 : (m72 123 11).toInt = (m51 123 11).toInt := congrArg Int32.toInt (K75 123 11 rfl)
      have w80 : (m72 123 13).toInt = (m51 123 13).toInt := congrArg Int32.toInt (K75 123 13 rfl)
      have K75 := K53.trans (K75.sub (wl_sub (by decide)))
      show PV _ _ _ _ _ _ _ 45 [.ref 123, .int x0, pv_U, pv_U] [.int v76] _
      have kRa := rv76.1
      have kRz := rv76.2
      have kl0 : LX m72 := LX_eq kl1 (K75c 123 20 rfl) (fun j => K75c 136 j rfl) (fun j => K75c 138 j rfl) (fun j => K75c 139 j rfl) (fun j => K75c 140 j rfl)
      have kg0 : v76.toInt ≠ 0 → SX m72 ∧ (m72 123 16).toInt ≤ (m72 123 12).toInt ∧ (m72 123 12).toInt ≤ (m72 123 13).toInt := fun q => by have z := (kRa.resolve_left (fun w => q w.1)).2.1; exact ⟨z.1, z.2.1, z.2.2.2.1⟩
      rw [kt41, kz41b, kz41c] at kRa
      have kj1 : v76.toInt ≠ 0 → LWA (tN (m 129) x0.toInt) x0.toInt 14 0 0 = LWC (tN (m 129) x0.toInt) x0.toInt (14 - (m72 123 18).toInt).toNat (m72 123 18).toInt (m72 123 12).toInt := fun q => by rw [show (14 - (m72 123 18).toInt).toNat = 13 by have := (kRa.resolve_left (fun w => q w.1)).2.2.2; omega, show (m72 123 18).toInt = 0 + 1 from (kRa.resolve_left (fun w => q w.1)).2.2.2]; exact LWA_o (kRa.resolve_left (fun w => q w.1)).2.2.1
      have kj0 : v76.toInt = 0 → LWA (tN (m 129) x0.toInt) x0.toInt 14 0 0 = (m72 123 14).toInt := fun q => LWA_f (kRa.resolve_right (fun w => by have w1 := w.1; omega)).2
      rw [kt41, kz41b, kz41c] at kRz
      have ksv : STY m m72 := STY.of ksv0 (fun j => K75c 136 j rfl) (fun j => K75c 137 j rfl) (fun j => K75c 138 j rfl) (fun j => K75c 139 j rfl) (fun j => K75c 140 j rfl) (K75c 123 20 rfl)
      have klk : IFZ v76.toInt (LRK (tN (m 129) x0.toInt) m72) := fun q => LRK_0 (c := 0) (p := 0) (IFZ.get kRz q) rfl (by decide) (kRa.resolve_left (fun w => q w.1)).2.2.1 LAWs_0 (kRa.resolve_left (fun w => q w.1)).2.2.2
      have kng : v76.toInt = 0 → (m72 123 14).toInt < 0 := fun q => FLT_neg (kRa.resolve_right (fun w => by have w1 := w.1; omega)).2 CLA_ge (by decide)
      refine pv_istore_n (M := mX12_law) 2 (lo2 := [.ref 123, .int x0, .int v76, pv_U]) dX12_law_45 46 rfl rfl (by decide) rfl rfl ?_
      have lp98 : ∀ (fuel97 : Nat) (y92 : Int32) (m93 : Nat → Nat → Int32) (n94 : Nat → Nat → Int64), (0 ≤ y92.toInt) → (y92.toInt ≤ 1) → (LX m93) → (y92.toInt ≠ 0 → SX m93 ∧ (m93 123 16).toInt ≤ (m93 123 12).toInt ∧ (m93 123 12).toInt ≤ (m93 123 13).toInt) → ((m93 123 11).toInt = (m 123 11).toInt) → ((m93 123 13).toInt = x0.toInt) → ((y92).toInt ≠ 0 → LWA (tN (m 129) x0.toInt) x0.toInt 14 0 0 = LWC (tN (m 129) x0.toInt) x0.toInt (14 - (m93 123 18).toInt).toNat (m93 123 18).toInt (m93 123 12).toInt) → ((y92).toInt = 0 → LWA (tN (m 129) x0.toInt) x0.toInt 14 0 0 = (m93 123 14).toInt) → (STY m m93) → (IFZ (y92).toInt (LRK (tN (m 129) x0.toInt) m93)) → ((y92).toInt = 0 → (m93 123 14).toInt < 0) → IV BB m93 → fr (wl [(123, 123, some 11), (123, 123, some 12), (123, 123, some 13), (123, 123, some 14), (123, 123, some 15), (123, 123, some 16), (123, 123, some 17), (123, 123, some 18), (123, 123, some 19), (123, 123, some 20), (130, 130, none), (131, 131, none), (132, 132, none), (133, 133, none), (134, 134, none), (135, 135, none), (136, 136, none), (137, 137, none), (138, 138, none), (139, 139, none), (140, 140, none)]) m m93 → ((400 * y92.toInt + (160 - (m93 123 12).toInt)) : Int).toNat < fuel97 → PV none g mX12_law (sqI T BB (wl [(123, 123, some 11), (123, 123, some 12), (123, 123, some 13), (123, 123, some 14), (123, 123, some 15), (123, 123, some 16), (123, 123, some 17), (123, 123, some 18), (123, 123, some 19), (123, 123, some 20), (130, 130, none), (131, 131, none), (132, 132, none), (133, 133, none), (134, 134, none), (135, 135, none), (136, 136, none), (137, 137, none), (138, 138, none), (139, 139, none), (140, 140, none)]) r m (-2147483648) 2147483647 (fun m' v => LX m' ∧ LWK x0.toInt (m 123 11).toInt (m' 123 11).toInt ∧ LWV x0.toInt (m 123 11).toInt (tN (m 129) x0.toInt) v.toInt ∧ RDR (tN (m 129) x0.toInt) m m' v.toInt)) 9 0 0 46 [.ref 123, .int x0, .int y92, pv_U] [] (mk T m93 n94 r) := by
        intro fuel97
        induction fuel97 with
        | zero => intro y92 m93 n94 b100 b101 b102 b103 b104 b105 b106 b107 b108 b109 b110 I95 K96 z111; omega
        | succ fuel97 ih99 =>
          intro y92 m93 n94 b100 b101 b102 b103 b104 b105 b106 b107 b108 b109 b110 I95 K96 z111
          have z112 : 0 ≤ (m93 123 12).toInt ∧ (m93 123 12).toInt ≤ 160 := I95 123 12
          have z113 : 0 ≤ (m93 123 13).toInt ∧ (m93 123 13).toInt ≤ 160 := I95 123 13
          have z114 : 0 ≤ (m93 123 16).toInt ∧ (m93 123 16).toInt ≤ 180 := I95 123 16
          have z115 : 0 ≤ (m93 123 17).toInt ∧ (m93 123 17).toInt ≤ 180 := I95 123 17
          have z116 : 0 ≤ (m93 123 18).toInt ∧ (m93 123 18).toInt ≤ 12 := I95 123 18
          have z117 : 0 ≤ (m93 123 20).toInt ∧ (m93 123 20).toInt ≤ 12 := I95 123 20
          have z118 : 0 ≤ (m93 123 11).toInt ∧ (m93 123 11).toInt ≤ 200 := I95 123 11
          have z119 : 0 ≤ (m93 123 12).toInt ∧ (m93 123 12).toInt ≤ 160 := I95 123 12
          have z120 : 0 ≤ (m93 123 13).toInt ∧ (m93 123 13).toInt ≤ 160 := I95 123 13
          have kl := (show LX m93 by assumption)
          have kg := (show y92.toInt ≠ 0 → SX m93 ∧ (m93 123 16).toInt ≤ (m93 123 12).toInt ∧ (m93 123 12).toInt ≤ (m93 123 13).toInt by assumption)
          have kgj1 := (show (y92).toInt ≠ 0 → LWA (tN (m 129) x0.toInt) x0.toInt 14 0 0 = LWC (tN (m 129) x0.toInt) x0.toInt (14 - (m93 123 18).toInt).toNat (m93 123 18).toInt (m93 123 12).toInt by assumption)
          have kgj0 := (show (y92).toInt = 0 → LWA (tN (m 129) x0.toInt) x0.toInt 14 0 0 = (m93 123 14).toInt by assumption)
          have kt46 : tR m93 = (tN (m 129) x0.toInt) := tR_N (by omega) (fun j => K96 129 j rfl)
          have kgng := (show (y92).toInt = 0 → (m93 123 14).toInt < 0 by assumption)
          have kgs := (show STY m m93 by assumption)
          have kgk := (show IFZ (y92).toInt (LRK (tN (m 129) x0.toInt) m93) by assumption)
          refine pv_iload_n (M := mX12_law) 2 dX12_law_46 47 rfl rfl rfl ?_
          refine pv_if_eq (M := mX12_law) (tgt := 86) dX12_law_47 50 rfl (by decide) (fun c129 => ?_) (fun c129 => ?_)
          · have c129 := iv_eq (X := y92.toInt) (Y := 0) c129 rfl (by decide)
            refine pv_aload_n (M := mX12_law) 0 dX12_law_86 87 rfl rfl rfl ?_
            refine pv_iconst (M := mX12_law) (v := 0) dX12_law_87 88 rfl (by decide) ?_
            refine iv_put (M := mX12_law) (l1 := 0) (l2 := 200) dX12_law_88 FX12 11 wd1184 (by decide) rfl (tl123 hT) rfl rfl rfl I95 rfl (by decide) (by decide) 91 rfl (fun m130 e133 I131 => ?_)
            have K132 := K96.set e133 rfl
            have w134 : (m130 123 12).toInt = (m93 123 12).toInt := by rw [e133, up2_ne (by omega)]
            have w135 : (m130 123 13).toInt = (m93 123 13).toInt := by rw [e133, up2_ne (by omega)]
            have w136 : (m130 123 16).toInt = (m93 123 16).toInt := by rw [e133, up2_ne (by omega)]
            have w137 : (m130 123 17).toInt = (m93 123 17).toInt := by rw [e133, up2_ne (by omega)]
            have w138 : (m130 123 18).toInt = (m93 123 18).toInt := by rw [e133, up2_ne (by omega)]
            have w139 : (m130 123 20).toInt = (m93 123 20).toInt := by rw [e133, up2_ne (by omega)]
            have w140 : (m130 123 11).toInt = 0 := by rw [e133, up2_eq] <;> rfl
            have w141 : (m130 123 14).toInt = (m93 123 14).toInt := by rw [e133, up2_ne (by omega)]
            have w142 : (m130 123 12).toInt = (m93 123 12).toInt := by rw [e133, up2_ne (by omega)]
            have w143 : (m130 123 13).toInt = (m93 123 13).toInt := by rw [e133, up2_ne (by omega)]
            refine pv_iload_n (M := mX12_law) 2 dX12_law_91 92 rfl rfl rfl ?_
            refine pv_if_ne (M := mX12_law) (tgt := 100) dX12_law_92 95 rfl (by decide) (fun c144 => ?_) (fun c144 => ?_)
            · have c144 := iv_ne (X := y92.toInt) (Y := 0) c144 rfl (by decide)
              omega
            · have c144 := iv_eq (X := y92.toInt) (Y := 0) c144 rfl (by decide)
              have klz : LX m130 := LX_eq kl (by rw [e133, up2_ne (by omega)]) (fun j => by rw [e133, up2_ne (by omega)]) (fun j => by rw [e133, up2_ne (by omega)]) (fun j => by rw [e133, up2_ne (by omega)]) (fun j => by rw [e133, up2_ne (by omega)])
              have ksz : STY m m130 := STY.of kgs (fun j => by rw [e133, up2_ne (by omega)]) (fun j => by rw [e133, up2_ne (by omega)]) (fun j => by rw [e133, up2_ne (by omega)]) (fun j => by rw [e133, up2_ne (by omega)]) (fun j => by rw [e133, up2_ne (by omega)]) (by rw [e133, up2_ne (by omega)])
              refine pv_aload_n (M := mX12_law) 0 dX12_law_95 96 rfl rfl rfl ?_
              refine iv_get (M := mX12_law) (l1 := (-2147483648)) (l2 := 2147483647) dX12_law_96 FX12 14 wd1187 (by decide) (tl123 hT) rfl I131 rfl 99 rfl (fun v147 ev147 pv147 qv147 => ?_)
              have wv147 : v147.toInt = (m130 123 14).toInt := congrArg Int32.toInt ev147
              have k99 : v147.toInt = (m130 123 14).toInt := congrArg Int32.toInt ev147
              exact pv_iret (M := mX12_law) dX12_law_99 rfl rfl ⟨_, _, _, rfl, rfl, I131, K132, (iv_rng v147).1, (iv_rng v147).2, ⟨klz, (by first | exact Or.inr ⟨by omega, by omega⟩ | exact Or.inl ⟨by omega, by omega, by omega, by first | omega | decide⟩), Or.inl ⟨by omega, by omega, by omega, by rw [kgj0 (by omega)]; omega⟩, RDR_no (by have q := kgng (by omega); omega) ksz⟩⟩
          · have c129 := iv_ne (X := y92.toInt) (Y := 0) c129 rfl (by decide)
            have kG := kg (by omega)
            have kG2 := kG.2.1
            have kG3 := kG.2.2
            have kJ1 := kgj1 (by omega)
            have kgk2 := IFZ.get kgk (by omega)
            refine pv_aload_n (M := mX12_law) 0 dX12_law_50 51 rfl rfl rfl ?_
            refine iv_get (M := mX12_law) (l1 := 0) (l2 := 160) dX12_law_51 FX12 12 wd1185 (by decide) (tl123 hT) rfl I95 rfl 54 rfl (fun v154 ev154 pv154 qv154 => ?_)
            have wv154 : v154.toInt = (m93 123 12).toInt := congrArg Int32.toInt ev154
            refine pv_aload_n (M := mX12_law) 0 dX12_law_54 55 rfl rfl rfl ?_
            refine iv_get (M := mX12_law) (l1 := 0) (l2 := 160) dX12_law_55 FX12 13 wd1186 (by decide) (tl123 hT) rfl I95 rfl 58 rfl (fun v155 ev155 pv155 qv155 => ?_)
            have wv155 : v155.toInt = (m93 123 13).toInt := congrArg Int32.toInt ev155
            refine pv_icmp_ge (M := mX12_law) (tgt := 86) dX12_law_58 61 rfl (by decide) (fun c156 => ?_) (fun c156 => ?_)
            · have c156 := iv_le (X := v155.toInt) (Y := v154.toInt) c156 rfl rfl
              refine pv_aload_n (M := mX12_law) 0 dX12_law_86 87 rfl rfl rfl ?_
              refine pv_iconst (M := mX12_law) (v := 0) dX12_law_87 88 rfl (by decide) ?_
              refine iv_put (M := mX12_law) (l1 := 0) (l2 := 200) dX12_law_88 FX12 11 wd1184 (by decide) rfl (tl123 hT) rfl rfl rfl I95 rfl (by decide) (by decide) 91 rfl (fun m157 e160 I158 => ?_)
              have K159 := K96.set e160 rfl
              have w161 : (m157 123 12).toInt = (m93 123 12).toInt := by rw [e160, up2_ne (by omega)]
              have w162 : (m157 123 13).toInt = (m93 123 13).toInt := by rw [e160, up2_ne (by omega)]
              have w163 : (m157 123 16).toInt = (m93 123 16).toInt := by rw [e160, up2_ne (by omega)]
              have w164 : (m157 123 17).toInt = (m93 123 17).toInt := by rw [e160, up2_ne (by omega)]
              have w165 : (m157 123 18).toInt = (m93 123 18).toInt := by rw [e160, up2_ne (by omega)]
              have w166 : (m157 123 20).toInt = (m93 123 20).toInt := by rw [e160, up2_ne (by omega)]
              have w167 : (m157 123 11).toInt = 0 := by rw [e160, up2_eq] <;> rfl
              have w168 : (m157 123 14).toInt = (m93 123 14).toInt := by rw [e160, up2_ne (by omega)]
              have w169 : (m157 123 12).toInt = (m93 123 12).toInt := by rw [e160, up2_ne (by omega)]
              have w170 : (m157 123 13).toInt = (m93 123 13).toInt := by rw [e160, up2_ne (by omega)]
              refine pv_iload_n (M := mX12_law) 2 dX12_law_91 92 rfl rfl rfl ?_
              refine pv_if_ne (M := mX12_law) (tgt := 100) dX12_law_92 95 rfl (by decide) (fun c171 => ?_) (fun c171 => ?_)
              · have c171 := iv_ne (X := y92.toInt) (Y := 0) c171 rfl (by decide)
                have kG := kg (by omega)
                have kG2 := kG.2.1
                have kG3 := kG.2.2
                have kJ2 : LWA (tN (m 129) x0.toInt) x0.toInt 14 0 0 = (m93 123 18).toInt := by rw [kgj1 (by omega)]; exact LWC_e (by omega)
                have kgk2 := IFZ.get kgk (by omega)
                have ks100 : LAWs m157 (tN (m 129) x0.toInt) (m157 123 18).toInt.toNat := LAWs_c kgk2.1 (fun j => by rw [e160, up2_ne (by omega)]) (by rw [e160, up2_ne (by omega)]) (fun a j h1 h2 => by rw [e160, up2_ne (by omega)]) (by rw [e160, up2_ne (by omega)])
                refine pv_aload_n (M := mX12_law) 0 dX12_law_100 101 rfl rfl rfl ?_
                refine pv_aload_n (M := mX12_law) 0 dX12_law_101 102 rfl rfl rfl ?_
                refine iv_get (M := mX12_law) (l1 := 0) (l2 := 12) dX12_law_102 FX12 18 wd1191 (by decide) (tl123 hT) rfl I158 rfl 105 rfl (fun v178 ev178 pv178 qv178 => ?_)
                have wv178 : v178.toInt = (m157 123 18).toInt := congrArg Int32.toInt ev178
                refine iv_put (M := mX12_law) (l1 := 0) (l2 := 12) dX12_law_105 FX12 20 wd1193 (by decide) rfl (tl123 hT) rfl rfl rfl I158 rfl (by omega) (by omega) 108 rfl (fun m179 e182 I180 => ?_)
                have K181 := K159.set e182 rfl
                have w183 : (m179 123 12).toInt = (m157 123 12).toInt := by rw [e182, up2_ne (by omega)]
                have w184 : (m179 123 13).toInt = (m157 123 13).toInt := by rw [e182, up2_ne (by omega)]
                have w185 : (m179 123 16).toInt = (m157 123 16).toInt := by rw [e182, up2_ne (by omega)]
                have w186 : (m179 123 17).toInt = (m157 123 17).toInt := by rw [e182, up2_ne (by omega)]
                have w187 : (m179 123 18).toInt = (m157 123 18).toInt := by rw [e182, up2_ne (by omega)]
                have w188 : (m179 123 20).toInt = v178.toInt := by rw [e182, up2_eq]
                have w189 : (m179 123 11).toInt = (m157 123 11).toInt := by rw [e182, up2_ne (by omega)]
                have w190 : (m179 123 14).toInt = (m157 123 14).toInt := by rw [e182, up2_ne (by omega)]
                have w191 : (m179 123 12).toInt = (m157 123 12).toInt := by rw [e182, up2_ne (by omega)]
                have w192 : (m179 123 13).toInt = (m157 123 13).toInt := by rw [e182, up2_ne (by omega)]
                refine pv_iconst (M := mX12_law) (v := 0) dX12_law_108 109 rfl (by decide) ?_
                refine pv_istore_n (M := mX12_law) 3 (lo2 := [.ref 123, .int x0, .int y92, .int 0]) dX12_law_109 110 rfl rfl (by decide) rfl rfl ?_
                have lp199 : ∀ (fuel198 : Nat) (y193 : Int32) (m194 : Nat → Nat → Int32) (n195 : Nat → Nat → Int64), (0 ≤ y193.toInt) → (y193.toInt ≤ 180) → (SX m194) → ((m194 123 16).toInt ≤ 179) → ((m194 123 20).toInt = (m194 123 18).toInt) → (∀ j : Nat, (j : Int) < y193.toInt → m194 136 j = m194 130 j) → ((m194 123 11).toInt = 0) → (LWA (tN (m 129) x0.toInt) x0.toInt 14 0 0 = (m194 123 18).toInt) → (LAWs m194 (tN (m 129) x0.toInt) (m194 123 18).toInt.toNat) → IV BB m194 → fr (wl [(123, 123, some 11), (123, 123, some 12), (123, 123, some 13), (123, 123, some 14), (123, 123, some 15), (123, 123, some 16), (123, 123, some 17), (123, 123, some 18), (123, 123, some 19), (123, 123, some 20), (130, 130, none), (131, 131, none), (132, 132, none), (133, 133, none), (134, 134, none), (135, 135, none), (136, 136, none), (137, 137, none), (138, 138, none), (139, 139, none), (140, 140, none)]) m m194 → ((180 - y193.toInt) : Int).toNat < fuel198 → PV none g mX12_law (sqI T BB (wl [(123, 123, some 11), (123, 123, some 12), (123, 123, some 13), (123, 123, some 14), (123, 123, some 15), (123, 123, some 16), (123, 123, some 17), (123, 123, some 18), (123, 123, some 19), (123, 123, some 20), (130, 130, none), (131, 131, none), (132, 132, none), (133, 133, none), (134, 134, none), (135, 135, none), (136, 136, none), (137, 137, none), (138, 138, none), (139, 139, none), (140, 140, none)]) r m (-2147483648) 2147483647 (fun m' v => LX m' ∧ LWK x0.toInt (m 123 11).toInt (m' 123 11).toInt ∧ LWV x0.toInt (m 123 11).toInt (tN (m 129) x0.toInt) v.toInt ∧ RDR (tN (m 129) x0.toInt) m m' v.toInt)) 9 0 0 110 [.ref 123, .int x0, .int y92, .int y193] [] (mk T m194 n195 r) := by
                  intro fuel198
                  induction fuel198 with
                  | zero => intro y193 m194 n195 b201 b202 b203 b204 b205 b206 b207 b208 b209 I196 K197 z210; omega
                  | succ fuel198 ih200 =>
                    intro y193 m194 n195 b201 b202 b203 b204 b205 b206 b207 b208 b209 I196 K197 z210
                    have z211 : 0 ≤ (m194 123 12).toInt ∧ (m194 123 12).toInt ≤ 160 := I196 123 12
                    have z212 : 0 ≤ (m194 123 13).toInt ∧ (m194 123 13).toInt ≤ 160 := I196 123 13
                    have z213 : 0 ≤ (m194 123 16).toInt ∧ (m194 123 16).toInt ≤ 180 := I196 123 16
                    have z214 : 0 ≤ (m194 123 17).toInt ∧ (m194 123 17).toInt ≤ 180 := I196 123 17
                    have z215 : 0 ≤ (m194 123 18).toInt ∧ (m194 123 18).toInt ≤ 12 := I196 123 18
                    have z216 : 0 ≤ (m194 123 20).toInt ∧ (m194 123 20).toInt ≤ 12 := I196 123 20
                    have z217 : 0 ≤ (m194 123 11).toInt ∧ (m194 123 11).toInt ≤ 200 := I196 123 11
                    have z218 : 0 ≤ (m194 123 12).toInt ∧ (m194 123 12).toInt ≤ 160 := I196 123 12
                    have z219 : 0 ≤ (m194 123 13).toInt ∧ (m194 123 13).toInt ≤ 160 := I196 123 13
                    have ks := (show SX m194 by assumption)
                    have kc := (show ∀ j : Nat, (j : Int) < y193.toInt → m194 136 j = m194 130 j by assumption)
                    have kgl := (show LAWs m194 (tN (m 129) x0.toInt) (m194 123 18).toInt.toNat by assumption)
                    refine pv_iload_n (M := mX12_law) 3 dX12_law_110 111 rfl rfl rfl ?_
                    refine pv_aload_n (M := mX12_law) 0 dX12_law_111 112 rfl rfl rfl ?_
                    refine iv_get (M := mX12_law) (l1 := 0) (l2 := 180) dX12_law_112 FX12 16 wd1189 (by decide) (tl123 hT) rfl I196 rfl 115 rfl (fun v223 ev223 pv223 qv223 => ?_)
                    have wv223 : v223.toInt = (m194 123 16).toInt := congrArg Int32.toInt ev223
                    refine pv_icmp_ge (M := mX12_law) (tgt := 136) dX12_law_115 118 rfl (by decide) (fun c224 => ?_) (fun c224 => ?_)
                    · have c224 := iv_le (X := v223.toInt) (Y := y193.toInt) c224 rfl rfl
                      refine pv_iconst (M := mX12_law) (v := 0) dX12_law_136 137 rfl (by decide) ?_
                      refine pv_istore_n (M := mX12_law) 3 (lo2 := [.ref 123, .int x0, .int y92, .int 0]) dX12_law_137 138 rfl rfl (by decide) rfl rfl ?_
                      have lp231 : ∀ (fuel230 : Nat) (y225 : Int32) (m226 : Nat → Nat → Int32) (n227 : Nat → Nat → Int64), (0 ≤ y225.toInt) → (y225.toInt ≤ 12) → (SX m226) → ((m226 123 16).toInt ≤ 179) → ((m226 123 20).toInt = (m226 123 18).toInt) → (∀ j : Nat, (j : Int) < (m226 123 16).toInt → m226 136 j = m226 130 j) → (∀ j : Nat, (j : Int) < y225.toInt → m226 138 j = m226 133 j ∧ m226 139 j = m226 134 j ∧ m226 140 j = m226 135 j) → ((m226 123 11).toInt = 0) → (LWA (tN (m 129) x0.toInt) x0.toInt 14 0 0 = (m226 123 18).toInt) → (LAWs m226 (tN (m 129) x0.toInt) (m226 123 18).toInt.toNat) → (∀ j : Nat, (j : Int) < y225.toInt → m226 137 j = m226 132 j) → IV BB m226 → fr (wl [(123, 123, some 11), (123, 123, some 12), (123, 123, some 13), (123, 123, some 14), (123, 123, some 15), (123, 123, some 16), (123, 123, some 17), (123, 123, some 18), (123, 123, some 19), (123, 123, some 20), (130, 130, none), (131, 131, none), (132, 132, none), (133, 133, none), (134, 134, none), (135, 135, none), (136, 136, none), (137, 137, none), (138, 138, none), (139, 139, none), (140, 140, none)]) m m226 → ((12 - y225.toInt) : Int).toNat < fuel230 → PV none g mX12_law (sqI T BB (wl [(123, 123, some 11), (123, 123, some 12), (123, 123, some 13), (123, 123, some 14), (123, 123, some 15), (123, 123, some 16), (123, 123, some 17), (123, 123, some 18), (123, 123, some 19), (123, 123, some 20), (130, 130, none), (131, 131, none), (132, 132, none), (133, 133, none), (134, 134, none), (135, 135, none), (136, 136, none), (137, 137, none), (138, 138, none), (139, 139, none), (140, 140, none)]) r m (-2147483648) 2147483647 (fun m' v => LX m' ∧ LWK x0.toInt (m 123 11).toInt (m' 123 11).toInt ∧ LWV x0.toInt (m 123 11).toInt (tN (m 129) x0.toInt) v.toInt ∧ RDR (tN (m 129) x0.toInt) m m' v.toInt)) 9 0 0 138 [.ref 123, .int x0, .int y92, .int y225] [] (mk T m226 n227 r) := by
                        intro fuel230
                        induction fuel230 with
                        | zero => intro y225 m226 n227 b233 b234 b235 b236 b237 b238 b239 b240 b241 b242 b243 I228 K229 z244; omega
                        | succ fuel230 ih232 =>
                          intro y225 m226 n227 b233 b234 b235 b236 b237 b238 b239 b240 b241 b242 b243 I228 K229 z244
                          have z245 : 0 ≤ (m226 123 12).toInt ∧ (m226 123 12).toInt ≤ 160 := I228 123 12
                          have z246 : 0 ≤ (m226 123 13).toInt ∧ (m226 123 13).toInt ≤ 160 := I228 123 13
                          have z247 : 0 ≤ (m226 123 16).toInt ∧ (m226 123 16).toInt ≤ 180 := I228 123 16
                          have z248 : 0 ≤ (m226 123 17).toInt ∧ (m226 123 17).toInt ≤ 180 := I228 123 17
                          have z249 : 0 ≤ (m226 123 18).toInt ∧ (m226 123 18).toInt ≤ 12 := I228 123 18
                          have z250 : 0 ≤ (m226 123 20).toInt ∧ (m226 123 20).toInt ≤ 12 := I228 123 20
                          have z251 : 0 ≤ (m226 123 11).toInt ∧ (m226 123 11).toInt ≤ 200 := I228 123 11
                          have z252 : 0 ≤ (m226 123 12).toInt ∧ (m226 123 12).toInt ≤ 160 := I228 123 12
                          have z253 : 0 ≤ (m226 123 13).toInt ∧ (m226 123 13).toInt ≤ 160 := I228 123 13
                          have ks := (show SX m226 by assumption)
                          have kc := (show ∀ j : Nat, (j : Int) < (m226 123 16).toInt → m226 136 j = m226 130 j by assumption)
                          have kd := (show ∀ j : Nat, (j : Int) < y225.toInt → m226 138 j = m226 133 j ∧ m226 139 j = m226 134 j ∧ m226 140 j = m226 135 j by assumption)
                          have kgl2 := (show LAWs m226 (tN (m 129) x0.toInt) (m226 123 18).toInt.toNat by assumption)
                          have kg7 := (show ∀ j : Nat, (j : Int) < y225.toInt → m226 137 j = m226 132 j by assumption)
                          refine pv_iload_n (M := mX12_law) 3 dX12_law_138 139 rfl rfl rfl ?_
                          refine pv_aload_n (M := mX12_law) 0 dX12_law_139 140 rfl rfl rfl ?_
                          refine iv_get (M := mX12_law) (l1 := 0) (l2 := 12) dX12_law_140 FX12 18 wd1191 (by decide) (tl123 hT) rfl I228 rfl 143 rfl (fun v259 ev259 pv259 qv259 => ?_)
                          have wv259 : v259.toInt = (m226 123 18).toInt := congrArg Int32.toInt ev259
                          refine pv_icmp_ge (M := mX12_law) (tgt := 200) dX12_law_143 146 rfl (by decide) (fun c260 => ?_) (fun c260 => ?_)
                          · have c260 := iv_le (X := v259.toInt) (Y := y225.toInt) c260 rfl rfl
                            refine pv_aload_n (M := mX12_law) 0 dX12_law_200 201 rfl rfl rfl ?_
                            refine iv_get (M := mX12_law) (l1 := 0) (l2 := 12) dX12_law_201 FX12 18 wd1191 (by decide) (tl123 hT) rfl I228 rfl 204 rfl (fun v261 ev261 pv261 qv261 => ?_)
                            have wv261 : v261.toInt = (m226 123 18).toInt := congrArg Int32.toInt ev261
                            have k204 : v261.toInt = (m226 123 18).toInt := congrArg Int32.toInt ev261
                            exact pv_iret (M := mX12_law) dX12_law_204 rfl rfl ⟨_, _, _, rfl, rfl, I228, K229, (iv_rng v261).1, (iv_rng v261).2, ⟨(LX_of ks (by omega) (by omega) kc (fun j hj => kd j (by omega))), (by first | exact Or.inr ⟨by omega, by omega⟩ | exact Or.inl ⟨by omega, by omega, by omega, by first | omega | decide⟩), Or.inl ⟨by omega, by omega, by omega, by omega⟩, ⟨fun _ => ⟨by rw [show v261.toInt.toNat = (m226 123 18).toInt.toNat by omega]; exact LAWr_of kgl2 kc (fun c hc => ⟨kg7 c (by omega), (kd c (by omega)).1, (kd c (by omega)).2.1, (kd c (by omega)).2.2⟩), by omega⟩, fun q => by exfalso; omega⟩⟩⟩
                          · have c260 := iv_nle (X := v259.toInt) (Y := y225.toInt) c260 rfl rfl
                            refine pv_aload_n (M := mX12_law) 0 dX12_law_146 147 rfl rfl rfl ?_
                            refine mv_get (M := mX12_law) (v := .ref 137) dX12_law_147 FX12 28 wd1201 (by decide) (tl123 hT) rfl rfl 150 rfl ?_
                            refine pv_iload_n (M := mX12_law) 3 dX12_law_150 151 rfl rfl rfl ?_
                            refine pv_aload_n (M := mX12_law) 0 dX12_law_151 152 rfl rfl rfl ?_
                            refine mv_get (M := mX12_law) (v := .ref 132) dX12_law_152 FX12 23 wd1196 (by decide) (tl123 hT) rfl rfl 155 rfl ?_
                            refine pv_iload_n (M := mX12_law) 3 dX12_law_155 156 rfl rfl rfl ?_
                            refine iv_iald (M := mX12_law) (X := y225.toInt) (l1 := (-2147483648)) (l2 := 2147483647) dX12_law_156 (tl132 hT) rfl (by omega) (by omega) I228 (fun _ => rfl) 157 rfl (fun v263 ev263 pv263 qv263 => ?_)
                            have k157 := ev263
                            refine iv_iast (M := mX12_law) (X := y225.toInt) (l1 := (-2147483648)) (l2 := 2147483647) dX12_law_157 (tl137 hT) rfl (by omega) (by omega) I228 (fun _ => rfl) (iv_rng v263).1 (iv_rng v263).2 158 rfl (fun m265 e268 I266 => ?_)
                            have K267 := K229.set e268 rfl
                            have w269 : (m265 123 12).toInt = (m226 123 12).toInt := by rw [e268, up2_ne (by omega)]
                            have w270 : (m265 123 13).toInt = (m226 123 13).toInt := by rw [e268, up2_ne (by omega)]
                            have w271 : (m265 123 16).toInt = (m226 123 16).toInt := by rw [e268, up2_ne (by omega)]
                            have w272 : (m265 123 17).toInt = (m226 123 17).toInt := by rw [e268, up2_ne (by omega)]
                            have w273 : (m265 123 18).toInt = (m226 123 18).toInt := by rw [e268, up2_ne (by omega)]
                            have w274 : (m265 123 20).toInt = (m226 123 20).toInt := by rw [e268, up2_ne (by omega)]
                            have w275 : (m265 123 11).toInt = (m226 123 11).toInt := by rw [e268, up2_ne (by omega)]
                            have w276 : (m265 123 14).toInt = (m226 123 14).toInt := by rw [e268, up2_ne (by omega)]
                            have w277 : (m265 123 12).toInt = (m226 123 12).toInt := by rw [e268, up2_ne (by omega)]
                            have w278 : (m265 123 13).toInt = (m226 123 13).toInt := by rw [e268, up2_ne (by omega)]
                            refine pv_aload_n (M := mX12_law) 0 dX12_law_158 159 rfl rfl rfl ?_
                            refine mv_get (M := mX12_law) (v := .ref 138) dX12_law_159 FX12 29 wd1202 (by decide) (tl123 hT) rfl rfl 162 rfl ?_
                            refine pv_iload_n (M := mX12_law) 3 dX12_law_162 163 rfl rfl rfl ?_
                            refine pv_aload_n (M := mX12_law) 0 dX12_law_163 164 rfl rfl rfl ?_
                            refine mv_get (M := mX12_law) (v := .ref 133) dX12_law_164 FX12 24 wd1197 (by decide) (tl123 hT) rfl rfl 167 rfl ?_
                            refine pv_iload_n (M := mX12_law) 3 dX12_law_167 168 rfl rfl rfl ?_
                            refine iv_iald (M := mX12_law) (X := y225.toInt) (l1 := 0) (l2 := 180) dX12_law_168 (tl133 hT) rfl (by omega) (by omega) I266 (fun _ => rfl) 169 rfl (fun v279 ev279 pv279 qv279 => ?_)
                            have k169 := ev279
                            refine iv_iast (M := mX12_law) (X := y225.toInt) (l1 := 0) (l2 := 180) dX12_law_169 (tl138 hT) rfl (by omega) (by omega) I266 (fun _ => rfl) (by omega) (by omega) 170 rfl (fun m281 e284 I282 => ?_)
                            have K283 := K267.set e284 rfl
                            have w285 : (m281 123 12).toInt = (m265 123 12).toInt := by rw [e284, up2_ne (by omega)]
                            have w286 : (m281 123 13).toInt = (m265 123 13).toInt := by rw [e284, up2_ne (by omega)]
                            have w287 : (m281 123 16).toInt = (m265 123 16).toInt := by rw [e284, up2_ne (by omega)]
                            have w288 : (m281 123 17).toInt = (m265 123 17).toInt := by rw [e284, up2_ne (by omega)]
                            have w289 : (m281 123 18).toInt = (m265 123 18).toInt := by rw [e284, up2_ne (by omega)]
                            have w290 : (m281 123 20).toInt = (m265 123 20).toInt := by rw [e284, up2_ne (by omega)]
                            have w291 : (m281 123 11).toInt = (m265 123 11).toInt := by rw [e284, up2_ne (by omega)]
                            have w292 : (m281 123 14).toInt = (m265 123 14).toInt := by rw [e284, up2_ne (by omega)]
                            have w293 : (m281 123 12).toInt = (m265 123 12).toInt := by rw [e284, up2_ne (by omega)]
                            have w294 : (m281 123 13).toInt = (m265 123 13).toInt := by rw [e284, up2_ne (by omega)]
                            refine pv_aload_n (M := mX12_law) 0 dX12_law_170 171 rfl rfl rfl ?_
                            refine mv_get (M := mX12_law) (v := .ref 139) dX12_law_171 FX12 30 wd1203 (by decide) (tl123 hT) rfl rfl 174 rfl ?_
                            refine pv_iload_n (M := mX12_law) 3 dX12_law_174 175 rfl rfl rfl ?_
                            refine pv_aload_n (M := mX12_law) 0 dX12_law_175 176 rfl rfl rfl ?_
                            refine mv_get (M := mX12_law) (v := .ref 134) dX12_law_176 FX12 25 wd1198 (by decide) (tl123 hT) rfl rfl 179 rfl ?_
                            refine pv_iload_n (M := mX12_law) 3 dX12_law_179 180 rfl rfl rfl ?_
                            refine iv_iald (M := mX12_law) (X := y225.toInt) (l1 := 0) (l2 := 180) dX12_law_180 (tl134 hT) rfl (by omega) (by omega) I282 (fun _ => rfl) 181 rfl (fun v295 ev295 pv295 qv295 => ?_)
                            have k181 := ev295
                            refine iv_iast (M := mX12_law) (X := y225.toInt) (l1 := 0) (l2 := 180) dX12_law_181 (tl139 hT) rfl (by omega) (by omega) I282 (fun _ => rfl) (by omega) (by omega) 182 rfl (fun m297 e300 I298 => ?_)
                            have K299 := K283.set e300 rfl
                            have w301 : (m297 123 12).toInt = (m281 123 12).toInt := by rw [e300, up2_ne (by omega)]
                            have w302 : (m297 123 13).toInt = (m281 123 13).toInt := by rw [e300, up2_ne (by omega)]
                            have w303 : (m297 123 16).toInt = (m281 123 16).toInt := by rw [e300, up2_ne (by omega)]
                            have w304 : (m297 123 17).toInt = (m281 123 17).toInt := by rw [e300, up2_ne (by omega)]
                            have w305 : (m297 123 18).toInt = (m281 123 18).toInt := by rw [e300, up2_ne (by omega)]
                            have w306 : (m297 123 20).toInt = (m281 123 20).toInt := by rw [e300, up2_ne (by omega)]
                            have w307 : (m297 123 11).toInt = (m281 123 11).toInt := by rw [e300, up2_ne (by omega)]
                            have w308 : (m297 123 14).toInt = (m281 123 14).toInt := by rw [e300, up2_ne (by omega)]
                            have w309 : (m297 123 12).toInt = (m281 123 12).toInt := by rw [e300, up2_ne (by omega)]
                            have w310 : (m297 123 13).toInt = (m281 123 13).toInt := by rw [e300, up2_ne (by omega)]
                            refine pv_aload_n (M := mX12_law) 0 dX12_law_182 183 rfl rfl rfl ?_
                            refine mv_get (M := mX12_law) (v := .ref 140) dX12_law_183 FX12 31 wd1204 (by decide) (tl123 hT) rfl rfl 186 rfl ?_
                            refine pv_iload_n (M := mX12_law) 3 dX12_law_186 187 rfl rfl rfl ?_
                            refine pv_aload_n (M := mX12_law) 0 dX12_law_187 188 rfl rfl rfl ?_
                            refine mv_get (M := mX12_law) (v := .ref 135) dX12_law_188 FX12 26 wd1199 (by decide) (tl123 hT) rfl rfl 191 rfl ?_
                            refine pv_iload_n (M := mX12_law) 3 dX12_law_191 192 rfl rfl rfl ?_
                            refine iv_iald (M := mX12_law) (X := y225.toInt) (l1 := 0) (l2 := 180) dX12_law_192 (tl135 hT) rfl (by omega) (by omega) I298 (fun _ => rfl) 193 rfl (fun v311 ev311 pv311 qv311 => ?_)
                            have k193 := ev311
                            refine iv_iast (M := mX12_law) (X := y225.toInt) (l1 := 0) (l2 := 180) dX12_law_193 (tl140 hT) rfl (by omega) (by omega) I298 (fun _ => rfl) (by omega) (by omega) 194 rfl (fun m313 e316 I314 => ?_)
                            have K315 := K299.set e316 rfl
                            have w317 : (m313 123 12).toInt = (m297 123 12).toInt := by rw [e316, up2_ne (by omega)]
                            have w318 : (m313 123 13).toInt = (m297 123 13).toInt := by rw [e316, up2_ne (by omega)]
                            have w319 : (m313 123 16).toInt = (m297 123 16).toInt := by rw [e316, up2_ne (by omega)]
                            have w320 : (m313 123 17).toInt = (m297 123 17).toInt := by rw [e316, up2_ne (by omega)]
                            have w321 : (m313 123 18).toInt = (m297 123 18).toInt := by rw [e316, up2_ne (by omega)]
                            have w322 : (m313 123 20).toInt = (m297 123 20).toInt := by rw [e316, up2_ne (by omega)]
                            have w323 : (m313 123 11).toInt = (m297 123 11).toInt := by rw [e316, up2_ne (by omega)]
                            have w324 : (m313 123 14).toInt = (m297 123 14).toInt := by rw [e316, up2_ne (by omega)]
                            have w325 : (m313 123 12).toInt = (m297 123 12).toInt := by rw [e316, up2_ne (by omega)]
                            have w326 : (m313 123 13).toInt = (m297 123 13).toInt := by rw [e316, up2_ne (by omega)]
                            refine iv_inc (M := mX12_law) (C := 1) dX12_law_194 197 rfl rfl (by decide) rfl rfl (by decide) (by omega) (by omega) (fun v327 ev327 => ?_)
                            show PV _ _ _ _ _ _ _ 197 [.ref 123, .int x0, .int y92, .int v327] [] _
                            refine pv_goto (M := mX12_law) (tgt := 138) dX12_law_197 (by decide) ?_
                            have ksb1 : SX m313 := SX_eq ks (by rw [e316, e300, e284, e268, up2_ne (by omega), up2_ne (by omega), up2_ne (by omega), up2_ne (by omega)]) (by rw [e316, e300, e284, e268, up2_ne (by omega), up2_ne (by omega), up2_ne (by omega), up2_ne (by omega)]) (fun j => by rw [e316, e300, e284, e268, up2_ne (by omega), up2_ne (by omega), up2_ne (by omega), up2_ne (by omega)]) (fun j => by rw [e316, e300, e284, e268, up2_ne (by omega), up2_ne (by omega), up2_ne (by omega), up2_ne (by omega)]) (fun j => by rw [e316, e300, e284, e268, up2_ne (by omega), up2_ne (by omega), up2_ne (by omega), up2_ne (by omega)]) (fun j => by rw [e316, e300, e284, e268, up2_ne (by omega), up2_ne (by omega), up2_ne (by omega), up2_ne (by omega)])
                            have kcb1 : ∀ j : Nat, (j : Int) < (m313 123 16).toInt → m313 136 j = m313 130 j := fun j hj => (show m313 136 j = m226 136 j by rw [e316, e300, e284, e268, up2_ne (by omega), up2_ne (by omega), up2_ne (by omega), up2_ne (by omega)]).trans ((kc j (by omega)).trans (show m226 130 j = m313 130 j by rw [e316, e300, e284, e268, up2_ne (by omega), up2_ne (by omega), up2_ne (by omega), up2_ne (by omega)]))
                            have kdb : ∀ j : Nat, (j : Int) < v327.toInt → m313 138 j = m313 133 j ∧ m313 139 j = m313 134 j ∧ m313 140 j = m313 135 j := fun j hj => LW_step e268 e284 e300 e316 k169 k181 k193 kd (by omega)
                            have klsb2 : LAWs m313 (tN (m 129) x0.toInt) (m313 123 18).toInt.toNat := LAWs_c kgl2 (fun j => by rw [e316, e300, e284, e268, up2_ne (by omega), up2_ne (by omega), up2_ne (by omega), up2_ne (by omega)]) (by rw [e316, e300, e284, e268, up2_ne (by omega), up2_ne (by omega), up2_ne (by omega), up2_ne (by omega)]) (fun a j h1 h2 => by rw [e316, e300, e284, e268, up2_ne (by omega), up2_ne (by omega), up2_ne (by omega), up2_ne (by omega)]) (by rw [e316, e300, e284, e268, up2_ne (by omega), up2_ne (by omega), up2_ne (by omega), up2_ne (by omega)])
                            have kd7b : ∀ j : Nat, (j : Int) < v327.toInt → m313 137 j = m313 132 j := fun j hj => if q : j = (y225.toInt).toNat then (by subst q; rw [e316, up2_ne (by omega), e300, up2_ne (by omega), e284, up2_ne (by omega), e268, up2_f, up2_ne (by omega), up2_ne (by omega), up2_ne (by omega), up2_ne (by omega)]; exact k157) else (by rw [e316, e300, e284, e268, up2_ne (by omega), up2_ne (by omega), up2_ne (by omega), up2_ne (by omega), up2_ne (by omega), up2_ne (by omega), up2_ne (by omega), up2_ne (by omega)]; exact kg7 j (by omega))
                            exact ih232 v327 m313 n227 (by first | omega | assumption | exact (iv_rng _).2 | exact (iv_rng _).1 | decide) (by first | omega | assumption | exact (iv_rng _).2 | exact (iv_rng _).1 | decide) ksb1 (by first | omega | assumption | (show (m313 123 16).toInt ≤ 179; omega) | decide) (by first | omega | assumption | (show (m313 123 20).toInt = (m313 123 18).toInt; omega) | decide) kcb1 kdb (by first | omega | assumption | (show (m313 123 11).toInt = 0; omega) | decide) (by first | omega | assumption | (show LWA (tN (m 129) x0.toInt) x0.toInt 14 0 0 = (m313 123 18).toInt; omega) | decide) klsb2 kd7b I314 K315 (by omega)
                      have z333 : (0 : Int32).toInt = 0 := by decide
                      have ks1 := ks
                      have kcx : ∀ j : Nat, (j : Int) < (m194 123 16).toInt → m194 136 j = m194 130 j := fun j hj => kc j (by omega)
                      have kls2 := kgl
                      exact lp231 (((12 - 0) : Int).toNat + 1) 0 m194 n195 (by first | omega | assumption | exact (iv_rng _).2 | exact (iv_rng _).1 | decide) (by first | omega | assumption | exact (iv_rng _).2 | exact (iv_rng _).1 | decide) ks1 (by first | omega | assumption | (show (m194 123 16).toInt ≤ 179; omega) | decide) (by first | omega | assumption | (show (m194 123 20).toInt = (m194 123 18).toInt; omega) | decide) kcx (fun j hj => by omega) (by first | omega | assumption | (show (m194 123 11).toInt = 0; omega) | decide) (by first | omega | assumption | (show LWA (tN (m 129) x0.toInt) x0.toInt 14 0 0 = (m194 123 18).toInt; omega) | decide) kls2 (fun j hj => by rw [Int32.toInt_zero] at hj; omega) I196 K197 (by omega)
                    · have c224 := iv_nle (X := v223.toInt) (Y := y193.toInt) c224 rfl rfl
                      refine pv_aload_n (M := mX12_law) 0 dX12_law_118 119 rfl rfl rfl ?_
                      refine mv_get (M := mX12_law) (v := .ref 136) dX12_law_119 FX12 27 wd1200 (by decide) (tl123 hT) rfl rfl 122 rfl ?_
                      refine pv_iload_n (M := mX12_law) 3 dX12_law_122 123 rfl rfl rfl ?_
                      refine pv_aload_n (M := mX12_law) 0 dX12_law_123 124 rfl rfl rfl ?_
                      refine mv_get (M := mX12_law) (v := .ref 130) dX12_law_124 FX12 21 wd1194 (by decide) (tl123 hT) rfl rfl 127 rfl ?_
                      refine pv_iload_n (M := mX12_law) 3 dX12_law_127 128 rfl rfl rfl ?_
                      refine iv_iald (M := mX12_law) (X := y193.toInt) (l1 := 0) (l2 := 13631487) dX12_law_128 (tl130 hT) rfl (by omega) (by omega) I196 (fun _ => rfl) 129 rfl (fun v337 ev337 pv337 qv337 => ?_)
                      have k129 := ev337
                      refine iv_iast (M := mX12_law) (X := y193.toInt) (l1 := 0) (l2 := 13631487) dX12_law_129 (tl136 hT) rfl (by omega) (by omega) I196 (fun _ => rfl) (by omega) (by omega) 130 rfl (fun m339 e342 I340 => ?_)
                      have K341 := K197.set e342 rfl
                      have w343 : (m339 123 12).toInt = (m194 123 12).toInt := by rw [e342, up2_ne (by omega)]
                      have w344 : (m339 123 13).toInt = (m194 123 13).toInt := by rw [e342, up2_ne (by omega)]
                      have w345 : (m339 123 16).toInt = (m194 123 16).toInt := by rw [e342, up2_ne (by omega)]
                      have w346 : (m339 123 17).toInt = (m194 123 17).toInt := by rw [e342, up2_ne (by omega)]
                      have w347 : (m339 123 18).toInt = (m194 123 18).toInt := by rw [e342, up2_ne (by omega)]
                      have w348 : (m339 123 20).toInt = (m194 123 20).toInt := by rw [e342, up2_ne (by omega)]
                      have w349 : (m339 123 11).toInt = (m194 123 11).toInt := by rw [e342, up2_ne (by omega)]
                      have w350 : (m339 123 14).toInt = (m194 123 14).toInt := by rw [e342, up2_ne (by omega)]
                      have w351 : (m339 123 12).toInt = (m194 123 12).toInt := by rw [e342, up2_ne (by omega)]
                      have w352 : (m339 123 13).toInt = (m194 123 13).toInt := by rw [e342, up2_ne (by omega)]
                      refine iv_inc (M := mX12_law) (C := 1) dX12_law_130 133 rfl rfl (by decide) rfl rfl (by decide) (by omega) (by omega) (fun v353 ev353 => ?_)
                      show PV _ _ _ _ _ _ _ 133 [.ref 123, .int x0, .int y92, .int v353] [] _
                      refine pv_goto (M := mX12_law) (tgt := 110) dX12_law_133 (by decide) ?_
                      have ksb : SX m339 := SX_eq ks (by rw [e342, up2_ne (by omega)]) (by rw [e342, up2_ne (by omega)]) (fun j => by rw [e342, up2_ne (by omega)]) (fun j => by rw [e342, up2_ne (by omega)]) (fun j => by rw [e342, up2_ne (by omega)]) (fun j => by rw [e342, up2_ne (by omega)])
                      have kcb : ∀ j : Nat, (j : Int) < v353.toInt → m339 136 j = m339 130 j := fun j hj => by rw [e342]; exact (if q : j = (y193.toInt).toNat then (by rw [q, up2_f, up2_ne (by omega)]; exact k129) else (by rw [up2_ne (fun z => q z.2), up2_ne (by omega)]; exact kc j (by omega)))
                      have klsb : LAWs m339 (tN (m 129) x0.toInt) (m339 123 18).toInt.toNat := LAWs_c kgl (fun j => by rw [e342, up2_ne (by omega)]) (by rw [e342, up2_ne (by omega)]) (fun a j h1 h2 => by rw [e342, up2_ne (by omega)]) (by rw [e342, up2_ne (by omega)])
                      exact ih200 v353 m339 n195 (by first | omega | assumption | exact (iv_rng _).2 | exact (iv_rng _).1 | decide) (by first | omega | assumption | exact (iv_rng _).2 | exact (iv_rng _).1 | decide) ksb (by first | omega | assumption | (show (m339 123 16).toInt ≤ 179; omega) | decide) (by first | omega | assumption | (show (m339 123 20).toInt = (m339 123 18).toInt; omega) | decide) kcb (by first | omega | assumption | (show (m339 123 11).toInt = 0; omega) | decide) (by first | omega | assumption | (show LWA (tN (m 129) x0.toInt) x0.toInt 14 0 0 = (m339 123 18).toInt; omega) | decide) klsb I340 K341 (by omega)
                have z357 : (0 : Int32).toInt = 0 := by decide
                have ks0 : SX m179 := SX_eq kG.1 (by rw [e182, e160, up2_ne (by omega), up2_ne (by omega)]) (by rw [e182, e160, up2_ne (by omega), up2_ne (by omega)]) (fun j => by rw [e182, e160, up2_ne (by omega), up2_ne (by omega)]) (fun j => by rw [e182, e160, up2_ne (by omega), up2_ne (by omega)]) (fun j => by rw [e182, e160, up2_ne (by omega), up2_ne (by omega)]) (fun j => by rw [e182, e160, up2_ne (by omega), up2_ne (by omega)])
                have kls : LAWs m179 (tN (m 129) x0.toInt) (m179 123 18).toInt.toNat := LAWs_c ks100 (fun j => by rw [e182, up2_ne (by omega)]) (by rw [e182, up2_ne (by omega)]) (fun a j h1 h2 => by rw [e182, up2_ne (by omega)]) (by rw [e182, up2_ne (by omega)])
                exact lp199 (((180 - 0) : Int).toNat + 1) 0 m179 n94 (by first | omega | assumption | exact (iv_rng _).2 | exact (iv_rng _).1 | decide) (by first | omega | assumption | exact (iv_rng _).2 | exact (iv_rng _).1 | decide) ks0 (by first | omega | assumption | (show (m179 123 16).toInt ≤ 179; omega) | decide) (by first | omega | assumption | (show (m179 123 20).toInt = (m179 123 18).toInt; omega) | decide) (fun j hj => by omega) (by first | omega | assumption | (show (m179 123 11).toInt = 0; omega) | decide) (by first | omega | assumption | (show LWA (tN (m 129) x0.toInt) x0.toInt 14 0 0 = (m179 123 18).toInt; omega) | decide) kls I180 K181 (by omega)
              · have c171 := iv_eq (X := y92.toInt) (Y := 0) c171 rfl (by decide)
                omega
            · have c156 := iv_nle (X := v155.toInt) (Y := v154.toInt) c156 rfl rfl
              refine pv_aload_n (M := mX12_law) 0 dX12_law_61 62 rfl rfl rfl ?_
              refine pv_bipush (M := mX12_law) (v := 59) dX12_law_62 64 rfl (by decide) ?_
              have z360 : (59 : Int32).toInt = 59 := by decide
              refine pv_callv (M := mX12_law) (as := [.int 59]) (st := []) (kc2 := 0) (ks2 := 0) dX12_law_64 wd1488 YX12_takes ⟨wd1490, wd76⟩ (mk_get (tl123 hT)) rfl rfl (s_X12_takes_vx g hT I95 59 (by decide) (by decide) (by first | omega | assumption | exact (iv_rng _).2 | exact (iv_rng _).1 | decide)) rfl rfl (Nat.le_of_ble_eq_true rfl) (by decide) rfl rfl 67 rfl (fun rv h1 q361 => ?_)
              obtain ⟨m362, n363, v366, rfl, rfl, I364, K365, pv366, qv366, rv366⟩ := q361
              replace rv366 : ((v366.toInt = 0 ∨ (m362 123 12).toInt = (m93 123 12).toInt + 1) ∧ (m93 123 12).toInt ≤ (m362 123 12).toInt ∧ (m362 123 12).toInt ≤ (m362 123 13).toInt ∧ (m362 123 13).toInt = (m93 123 13).toInt) ∧ ((v366.toInt = 1 ∧ tR m93 (m93 123 12).toInt = (59 : Int) ∧ (m362 123 12).toInt = (m93 123 12).toInt + 1) ∨ (v366.toInt = 0 ∧ tR m93 (m93 123 12).toInt ≠ (59 : Int) ∧ (m362 123 14).toInt = -1000 - (m93 123 12).toInt)) := by have q_ := rv366; (try rw [z360] at q_); exact q_
              have K365c := K365
              have w367 : (m362 123 13).toInt = (m93 123 13).toInt := congrArg Int32.toInt (K365 123 13 rfl)
              have w368 : (m362 123 16).toInt = (m93 123 16).toInt := congrArg Int32.toInt (K365 123 16 rfl)
              have w369 : (m362 123 17).toInt = (m93 123 17).toInt := congrArg Int32.toInt (K365 123 17 rfl)
              have w370 : (m362 123 18).toInt = (m93 123 18).toInt := congrArg Int32.toInt (K365 123 18 rfl)
              have w371 : (m362 123 20).toInt = (m93 123 20).toInt := congrArg Int32.toInt (K365 123 20 rfl)
              have w372 : (m362 123 11).toInt = (m93 123 11).toInt := congrArg Int32.toInt (K365 123 11 rfl)
              have w373 : (m362 123 13).toInt = (m93 123 13).toInt := congrArg Int32.toInt (K365 123 13 rfl)
              have K365 := K96.trans (K365.sub (wl_sub (by decide)))
              show PV _ _ _ _ _ _ _ 67 [.ref 123, .int x0, .int y92, pv_U] [.int v366] _
              have kl2 : LX m362 := LX_eq kl (K365c 123 20 rfl) (fun j => K365c 136 j rfl) (fun j => K365c 138 j rfl) (fun j => K365c 139 j rfl) (fun j => K365c 140 j rfl)
              have kT : SX m362 := SX_eq kG.1 (K365c 123 18 rfl) (K365c 123 16 rfl) (fun j => K365c 130 j rfl) (fun j => K365c 133 j rfl) (fun j => K365c 134 j rfl) (fun j => K365c 135 j rfl)
              have klx : LX m362 := kl2
              have k67 := rv366.2
              rw [kt46] at k67
              have kt67 : tR m362 = (tN (m 129) x0.toInt) := tR_N (by omega) (fun j => K365 129 j rfl)
              have ksw : STY m m362 := STY.of kgs (fun j => K365c 136 j rfl) (fun j => K365c 137 j rfl) (fun j => K365c 138 j rfl) (fun j => K365c 139 j rfl) (fun j => K365c 140 j rfl) (K365c 123 20 rfl)
              have ksx : STY m m362 := ksw
              have kls67 : LAWs m362 (tN (m 129) x0.toInt) (m362 123 18).toInt.toNat := LRK_eq kgk2 ⟨⟨by rw [K365c 123 16 rfl]; exact Int.le_refl _, fun k _ => K365c 130 k rfl⟩, fun a c h1 h2 _ => by rcases (show a = 132 ∨ a = 133 ∨ a = 134 ∨ a = 135 by omega) with q | q | q | q <;> subst q <;> exact K365c _ c rfl⟩ (congrArg Int32.toInt (K365c 123 18 rfl))
              refine pv_if_eq (M := mX12_law) (tgt := 81) dX12_law_67 70 rfl (by decide) (fun c383 => ?_) (fun c383 => ?_)
              · have c383 := iv_eq (X := v366.toInt) (Y := 0) c383 rfl (by decide)
                refine pv_iconst (M := mX12_law) (v := 0) dX12_law_81 82 rfl (by decide) ?_
                refine pv_istore_n (M := mX12_law) 2 (lo2 := [.ref 123, .int x0, .int 0, pv_U]) dX12_law_82 83 rfl rfl (by decide) rfl rfl ?_
                refine pv_goto (M := mX12_law) (tgt := 46) dX12_law_83 (by decide) ?_
                have z384 : (0 : Int32).toInt = 0 := by decide
                have klb := klx
                have kub : 0 ≤ (m362 123 12).toInt := (I364 123 12).1
                have kgb : ((0 : Int32)).toInt ≠ 0 → SX m362 ∧ (m362 123 16).toInt ≤ (m362 123 12).toInt ∧ (m362 123 12).toInt ≤ (m362 123 13).toInt := fun q => by first | omega | (have z := (kRa.resolve_left (fun q => by have q1 := q.1; omega)).2.1; exact ⟨z.1, z.2.1, z.2.2.2.1⟩)
                have kmm : 0 = 0 ∨ (m93 123 12).toInt + 1 ≤ (m362 123 12).toInt := by first | omega | (have z := (kRa.resolve_left (fun q => by have q1 := q.1; omega)).2.1; have z2 := z.2.2.1; omega)
                have kjb1 : ((0 : Int32)).toInt ≠ 0 → LWA (tN (m 129) x0.toInt) x0.toInt 14 0 0 = LWC (tN (m 129) x0.toInt) x0.toInt (14 - (m362 123 18).toInt).toNat (m362 123 18).toInt (m362 123 12).toInt := fun q => by first | (exfalso; omega) | (have z := (kRa.resolve_left (fun q => by have q1 := q.1; omega)).2; have z2 := z.2.2; rw [kJ1, LWC_y (by omega) (by omega), show (m93 123 12).toInt + 1 = (m362 123 12).toInt by omega, show (14 - (m93 123 18).toInt).toNat = (14 - (m362 123 18).toInt).toNat + 1 by omega, show (m93 123 18).toInt = (m362 123 18).toInt by omega, LWA_o z.2.1, z2])
                have kjb0 : ((0 : Int32)).toInt = 0 → LWA (tN (m 129) x0.toInt) x0.toInt 14 0 0 = (m362 123 14).toInt := fun q => by first | (exfalso; omega) | (rw [kJ1, LWC_n (f := (m362 123 14).toInt) (by omega) (by omega) (by omega)]) | (have z := (kRa.resolve_right (fun q => by have q1 := q.1; omega)).2; rw [kJ1, LWC_y (by omega) (by omega), show (m93 123 12).toInt + 1 = (m362 123 12).toInt by omega, show (14 - (m93 123 18).toInt).toNat = (13 - (m93 123 18).toInt).toNat + 1 by omega, show (m93 123 18).toInt = (m362 123 18).toInt by omega]; exact LWA_f z)
                have kngb : ((0 : Int32)).toInt = 0 → (m362 123 14).toInt < 0 := fun q => by first | (exfalso; omega) | omega | (have z := (kRa.resolve_right (fun q => by have q1 := q.1; omega)).2; exact FLT_neg z CLA_ge (by omega))
                have ksb5 := ksx
                have klkb : IFZ ((0 : Int32)).toInt (LRK (tN (m 129) x0.toInt) m362) := by first | exact IFZ.no (by omega) | (have z := (kRa.resolve_left (fun q => by have q1 := q.1; omega)).2; exact IFZ.is (LRK_0 (c := (m362 123 18).toInt) (p := (m362 123 12).toInt) (IFZ.get kRz (by omega)) (by have q := kgk2.2; rw [show (m362 123 18).toInt = (m93 123 18).toInt by omega]; omega) (by omega) z.2.1 kls67 z.2.2))
                exact ih99 0 m362 n363 (by first | omega | assumption | exact (iv_rng _).2 | exact (iv_rng _).1 | decide) (by first | omega | assumption | exact (iv_rng _).2 | exact (iv_rng _).1 | decide) klb kgb (by first | omega | assumption | (show (m362 123 11).toInt = (m 123 11).toInt; omega) | decide) (by first | omega | assumption | (show (m362 123 13).toInt = x0.toInt; omega) | decide) kjb1 kjb0 ksb5 klkb kngb I364 K365 (by omega)
              · have c383 := iv_ne (X := v366.toInt) (Y := 0) c383 rfl (by decide)
                refine pv_aload_n (M := mX12_law) 0 dX12_law_70 71 rfl rfl rfl ?_
                refine pv_callv (M := mX12_law) (as := []) (st := []) (kc2 := 0) (ks2 := 0) dX12_law_71 wd1413 YX12_readsClause ⟨wd1415, wd59⟩ (mk_get (tl123 hT)) rfl rfl (s_X12_readsClause_vz g hT I364 (by omega) (by omega) kT) rfl rfl (Nat.le_of_ble_eq_true rfl) (by decide) rfl rfl 74 rfl (fun rv h1 q394 => ?_)
                obtain ⟨m395, n396, v399, rfl, rfl, I397, K398, pv399, qv399, rv399⟩ := q394
                replace rv399 : ((v399.toInt = 0 ∧ FLT (CLA (tR m362) (m362 123 18).toInt (m362 123 12).toInt) (m395 123 14).toInt) ∨ (v399.toInt = 1 ∧ (SX m395 ∧ (m395 123 16).toInt ≤ (m395 123 12).toInt ∧ (m362 123 12).toInt + 1 ≤ (m395 123 12).toInt ∧ (m395 123 12).toInt ≤ (m395 123 13).toInt ∧ (m395 123 13).toInt = (m362 123 13).toInt) ∧ CLA (tR m362) (m362 123 18).toInt (m362 123 12).toInt = (0, (m395 123 12).toInt) ∧ (m395 123 18).toInt = (m362 123 18).toInt + 1)) ∧ IFZ v399.toInt (CLY (tR m362) m362 m395 (m362 123 18).toInt.toNat (m362 123 12).toInt) := rv399
                have K398c := K398
                have w400 : (m395 123 13).toInt = (m362 123 13).toInt := congrArg Int32.toInt (K398 123 13 rfl)
                have w401 : (m395 123 20).toInt = (m362 123 20).toInt := congrArg Int32.toInt (K398 123 20 rfl)
                have w402 : (m395 123 11).toInt = (m362 123 11).toInt := congrArg Int32.toInt (K398 123 11 rfl)
                have w403 : (m395 123 13).toInt = (m362 123 13).toInt := congrArg Int32.toInt (K398 123 13 rfl)
                have K398 := K365.trans (K398.sub (wl_sub (by decide)))
                show PV _ _ _ _ _ _ _ 74 [.ref 123, .int x0, .int y92, pv_U] [.int v399] _
                have kRa := rv399.1
                have kRz := rv399.2
                have klx : LX m395 := LX_eq kl2 (K398c 123 20 rfl) (fun j => K398c 136 j rfl) (fun j => K398c 138 j rfl) (fun j => K398c 139 j rfl) (fun j => K398c 140 j rfl)
                rw [kt67] at kRa
                rw [kt67] at kRz
                have ksx : STY m m395 := STY.of ksw (fun j => K398c 136 j rfl) (fun j => K398c 137 j rfl) (fun j => K398c 138 j rfl) (fun j => K398c 139 j rfl) (fun j => K398c 140 j rfl) (K398c 123 20 rfl)
                refine pv_if_eq (M := mX12_law) (tgt := 81) dX12_law_74 77 rfl (by decide) (fun c410 => ?_) (fun c410 => ?_)
                · have c410 := iv_eq (X := v399.toInt) (Y := 0) c410 rfl (by decide)
                  refine pv_iconst (M := mX12_law) (v := 0) dX12_law_81 82 rfl (by decide) ?_
                  refine pv_istore_n (M := mX12_law) 2 (lo2 := [.ref 123, .int x0, .int 0, pv_U]) dX12_law_82 83 rfl rfl (by decide) rfl rfl ?_
                  refine pv_goto (M := mX12_law) (tgt := 46) dX12_law_83 (by decide) ?_
                  have z411 : (0 : Int32).toInt = 0 := by decide
                  have klb := klx
                  have kub : 0 ≤ (m395 123 12).toInt := (I397 123 12).1
                  have kgb : ((0 : Int32)).toInt ≠ 0 → SX m395 ∧ (m395 123 16).toInt ≤ (m395 123 12).toInt ∧ (m395 123 12).toInt ≤ (m395 123 13).toInt := fun q => by first | omega | (have z := (kRa.resolve_left (fun q => by have q1 := q.1; omega)).2.1; exact ⟨z.1, z.2.1, z.2.2.2.1⟩)
                  have kmm : 0 = 0 ∨ (m93 123 12).toInt + 1 ≤ (m395 123 12).toInt := by first | omega | (have z := (kRa.resolve_left (fun q => by have q1 := q.1; omega)).2.1; have z2 := z.2.2.1; omega)
                  have kjb1 : ((0 : Int32)).toInt ≠ 0 → LWA (tN (m 129) x0.toInt) x0.toInt 14 0 0 = LWC (tN (m 129) x0.toInt) x0.toInt (14 - (m395 123 18).toInt).toNat (m395 123 18).toInt (m395 123 12).toInt := fun q => by first | (exfalso; omega) | (have z := (kRa.resolve_left (fun q => by have q1 := q.1; omega)).2; have z2 := z.2.2; rw [kJ1, LWC_y (by omega) (by omega), show (m93 123 12).toInt + 1 = (m362 123 12).toInt by omega, show (14 - (m93 123 18).toInt).toNat = (14 - (m395 123 18).toInt).toNat + 1 by omega, show (m93 123 18).toInt = (m362 123 18).toInt by omega, LWA_o z.2.1, z2])
                  have kjb0 : ((0 : Int32)).toInt = 0 → LWA (tN (m 129) x0.toInt) x0.toInt 14 0 0 = (m395 123 14).toInt := fun q => by first | (exfalso; omega) | (rw [kJ1, LWC_n (f := (m395 123 14).toInt) (by omega) (by omega) (by omega)]) | (have z := (kRa.resolve_right (fun q => by have q1 := q.1; omega)).2; rw [kJ1, LWC_y (by omega) (by omega), show (m93 123 12).toInt + 1 = (m362 123 12).toInt by omega, show (14 - (m93 123 18).toInt).toNat = (13 - (m93 123 18).toInt).toNat + 1 by omega, show (m93 123 18).toInt = (m362 123 18).toInt by omega]; exact LWA_f z)
                  have kngb : ((0 : Int32)).toInt = 0 → (m395 123 14).toInt < 0 := fun q => by first | (exfalso; omega) | omega | (have z := (kRa.resolve_right (fun q => by have q1 := q.1; omega)).2; exact FLT_neg z CLA_ge (by omega))
                  have ksb5 := ksx
                  have klkb : IFZ ((0 : Int32)).toInt (LRK (tN (m 129) x0.toInt) m395) := by first | exact IFZ.no (by omega) | (have z := (kRa.resolve_left (fun q => by have q1 := q.1; omega)).2; exact IFZ.is (LRK_0 (c := (m362 123 18).toInt) (p := (m362 123 12).toInt) (IFZ.get kRz (by omega)) (by have q := kgk2.2; rw [show (m362 123 18).toInt = (m93 123 18).toInt by omega]; omega) (by omega) z.2.1 kls67 z.2.2))
                  exact ih99 0 m395 n396 (by first | omega | assumption | exact (iv_rng _).2 | exact (iv_rng _).1 | decide) (by first | omega | assumption | exact (iv_rng _).2 | exact (iv_rng _).1 | decide) klb kgb (by first | omega | assumption | (show (m395 123 11).toInt = (m 123 11).toInt; omega) | decide) (by first | omega | assumption | (show (m395 123 13).toInt = x0.toInt; omega) | decide) kjb1 kjb0 ksb5 klkb kngb I397 K398 (by omega)
                · have c410 := iv_ne (X := v399.toInt) (Y := 0) c410 rfl (by decide)
                  refine pv_iconst (M := mX12_law) (v := 1) dX12_law_77 78 rfl (by decide) ?_
                  refine pv_goto (M := mX12_law) (tgt := 82) dX12_law_78 (by decide) ?_
                  refine pv_istore_n (M := mX12_law) 2 (lo2 := [.ref 123, .int x0, .int 1, pv_U]) dX12_law_82 83 rfl rfl (by decide) rfl rfl ?_
                  refine pv_goto (M := mX12_law) (tgt := 46) dX12_law_83 (by decide) ?_
                  have z421 : (1 : Int32).toInt = 1 := by decide
                  have klb := klx
                  have kub : 0 ≤ (m395 123 12).toInt := (I397 123 12).1
                  have kgb : ((1 : Int32)).toInt ≠ 0 → SX m395 ∧ (m395 123 16).toInt ≤ (m395 123 12).toInt ∧ (m395 123 12).toInt ≤ (m395 123 13).toInt := fun q => by first | omega | (have z := (kRa.resolve_left (fun q => by have q1 := q.1; omega)).2.1; exact ⟨z.1, z.2.1, z.2.2.2.1⟩)
                  have kmm : 1 = 0 ∨ (m93 123 12).toInt + 1 ≤ (m395 123 12).toInt := by first | omega | (have z := (kRa.resolve_left (fun q => by have q1 := q.1; omega)).2.1; have z2 := z.2.2.1; omega)
                  have kjb1 : ((1 : Int32)).toInt ≠ 0 → LWA (tN (m 129) x0.toInt) x0.toInt 14 0 0 = LWC (tN (m 129) x0.toInt) x0.toInt (14 - (m395 123 18).toInt).toNat (m395 123 18).toInt (m395 123 12).toInt := fun q => by first | (exfalso; omega) | (have z := (kRa.resolve_left (fun q => by have q1 := q.1; omega)).2; have z2 := z.2.2; rw [kJ1, LWC_y (by omega) (by omega), show (m93 123 12).toInt + 1 = (m362 123 12).toInt by omega, show (14 - (m93 123 18).toInt).toNat = (14 - (m395 123 18).toInt).toNat + 1 by omega, show (m93 123 18).toInt = (m362 123 18).toInt by omega, LWA_o z.2.1, z2])
                  have kjb0 : ((1 : Int32)).toInt = 0 → LWA (tN (m 129) x0.toInt) x0.toInt 14 0 0 = (m395 123 14).toInt := fun q => by first | (exfalso; omega) | (rw [kJ1, LWC_n (f := (m395 123 14).toInt) (by omega) (by omega) (by omega)]) | (have z := (kRa.resolve_right (fun q => by have q1 := q.1; omega)).2; rw [kJ1, LWC_y (by omega) (by omega), show (m93 123 12).toInt + 1 = (m362 123 12).toInt by omega, show (14 - (m93 123 18).toInt).toNat = (13 - (m93 123 18).toInt).toNat + 1 by omega, show (m93 123 18).toInt = (m362 123 18).toInt by omega]; exact LWA_f z)
                  have kngb : ((1 : Int32)).toInt = 0 → (m395 123 14).toInt < 0 := fun q => by first | (exfalso; omega) | omega | (have z := (kRa.resolve_right (fun q => by have q1 := q.1; omega)).2; exact FLT_neg z CLA_ge (by omega))
                  have ksb5 := ksx
                  have klkb : IFZ ((1 : Int32)).toInt (LRK (tN (m 129) x0.toInt) m395) := by first | exact IFZ.no (by omega) | (have z := (kRa.resolve_left (fun q => by have q1 := q.1; omega)).2; exact IFZ.is (LRK_0 (c := (m362 123 18).toInt) (p := (m362 123 12).toInt) (IFZ.get kRz (by omega)) (by have q := kgk2.2; rw [show (m362 123 18).toInt = (m93 123 18).toInt by omega]; omega) (by omega) z.2.1 kls67 z.2.2))
                  exact ih99 1 m395 n396 (by first | omega | assumption | exact (iv_rng _).2 | exact (iv_rng _).1 | decide) (by first | omega | assumption | exact (iv_rng _).2 | exact (iv_rng _).1 | decide) klb kgb (by first | omega | assumption | (show (m395 123 11).toInt = (m 123 11).toInt; omega) | decide) (by first | omega | assumption | (show (m395 123 13).toInt = x0.toInt; omega) | decide) kjb1 kjb0 ksb5 klkb kngb I397 K398 (by omega)
      exact lp98 (((400 * v76.toInt + (160 - (m72 123 12).toInt)) : Int).toNat + 1) v76 m72 n73 (by first | omega | assumption | exact (iv_rng _).2 | exact (iv_rng _).1 | decide) (by first | omega | assumption | exact (iv_rng _).2 | exact (iv_rng _).1 | decide) kl0 kg0 (by first | omega | assumption | (show (m72 123 11).toInt = (m 123 11).toInt; omega) | decide) (by first | omega | assumption | (show (m72 123 13).toInt = x0.toInt; omega) | decide) kj1 kj0 ksv klk kng I74 K75 (by omega)
    · have c8 := iv_nle (X := x0.toInt) (Y := v7.toInt) c8 rfl rfl
      refine pv_iconst (M := mX12_law) (v := (-1)) dX12_law_19 20 rfl (by decide) ?_
      have z431 : ((-1) : Int32).toInt = (-1) := by decide
      exact pv_iret (M := mX12_law) dX12_law_20 rfl rfl ⟨_, _, _, rfl, rfl, I, Kp, by decide, by decide, ⟨hp0, (by first | exact Or.inr ⟨by omega, by omega⟩ | exact Or.inl ⟨by omega, by omega, by omega, by first | omega | decide⟩), Or.inr ⟨by omega, by decide⟩, RDR_no (by decide) STY.rf⟩⟩
