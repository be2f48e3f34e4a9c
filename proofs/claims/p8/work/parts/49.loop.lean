set_option maxHeartbeats 4000000 in
set_option maxRecDepth 20000 in
theorem law_loop (g : pv_G) {b LL : Nat} {xs : Nat → Int32} (hLL : LL ≤ 3072) : ∀ (fuel : Nat) (i : Int32) (T : List mv_T) (m : Nat → Nat → Int32) (n : Nat → Nat → Int64) (r : Nat → Value) (kc ks : Nat), 0 ≤ i.toInt → i.toInt ≤ 4000 → (4000 - i.toInt).toNat < fuel → ST T r m kc ks → PV (some (b, LL, xs)) g mL_law (fun r _ => r = some (.int 1)) 30 kc ks 18 [.retAddr (b + 1), .ref 0, .ref 123, .int i] [] (mk T m n r) := by
  intro fuel
  induction fuel with
  | zero => intro i T m n r kc ks h0 h1 h2; omega
  | succ fuel ih =>
    intro i T m n r kc ks h0 h1 h2 S
    refine pv_iload_n (M := mL_law) 3 dL_law_18 19 rfl rfl rfl ?_
    refine pv_aloadS_n (M := mL_law) 0 dL_law_19 20 rfl rfl rfl ?_
    refine pv_slen (M := mL_law) dL_law_20 21 rfl ?_
    refine pv_bipush (M := mL_law) (v := 6) dL_law_21 23 rfl (by decide) ?_
    have hl : (nI LL).toInt = (LL : Int) := nI_toInt (by omega)
    refine iv_isub (M := mL_law) (X := (LL : Int)) (Y := 6) dL_law_23 24 rfl hl (by decide) (by omega) (by omega) (fun v ev => ?_)
    refine pv_icmp_gt (M := mL_law) (tgt := 1197) dL_law_24 27 rfl (by decide) (fun _ => ?_) (fun c => ?_)
    · refine pv_iconst (M := mL_law) (v := 1) dL_law_1197 1198 rfl (by decide) ?_
      exact pv_iret (M := mL_law) dL_law_1198 rfl rfl rfl
    · have c := iv_nlt (X := v.toInt) (Y := i.toInt) c rfl rfl
      have hi6 : i.toInt + 6 ≤ LL := by omega
      have kk : ∀ (T : List mv_T) (m : Nat → Nat → Int32) (n : Nat → Nat → Int64) (r : Nat → Value) (kc ks : Nat), ST T r m kc ks → PV (some (b, LL, xs)) g mL_law (fun r _ => r = some (.int 1)) 30 kc ks 1191 [.retAddr (b + 1), .ref 0, .ref 123, .int i] [] (mk T m n r) := by
        intro T m n r kc ks S
        refine iv_inc (M := mL_law) (C := 6) dL_law_1191 1194 rfl rfl (by decide) rfl rfl (by decide) (by omega) (by omega) (fun w ew => ?_)
        show PV _ _ _ _ _ _ _ 1194 [.retAddr (b + 1), .ref 0, .ref 123, .int w] [] _
        refine pv_goto (M := mL_law) (tgt := 18) dL_law_1194 (by decide) ?_
        exact ih w T m n r kc ks (by omega) (by omega) (by omega) S
      refine pv_aloadS_n (M := mL_law) 0 dL_law_27 28 rfl rfl rfl ?_
      refine pv_iload_n (M := mL_law) 3 dL_law_28 29 rfl rfl rfl ?_
      refine pv_sld (M := mL_law) dL_law_29 (iv_in (X := i.toInt) rfl (by omega) (by omega)) rfl 30 rfl ?_
      refine pv_bipush (M := mL_law) (v := 31) dL_law_30 32 rfl (by decide) ?_
      refine iv_iandm (M := mL_law) dL_law_32 33 rfl 5 (by decide) (by decide) (fun y ey py qy => ?_)
      by_cases c0 : y.toInt = 0
      · refine iv_tabIn (M := mL_law) (X := 0) (off := 131) (tgt := 164) dL_law_33 c0 (by decide) (by decide) (by decide) (by decide) ?_
        exact lx_c0 g hLL h0 hi6 S kk
      by_cases c1 : y.toInt = 1
      · refine iv_tabIn (M := mL_law) (X := 1) (off := 154) (tgt := 187) dL_law_33 c1 (by decide) (by decide) (by decide) (by decide) ?_
        exact lx_c1 g hLL h0 hi6 S kk
      by_cases c2 : y.toInt = 2
      · refine iv_tabIn (M := mL_law) (X := 2) (off := 217) (tgt := 250) dL_law_33 c2 (by decide) (by decide) (by decide) (by decide) ?_
        exact lx_c2 g hLL h0 hi6 S kk
      by_cases c3 : y.toInt = 3
      · refine iv_tabIn (M := mL_law) (X := 3) (off := 240) (tgt := 273) dL_law_33 c3 (by decide) (by decide) (by decide) (by decide) ?_
        exact lx_c3 g hLL h0 hi6 S kk
      by_cases c4 : y.toInt = 4
      · refine iv_tabIn (M := mL_law) (X := 4) (off := 273) (tgt := 306) dL_law_33 c4 (by decide) (by decide) (by decide) (by decide) ?_
        exact lx_c4 g hLL h0 hi6 S kk
      by_cases c5 : y.toInt = 5
      · refine iv_tabIn (M := mL_law) (X := 5) (off := 296) (tgt := 329) dL_law_33 c5 (by decide) (by decide) (by decide) (by decide) ?_
        exact lx_c5 g hLL h0 hi6 S kk
      by_cases c6 : y.toInt = 6
      · refine iv_tabIn (M := mL_law) (X := 6) (off := 339) (tgt := 372) dL_law_33 c6 (by decide) (by decide) (by decide) (by decide) ?_
        exact lx_c6 g hLL h0 hi6 S kk
      by_cases c7 : y.toInt = 7
      · refine iv_tabIn (M := mL_law) (X := 7) (off := 392) (tgt := 425) dL_law_33 c7 (by decide) (by decide) (by decide) (by decide) ?_
        exact lx_c7 g hLL h0 hi6 S kk
      by_cases c8 : y.toInt = 8
      · refine iv_tabIn (M := mL_law) (X := 8) (off := 445) (tgt := 478) dL_law_33 c8 (by decide) (by decide) (by decide) (by decide) ?_
        exact lx_c8 g hLL h0 hi6 S kk
      by_cases c9 : y.toInt = 9
      · refine iv_tabIn (M := mL_law) (X := 9) (off := 468) (tgt := 501) dL_law_33 c9 (by decide) (by decide) (by decide) (by decide) ?_
        exact lx_c9 g hLL h0 hi6 S kk
      by_cases c10 : y.toInt = 10
      · refine iv_tabIn (M := mL_law) (X := 10) (off := 501) (tgt := 534) dL_law_33 c10 (by decide) (by decide) (by decide) (by decide) ?_
        exact lx_c10 g hLL h0 hi6 S kk
      by_cases c11 : y.toInt = 11
      · refine iv_tabIn (M := mL_law) (X := 11) (off := 534) (tgt := 567) dL_law_33 c11 (by decide) (by decide) (by decide) (by decide) ?_
        exact lx_c11 g hLL h0 hi6 S kk
      by_cases c12 : y.toInt = 12
      · refine iv_tabIn (M := mL_law) (X := 12) (off := 587) (tgt := 620) dL_law_33 c12 (by decide) (by decide) (by decide) (by decide) ?_
        exact lx_c12 g hLL h0 hi6 S kk
      by_cases c13 : y.toInt = 13
      · refine iv_tabIn (M := mL_law) (X := 13) (off := 630) (tgt := 663) dL_law_33 c13 (by decide) (by decide) (by decide) (by decide) ?_
        exact lx_c13 g hLL h0 hi6 S kk
      by_cases c14 : y.toInt = 14
      · refine iv_tabIn (M := mL_law) (X := 14) (off := 673) (tgt := 706) dL_law_33 c14 (by decide) (by decide) (by decide) (by decide) ?_
        exact lx_c14 g hLL h0 hi6 S kk
      by_cases c15 : y.toInt = 15
      · refine iv_tabIn (M := mL_law) (X := 15) (off := 716) (tgt := 749) dL_law_33 c15 (by decide) (by decide) (by decide) (by decide) ?_
        exact lx_c15 g hLL h0 hi6 S kk
      by_cases c16 : y.toInt = 16
      · refine iv_tabIn (M := mL_law) (X := 16) (off := 749) (tgt := 782) dL_law_33 c16 (by decide) (by decide) (by decide) (by decide) ?_
        exact lx_c16 g hLL h0 hi6 S kk
      by_cases c17 : y.toInt = 17
      · refine iv_tabIn (M := mL_law) (X := 17) (off := 782) (tgt := 815) dL_law_33 c17 (by decide) (by decide) (by decide) (by decide) ?_
        exact lx_c17 g hLL h0 hi6 S kk
      by_cases c18 : y.toInt = 18
      · refine iv_tabIn (M := mL_law) (X := 18) (off := 805) (tgt := 838) dL_law_33 c18 (by decide) (by decide) (by decide) (by decide) ?_
        exact lx_c18 g hLL h0 hi6 S kk
      by_cases c19 : y.toInt = 19
      · refine iv_tabIn (M := mL_law) (X := 19) (off := 828) (tgt := 861) dL_law_33 c19 (by decide) (by decide) (by decide) (by decide) ?_
        exact lx_c19 g hLL h0 hi6 S kk
      by_cases c20 : y.toInt = 20
      · refine iv_tabIn (M := mL_law) (X := 20) (off := 851) (tgt := 884) dL_law_33 c20 (by decide) (by decide) (by decide) (by decide) ?_
        exact lx_c20 g hLL h0 hi6 S kk
      by_cases c21 : y.toInt = 21
      · refine iv_tabIn (M := mL_law) (X := 21) (off := 884) (tgt := 917) dL_law_33 c21 (by decide) (by decide) (by decide) (by decide) ?_
        exact lx_c21 g hLL h0 hi6 S kk
      by_cases c22 : y.toInt = 22
      · refine iv_tabIn (M := mL_law) (X := 22) (off := 917) (tgt := 950) dL_law_33 c22 (by decide) (by decide) (by decide) (by decide) ?_
        exact lx_c22 g hLL h0 hi6 S kk
      by_cases c23 : y.toInt = 23
      · refine iv_tabIn (M := mL_law) (X := 23) (off := 960) (tgt := 993) dL_law_33 c23 (by decide) (by decide) (by decide) (by decide) ?_
        exact lx_c23 g hLL h0 hi6 S kk
      by_cases c24 : y.toInt = 24
      · refine iv_tabIn (M := mL_law) (X := 24) (off := 1013) (tgt := 1046) dL_law_33 c24 (by decide) (by decide) (by decide) (by decide) ?_
        exact lx_c24 g hLL h0 hi6 S kk
      by_cases c25 : y.toInt = 25
      · refine iv_tabIn (M := mL_law) (X := 25) (off := 1046) (tgt := 1079) dL_law_33 c25 (by decide) (by decide) (by decide) (by decide) ?_
        exact lx_c25 g hLL h0 hi6 S kk
      by_cases c26 : y.toInt = 26
      · refine iv_tabIn (M := mL_law) (X := 26) (off := 1069) (tgt := 1102) dL_law_33 c26 (by decide) (by decide) (by decide) (by decide) ?_
        exact lx_c26 g hLL h0 hi6 S kk
      by_cases c27 : y.toInt = 27
      · refine iv_tabIn (M := mL_law) (X := 27) (off := 1102) (tgt := 1135) dL_law_33 c27 (by decide) (by decide) (by decide) (by decide) ?_
        exact lx_c27 g hLL h0 hi6 S kk
      by_cases c28 : y.toInt = 28
      · refine iv_tabIn (M := mL_law) (X := 28) (off := 1135) (tgt := 1168) dL_law_33 c28 (by decide) (by decide) (by decide) (by decide) ?_
        exact lx_c28 g hLL h0 hi6 S kk
      refine pv_tableOut (M := mL_law) (tgt := 1191) dL_law_33 (by omega) (by decide) ?_
      exact kk _ _ _ _ _ _ S
