set_option maxHeartbeats 2000000 in
set_option maxRecDepth 20000 in
theorem s_X3_trace_vf (g : pv_G) {T : List mv_T} {m : Nat → Nat → Int32} {n : Nat → Nat → Int64} {r : Nat → Value} (hT : TX T) (I : IV BB m) (hC : TC T) {pp qq : Nat → Nat} (P : PX T r pp qq) (hp0 : Dj pp) (hp1 : S12 (szp m pp)) (hp2 : APx m pp) (hp3 : 0 ≤ (m 178 0).toInt) (hp4 : (m 178 0).toInt ≤ 48) (hp5 : TBL m pp 0) : PM g mX3_trace yX3_trace (sqV T BB (wl [(170, 171, none), (175, 175, none), (177, 177, none)]) r m (fun m' => (m' 170 1).toInt = (m 178 0).toInt ∧ (L25 (szp m pp) (srp m pp) → ∃ a, PTH (szp m pp) (srp m pp) (ftb m pp) (fun i => (m' 171 i).toInt) (m' 170 1).toInt.toNat a))) 3 0 0 [.ref 169] (mk T m n r) := by
  have Kp : fr (wl [(170, 171, none), (175, 175, none), (177, 177, none)]) m m := fr.rf
  have z167 : 0 ≤ (m 170 1).toInt ∧ (m 170 1).toInt ≤ 48 := I 170 1
  refine PM.of 7 (lo := [.ref 169, pv_U, pv_U, pv_U, pv_U, pv_U, pv_U, pv_U]) rfl (by decide) rfl rfl (Nat.le_of_ble_eq_true rfl) ?_
  refine pv_aload_n (M := mX3_trace) 0 dX3_trace_0 1 rfl rfl rfl ?_
  refine mv_get (M := mX3_trace) (v := .ref 170) dX3_trace_1 FX3 0 wd979 (by decide) (tc169 hC) rfl rfl 4 rfl ?_
  refine pv_iconst (M := mX3_trace) (v := 0) dX3_trace_4 5 rfl (by decide) ?_
  refine iv_put (M := mX3_trace) (l1 := 0) (l2 := 48) dX3_trace_5 FX8 1 wd197 (by decide) rfl (tc170 hC) rfl rfl rfl I rfl (by decide) (by decide) 8 rfl (fun m1 e4 I2 => ?_)
  have K3 := Kp.set e4 rfl
  have w5 : (m1 170 1).toInt = 0 := by rw [e4, up2_eq] <;> rfl
  refine pv_aload_n (M := mX3_trace) 0 dX3_trace_8 9 rfl rfl rfl ?_
  refine mv_get (M := mX3_trace) (v := .ref 175) dX3_trace_9 FX3 5 wd986 (by decide) (tc169 hC) rfl rfl 12 rfl ?_
  refine pv_iconst (M := mX3_trace) (v := 0) dX3_trace_12 13 rfl (by decide) ?_
  have z6 : (0 : Int32).toInt = 0 := by decide
  refine pv_calls (M := mX3_trace) (as := [.ref 175, .int 0]) (st := []) (kc2 := 0) (ks2 := 0) dX3_trace_13 wd1037 YJ7_fill_53178 wd896 (s_J7_fill_53178 g hT I2 175 4 (-1) 12 ⟨(tc175 hC), (fun _ => rfl), by decide⟩ 0 (by first | omega | assumption | exact (iv_rng _).2 | exact (iv_rng _).1 | decide) (by first | omega | assumption | exact (iv_rng _).2 | exact (iv_rng _).1 | decide)) rfl rfl (Nat.le_of_ble_eq_true rfl) (by decide) rfl rfl 16 rfl (fun rv h1 q7 => ?_)
  obtain ⟨m8, n9, rfl, rfl, I10, K11, rm8⟩ := q7
  replace rm8 : ∀ j : Nat, j < 4 → m8 175 j = (0 : Int32) := by have q_ := rm8; (try rw [z6] at q_); exact q_
  have K11c := K11
  have w12 : (m8 170 1).toInt = (m1 170 1).toInt := congrArg Int32.toInt (K11 170 1 (wr_out (by decide)))
  have K11 := K3.trans (K11.sub (wl_sub (by decide)))
  show PV _ _ _ _ _ _ _ 16 [.ref 169, pv_U, pv_U, pv_U, pv_U, pv_U, pv_U, pv_U] [] _
  have kC0 : CK m8 pp 0 := CK_0 hp1 hp2 (fun b j h => K11 b j (wo_t (by omega))) hp0 (fun d hd => by rw [rm8 d (by omega)]; exact Int32.toInt_zero)
  have k16z : (m8 170 1).toInt = 0 := by have z := congrArg Int32.toInt (K11c 170 1 (wr_out (by omega))); rw [z, e4, up2_eq]; decide
  have kz0 : ∀ d, d < 4 → (m8 175 d).toInt = 0 := fun d hd => by rw [rm8 d (by omega)]; exact Int32.toInt_zero
  refine pv_iconst (M := mX3_trace) (v := 0) dX3_trace_16 17 rfl (by decide) ?_
  refine pv_istore_n (M := mX3_trace) 1 (lo2 := [.ref 169, .int 0, pv_U, pv_U, pv_U, pv_U, pv_U, pv_U]) dX3_trace_17 18 rfl rfl (by decide) rfl rfl ?_
  refine pv_aload_n (M := mX3_trace) 0 dX3_trace_18 19 rfl rfl rfl ?_
  refine mv_get (M := mX3_trace) (v := .ref 178) dX3_trace_19 FX3 8 wd989 (by decide) (tc169 hC) rfl rfl 22 rfl ?_
  refine pv_iconst (M := mX3_trace) (v := 0) dX3_trace_22 23 rfl (by decide) ?_
  refine iv_iald (M := mX3_trace) (X := 0) (l1 := (-2147483648)) (l2 := 2147483647) dX3_trace_23 (tc178 hC) (by decide) (by omega) (by omega) I10 (fun _ => rfl) 24 rfl (fun v16 ev16 pv16 qv16 => ?_)
  have k24 : v16.toInt = (m 178 0).toInt := congrArg Int32.toInt (ev16.trans (K11 178 _ (wo_t (by omega))))
  refine pv_istore_n (M := mX3_trace) 2 (lo2 := [.ref 169, .int 0, .int v16, pv_U, pv_U, pv_U, pv_U, pv_U]) dX3_trace_24 25 rfl rfl (by decide) rfl rfl ?_
  have lp25 : ∀ (fuel24 : Nat) (y18 : Int32) (y19 : Int32) (m20 : Nat → Nat → Int32) (n21 : Nat → Nat → Int64), (0 ≤ y18.toInt) → (y18.toInt ≤ 28560) → (-2147483648 ≤ y19.toInt) → (y19.toInt ≤ 48) → (CK m20 pp y18.toInt) → ((m20 170 1).toInt = (m 178 0).toInt - y19.toInt) → (0 ≤ y19.toInt) → (TRC m m20 pp y18.toInt y19.toInt) → IV BB m20 → fr (wl [(170, 171, none), (175, 175, none), (177, 177, none)]) m m20 → ((y19.toInt - (-2147483648)) : Int).toNat < fuel24 → PV none g mX3_trace (sqV T BB (wl [(170, 171, none), (175, 175, none), (177, 177, none)]) r m (fun m' => (m' 170 1).toInt = (m 178 0).toInt ∧ (L25 (szp m pp) (srp m pp) → ∃ a, PTH (szp m pp) (srp m pp) (ftb m pp) (fun i => (m' 171 i).toInt) (m' 170 1).toInt.toNat a))) 3 0 0 25 [.ref 169, .int y18, .int y19, pv_U, pv_U, pv_U, pv_U, pv_U] [] (mk T m20 n21 r) := by
    intro fuel24
    induction fuel24 with
    | zero => intro y18 y19 m20 n21 b27 b28 b29 b30 b31 b32 b33 b34 I22 K23 z35; omega
    | succ fuel24 ih26 =>
      intro y18 y19 m20 n21 b27 b28 b29 b30 b31 b32 b33 b34 I22 K23 z35
      have z36 : 0 ≤ (m20 170 1).toInt ∧ (m20 170 1).toInt ≤ 48 := I22 170 1
      have kC := (show CK m20 pp y18.toInt by assumption)
      have kgT25 := (show TRC m m20 pp y18.toInt y19.toInt by assumption)
      refine pv_iload_n (M := mX3_trace) 2 dX3_trace_25 26 rfl rfl rfl ?_
      refine pv_if_le (M := mX3_trace) (tgt := 129) dX3_trace_26 29 rfl (by decide) (fun c39 => ?_) (fun c39 => ?_)
      · have c39 := iv_le (X := y19.toInt) (Y := 0) c39 rfl (by decide)
        exact pv_vret (M := mX3_trace) dX3_trace_129 rfl ⟨_, _, rfl, rfl, I22, K23, ⟨by omega, fun hl => ⟨_, (kgT25 hl).2.2.2⟩⟩⟩
      · have c39 := iv_nle (X := y19.toInt) (Y := 0) c39 rfl (by decide)
        refine pv_aload_n (M := mX3_trace) 0 dX3_trace_29 30 rfl rfl rfl ?_
        refine pv_callv (M := mX3_trace) (as := []) (st := []) (kc2 := 0) (ks2 := 0) dX3_trace_30 wd1025 YX3_lookAhead ⟨wd1027, wd41⟩ (mk_get (tc169 hC)) rfl rfl (s_X3_lookAhead g hT I22 hC P hp0 kC.2.1) rfl rfl (Nat.le_of_ble_eq_true rfl) (by decide) rfl rfl 33 rfl (fun rv h1 q40 => ?_)
        obtain ⟨m41, n42, rfl, rfl, I43, K44, rm41⟩ := q40
        replace rm41 : ∀ d, d < 4 → (m41 177 d).toInt = lap m20 pp d := rm41
        have K44c := K44
        have w45 : (m41 170 1).toInt = (m20 170 1).toInt := congrArg Int32.toInt (K44 170 1 (wr_out (by decide)))
        have K44 := K23.trans (K44.sub (wl_sub (by decide)))
        show PV _ _ _ _ _ _ _ 33 [.ref 169, .int y18, .int y19, pv_U, pv_U, pv_U, pv_U, pv_U] [] _
        have kC1 : CK m41 pp y18.toInt := CK_eq kC (fun b j h => K44c b j (wr_out (by omega))) hp0
        have kA1 : AHe m41 pp 0 := AHe_0 (m := m) (fun d hd => (rm41 d hd).trans (lap_eq (fun b hb => funext fun j => (K44c b j (wr_out (by omega)))) hp0 d hd).symm)
        have kT1 : TRC m m41 pp y18.toInt y19.toInt := TRC_eq kgT25 (fun b j q => K44c b j (wr_out (by omega)))
        refine pv_bipush (M := mX3_trace) (v := 26) dX3_trace_33 35 rfl (by decide) ?_
        refine pv_istore_n (M := mX3_trace) 3 (lo2 := [.ref 169, .int y18, .int y19, .int 26, pv_U, pv_U, pv_U, pv_U]) dX3_trace_35 36 rfl rfl (by decide) rfl rfl ?_
        refine pv_iconst (M := mX3_trace) (v := 0) dX3_trace_36 37 rfl (by decide) ?_
        refine pv_istore (M := mX3_trace) (lo2 := [.ref 169, .int y18, .int y19, .int 26, .int 0, pv_U, pv_U, pv_U]) dX3_trace_37 39 rfl (by decide) rfl rfl ?_
        refine pv_iconst (M := mX3_trace) (v := 0) dX3_trace_39 40 rfl (by decide) ?_
        refine pv_istore (M := mX3_trace) (lo2 := [.ref 169, .int y18, .int y19, .int 26, .int 0, .int 0, pv_U, pv_U]) dX3_trace_40 42 rfl (by decide) rfl rfl ?_
        have lp57 : ∀ (fuel56 : Nat) (y49 : Int32) (y50 : Int32) (y51 : Int32) (m52 : Nat → Nat → Int32) (n53 : Nat → Nat → Int64), (-2147483648 ≤ y49.toInt) → (y49.toInt ≤ 26) → (0 ≤ y50.toInt) → (y50.toInt ≤ 28560) → (0 ≤ y51.toInt) → (y51.toInt ≤ 4) → (CK m52 pp y18.toInt) → (AHe m52 pp y51.toInt.toNat) → (y49.toInt ≠ -1) → (y50.toInt ≤ wn (szp m52 pp) (hw m52 pp y49.toInt) 4) → ((m52 170 1).toInt = (m20 170 1).toInt) → (TRC m m52 pp y18.toInt y19.toInt) → (BSC m m52 pp y19.toInt y51.toInt.toNat y49.toInt y50.toInt) → IV BB m52 → fr (wl [(170, 171, none), (175, 175, none), (177, 177, none)]) m m52 → ((4 - y51.toInt) : Int).toNat < fuel56 → PV none g mX3_trace (sqV T BB (wl [(170, 171, none), (175, 175, none), (177, 177, none)]) r m (fun m' => (m' 170 1).toInt = (m 178 0).toInt ∧ (L25 (szp m pp) (srp m pp) → ∃ a, PTH (szp m pp) (srp m pp) (ftb m pp) (fun i => (m' 171 i).toInt) (m' 170 1).toInt.toNat a))) 3 0 0 42 [.ref 169, .int y18, .int y19, .int y49, .int y50, .int y51, pv_U, pv_U] [] (mk T m52 n53 r) := by
          intro fuel56
          induction fuel56 with
          | zero => intro y49 y50 y51 m52 n53 b59 b60 b61 b62 b63 b64 b65 b66 b67 b68 b69 b70 b71 I54 K55 z72; omega
          | succ fuel56 ih58 =>
            intro y49 y50 y51 m52 n53 b59 b60 b61 b62 b63 b64 b65 b66 b67 b68 b69 b70 b71 I54 K55 z72
            have z73 : 0 ≤ (m52 170 1).toInt ∧ (m52 170 1).toInt ≤ 48 := I54 170 1
            have kg1 := (show CK m52 pp y18.toInt by assumption)
            have kg2 := (show AHe m52 pp y51.toInt.toNat by assumption)
            have kg3 := (show y49.toInt ≠ -1 by assumption)
            have kg4 := (show y50.toInt ≤ wn (szp m52 pp) (hw m52 pp y49.toInt) 4 by assumption)
            have kgl := CK_le kg1
            have kgT := (show TRC m m52 pp y18.toInt y19.toInt by assumption)
            have kgB := (show BSC m m52 pp y19.toInt y51.toInt.toNat y49.toInt y50.toInt by assumption)
            have kr42 : ∀ b j, b ≤ 76 ∨ b = 173 ∨ b = 174 → m52 b j = m b j := fun b j q => K55 b j (wo_t (by omega))
            refine pv_iload (M := mX3_trace) dX3_trace_42 44 rfl rfl ?_
            refine pv_iconst (M := mX3_trace) (v := 4) dX3_trace_44 45 rfl (by decide) ?_
            refine pv_icmp_ge (M := mX3_trace) (tgt := 105) dX3_trace_45 48 rfl (by decide) (fun c82 => ?_) (fun c82 => ?_)
            · have c82 := iv_le (X := 4) (Y := y51.toInt) c82 (by decide) rfl
              have kB4 : BSC m m52 pp y19.toInt 4 y49.toInt y50.toInt := by have q := kgB; rw [show y51.toInt.toNat = 4 by omega] at q; exact q
              refine pv_aload_n (M := mX3_trace) 0 dX3_trace_105 106 rfl rfl rfl ?_
              refine mv_get (M := mX3_trace) (v := .ref 170) dX3_trace_106 FX3 0 wd979 (by decide) (tc169 hC) rfl rfl 109 rfl ?_
              refine pv_iload_n (M := mX3_trace) 3 dX3_trace_109 110 rfl rfl rfl ?_
              refine pv_callv (M := mX3_trace) (as := [.int y49]) (st := []) (kc2 := 0) (ks2 := 0) dX3_trace_110 wd1038 YX8_add ⟨wd488, wd489⟩ (mk_get (tc170 hC)) rfl rfl (s_X8_add_vy g hT I54 170 48 (row170 hC) y49 (by omega)) rfl rfl (Nat.le_of_ble_eq_true rfl) (by decide) rfl rfl 113 rfl (fun rv h1 q84 => ?_)
              obtain ⟨m85, n86, rfl, rfl, I87, K88, rm85⟩ := q84
              replace rm85 : (m85 170 1).toInt = (m52 170 1).toInt + 1 ∧ m85 (170 + 1) (m52 170 1).toInt.toNat = y49 ∧ ∀ j : Nat, j ≠ (m52 170 1).toInt.toNat → m85 (170 + 1) j = m52 (170 + 1) j := rm85
              have K88c := K88
              have K88 := K55.trans (K88.sub (wl_sub (by decide)))
              show PV _ _ _ _ _ _ _ 113 [.ref 169, .int y18, .int y19, .int y49, .int y50, .int y51, pv_U, pv_U] [] _
              have kf3 : ∀ b j, b ≤ 76 ∨ (173 ≤ b ∧ b ≤ 176) → m85 b j = m52 b j := fun b j h => K88c b j (wr_out (by omega))
              have kC3 : CK m85 pp y18.toInt := CK_eq kg1 kf3 hp0
              have kW3 : y50.toInt ≤ wn (szp m85 pp) (hw m85 pp y49.toInt) 4 := by rw [wnh_eq kf3 hp0]; exact kg4
              have k113 := rm85.1
              have k113b := rm85.2
              refine pv_iload_n (M := mX3_trace) 1 dX3_trace_113 114 rfl rfl rfl ?_
              refine pv_iload (M := mX3_trace) dX3_trace_114 116 rfl rfl ?_
              refine iv_iadd (M := mX3_trace) (X := y18.toInt) (Y := y50.toInt) dX3_trace_116 117 rfl rfl rfl (by omega) (by omega) (fun v94 ev94 => ?_)
              refine pv_istore_n (M := mX3_trace) 1 (lo2 := [.ref 169, .int v94, .int y19, .int y49, .int y50, .int y51, pv_U, pv_U]) dX3_trace_117 118 rfl rfl (by decide) rfl rfl ?_
              refine pv_aload_n (M := mX3_trace) 0 dX3_trace_118 119 rfl rfl rfl ?_
              refine pv_iload_n (M := mX3_trace) 3 dX3_trace_119 120 rfl rfl rfl ?_
              refine pv_callv (M := mX3_trace) (as := [.int y49]) (st := []) (kc2 := 0) (ks2 := 0) dX3_trace_120 wd1039 YX3_settleLetter ⟨wd1041, wd44⟩ (mk_get (tc169 hC)) rfl rfl (s_X3_settleLetter g hT I87 hC P y49 hp0 kC3.1 kC3.2.1 (by omega)) rfl rfl (Nat.le_of_ble_eq_true rfl) (by decide) rfl rfl 123 rfl (fun rv h1 q95 => ?_)
              obtain ⟨m96, n97, rfl, rfl, I98, K99, rm96⟩ := q95
              replace rm96 : ∀ d, d < 4 → (m96 175 d).toInt = atp m85 d + hw m85 pp y49.toInt d := rm96
              have K99c := K99
              have w100 : (m96 170 1).toInt = (m85 170 1).toInt := congrArg Int32.toInt (K99 170 1 (wr_out (by decide)))
              have K99 := K88.trans (K99.sub (wl_sub (by decide)))
              show PV _ _ _ _ _ _ _ 123 [.ref 169, .int v94, .int y19, .int y49, .int y50, .int y51, pv_U, pv_U] [] _
              have k123 : ∀ d, d < 4 → (m96 175 d).toInt = atp m52 d + hw m52 pp y49.toInt d := fun d hd => (rm96 d hd).trans (by rw [(CX_eq2 kf3 hp0).2.1 d]; unfold hw; rw [(CX_eq2 kf3 hp0).2.2 d hd])
              have kC4 : CK m96 pp v94.toInt := by rw [ev94]; exact CK_step kC3 hp0 kg3 (by omega) kW3 (fun b j h => K99c b j (wr_out (by omega))) rm96
              have kC5 := CK_le kC4
              have kT4 : TRC m m96 pp v94.toInt (y19.toInt - 1) := TRC_step kgT kB4 hp5 hp1 hp0 kr42 (by omega) (by omega) ((congrArg Int32.toInt (K99c 170 1 (wr_out (by omega)))).trans k113) (congrArg Int32.toInt ((K99c 171 _ (wr_out (by omega))).trans k113b.1)) (fun j q => (K99c 171 j (wr_out (by omega))).trans (k113b.2 j q)) k123 (by omega) rfl
              refine iv_inc (M := mX3_trace) (C := (-1)) dX3_trace_123 126 rfl rfl (by decide) rfl rfl (by decide) (by omega) (by omega) (fun v105 ev105 => ?_)
              show PV _ _ _ _ _ _ _ 126 [.ref 169, .int v94, .int v105, .int y49, .int y50, .int y51, pv_U, pv_U] [] _
              refine pv_goto (M := mX3_trace) (tgt := 25) dX3_trace_126 (by decide) ?_
              refine pv_fg (lo2 := [.ref 169, .int v94, .int v105, pv_U, pv_U, pv_U, pv_U, pv_U]) ⟨Or.inr rfl, ⟨Or.inr rfl, ⟨Or.inr rfl, ⟨Or.inl rfl, ⟨Or.inl rfl, ⟨Or.inl rfl, ⟨Or.inl rfl, ⟨Or.inl rfl, trivial⟩⟩⟩⟩⟩⟩⟩⟩ ?_
              have kT5 : TRC m m96 pp v94.toInt v105.toInt := by rw [show v105.toInt = y19.toInt - 1 by omega]; exact kT4
              exact ih26 v94 v105 m96 n97 (by first | omega | assumption | exact (iv_rng _).2 | exact (iv_rng _).1 | decide) (by first | omega | assumption | exact (iv_rng _).2 | exact (iv_rng _).1 | decide) (by first | omega | assumption | exact (iv_rng _).2 | exact (iv_rng _).1 | decide) (by first | omega | assumption | exact (iv_rng _).2 | exact (iv_rng _).1 | decide) kC4 (by first | omega | assumption | (show (m96 170 1).toInt = (m 178 0).toInt - v105.toInt; omega) | decide) (by first | omega | assumption | (show 0 ≤ v105.toInt; omega) | decide) kT5 I98 K99 (by omega)
            · have c82 := iv_nle (X := 4) (Y := y51.toInt) c82 (by decide) rfl
              refine pv_aload_n (M := mX3_trace) 0 dX3_trace_48 49 rfl rfl rfl ?_
              refine mv_get (M := mX3_trace) (v := .ref 177) dX3_trace_49 FX3 7 wd988 (by decide) (tc169 hC) rfl rfl 52 rfl ?_
              refine pv_iload (M := mX3_trace) dX3_trace_52 54 rfl rfl ?_
              refine iv_iald (M := mX3_trace) (X := y51.toInt) (l1 := (-2147483648)) (l2 := 2147483647) dX3_trace_54 (tc177 hC) rfl (by omega) (by omega) I54 (fun _ => rfl) 55 rfl (fun v107 ev107 pv107 qv107 => ?_)
              have k55 : v107.toInt = (m52 177 y51.toInt.toNat).toInt := congrArg Int32.toInt ev107
              refine pv_istore (M := mX3_trace) (lo2 := [.ref 169, .int y18, .int y19, .int y49, .int y50, .int y51, .int v107, pv_U]) dX3_trace_55 57 rfl (by decide) rfl rfl ?_
              refine pv_iload (M := mX3_trace) dX3_trace_57 59 rfl rfl ?_
              refine pv_iconst (M := mX3_trace) (v := (-1)) dX3_trace_59 60 rfl (by decide) ?_
              refine pv_icmp_eq (M := mX3_trace) (tgt := 99) dX3_trace_60 63 rfl (by decide) (fun c109 => ?_) (fun c109 => ?_)
              · have c109 := iv_eq (X := v107.toInt) (Y := (-1)) c109 rfl (by decide)
                refine iv_inc (M := mX3_trace) (C := 1) dX3_trace_99 102 rfl rfl (by decide) rfl rfl (by decide) (by omega) (by omega) (fun v110 ev110 => ?_)
                show PV _ _ _ _ _ _ _ 102 [.ref 169, .int y18, .int y19, .int y49, .int y50, .int v110, .int v107, pv_U] [] _
                refine pv_goto (M := mX3_trace) (tgt := 42) dX3_trace_102 (by decide) ?_
                refine pv_fg (lo2 := [.ref 169, .int y18, .int y19, .int y49, .int y50, .int v110, pv_U, pv_U]) ⟨Or.inr rfl, ⟨Or.inr rfl, ⟨Or.inr rfl, ⟨Or.inr rfl, ⟨Or.inr rfl, ⟨Or.inr rfl, ⟨Or.inl rfl, ⟨Or.inl rfl, trivial⟩⟩⟩⟩⟩⟩⟩⟩ ?_
                have kb1 : CK m52 pp y18.toInt := by first | exact kg1 | exact kC2
                have kb2 : AHe m52 pp v110.toInt.toNat := by rw [show v110.toInt.toNat = (y51.toInt).toNat + 1 by omega]; first | exact kA2 | exact AHe_skip kg2 (by omega) (by omega)
                have kb3 : y49.toInt ≠ -1 := by first | exact kg3 | omega
                have kb4 : y50.toInt ≤ wn (szp m52 pp) (hw m52 pp y49.toInt) 4 := by first | exact kg4 | (rw [kW2]; exact kg4) | (rw [kW2, k55]; exact k69)
                have kbT : TRC m m52 pp y18.toInt y19.toInt := by first | exact kT2 | exact kgT
                have kbB : BSC m m52 pp y19.toInt v110.toInt.toNat y49.toInt y50.toInt := by rw [show v110.toInt.toNat = (y51.toInt).toNat + 1 by omega]; first | exact BSC_take kgT kgB hp0 (by omega) kr42 k63 (by omega) k69e rfl k695 (by omega) | exact BSC_skip kgB hp0 (by omega) kr42 (AHe_m1 kg2 (by omega) (by omega))
                exact ih58 y49 y50 v110 m52 n53 (by first | omega | assumption | exact (iv_rng _).2 | exact (iv_rng _).1 | decide) (by first | omega | assumption | exact (iv_rng _).2 | exact (iv_rng _).1 | decide) (by first | omega | assumption | exact (iv_rng _).2 | exact (iv_rng _).1 | decide) (by first | omega | assumption | exact (iv_rng _).2 | exact (iv_rng _).1 | decide) (by first | omega | assumption | exact (iv_rng _).2 | exact (iv_rng _).1 | decide) (by first | omega | assumption | exact (iv_rng _).2 | exact (iv_rng _).1 | decide) kb1 kb2 kb3 kb4 (by first | omega | assumption | (show (m52 170 1).toInt = (m20 170 1).toInt; omega) | decide) kbT kbB I54 K55 (by omega)
              · have c109 := iv_ne (X := v107.toInt) (Y := (-1)) c109 rfl (by decide)
                have kne0 := (AHe_let kg2 (by omega) (by omega)).1
                have k63 : v107.toInt = lap m52 pp y51.toInt.toNat := by omega
                refine pv_aload_n (M := mX3_trace) 0 dX3_trace_63 64 rfl rfl rfl ?_
                refine pv_iload (M := mX3_trace) dX3_trace_64 66 rfl rfl ?_
                refine pv_callv (M := mX3_trace) (as := [.int y51]) (st := []) (kc2 := 0) (ks2 := 0) dX3_trace_66 wd1029 YX3_takeLetter ⟨wd1031, wd42⟩ (mk_get (tc169 hC)) rfl rfl (s_X3_takeLetter_ve g hT I54 hC P y51 (by omega) (by omega) hp0 kg1.1 kg1.2.1 kg1.2.2.1 kg2 (by omega)) rfl rfl (Nat.le_of_ble_eq_true rfl) (by decide) rfl rfl 69 rfl (fun rv h1 q119 => ?_)
                obtain ⟨m120, n121, v124, rfl, rfl, I122, K123, pv124, qv124, rv124⟩ := q119
                replace rv124 : v124.toInt = wn (szp m52 pp) (hw m52 pp (lap m52 pp y51.toInt.toNat)) 4 ∧ AHe m120 pp (y51.toInt.toNat + 1) := rv124
                have K123c := K123
                have w125 : (m120 170 1).toInt = (m52 170 1).toInt := congrArg Int32.toInt (K123 170 1 (wr_out (by decide)))
                have K123 := K55.trans (K123.sub (wl_sub (by decide)))
                show PV _ _ _ _ _ _ _ 69 [.ref 169, .int y18, .int y19, .int y49, .int y50, .int y51, .int v107, pv_U] [.int v124] _
                have k69e := rv124.1
                have k69 : v124.toInt ≤ wn (szp m52 pp) (hw m52 pp (m52 177 y51.toInt.toNat).toInt) 4 := by rw [kne0]; omega
                have kA2 := rv124.2
                have kf2 : ∀ b j, b ≤ 76 ∨ (173 ≤ b ∧ b ≤ 176) → m120 b j = m52 b j := fun b j h => K123c b j (wr_out (by omega))
                have kC2 : CK m120 pp y18.toInt := CK_eq kg1 kf2 hp0
                have kW2 := wnh_eq kf2 hp0
                have k69b : y18.toInt + v124.toInt ≤ 28560 := by have a := hw_le kg1.1 kg1.2.1 (l := (m52 177 y51.toInt.toNat).toInt) (by omega); have b := kg1.2.2.2.2; omega
                have k695 : ∀ j, m120 175 j = m52 175 j := fun j => K123c 175 j (wr_out (by omega))
                have kT2 : TRC m m120 pp y18.toInt y19.toInt := TRC_eq kgT (fun b j q => K123c b j (wr_out (by omega)))
                refine pv_istore (M := mX3_trace) (lo2 := [.ref 169, .int y18, .int y19, .int y49, .int y50, .int y51, .int v107, .int v124]) dX3_trace_69 71 rfl (by decide) rfl rfl ?_
                refine pv_iload (M := mX3_trace) dX3_trace_71 73 rfl rfl ?_
                refine pv_iload_n (M := mX3_trace) 3 dX3_trace_73 74 rfl rfl rfl ?_
                refine pv_icmp_ge (M := mX3_trace) (tgt := 99) dX3_trace_74 77 rfl (by decide) (fun c135 => ?_) (fun c135 => ?_)
                · have c135 := iv_le (X := y49.toInt) (Y := v107.toInt) c135 rfl rfl
                  refine iv_inc (M := mX3_trace) (C := 1) dX3_trace_99 102 rfl rfl (by decide) rfl rfl (by decide) (by omega) (by omega) (fun v136 ev136 => ?_)
                  show PV _ _ _ _ _ _ _ 102 [.ref 169, .int y18, .int y19, .int y49, .int y50, .int v136, .int v107, .int v124] [] _
                  refine pv_goto (M := mX3_trace) (tgt := 42) dX3_trace_102 (by decide) ?_
                  refine pv_fg (lo2 := [.ref 169, .int y18, .int y19, .int y49, .int y50, .int v136, pv_U, pv_U]) ⟨Or.inr rfl, ⟨Or.inr rfl, ⟨Or.inr rfl, ⟨Or.inr rfl, ⟨Or.inr rfl, ⟨Or.inr rfl, ⟨Or.inl rfl, ⟨Or.inl rfl, trivial⟩⟩⟩⟩⟩⟩⟩⟩ ?_
                  have kb1 : CK m120 pp y18.toInt := by first | exact kg1 | exact kC2
                  have kb2 : AHe m120 pp v136.toInt.toNat := by rw [show v136.toInt.toNat = (y51.toInt).toNat + 1 by omega]; first | exact kA2 | exact AHe_skip kg2 (by omega) (by omega)
                  have kb3 : y49.toInt ≠ -1 := by first | exact kg3 | omega
                  have kb4 : y50.toInt ≤ wn (szp m120 pp) (hw m120 pp y49.toInt) 4 := by first | exact kg4 | (rw [kW2]; exact kg4) | (rw [kW2, k55]; exact k69)
                  have kbT : TRC m m120 pp y18.toInt y19.toInt := by first | exact kT2 | exact kgT
                  have kbB : BSC m m120 pp y19.toInt v136.toInt.toNat y49.toInt y50.toInt := by rw [show v136.toInt.toNat = (y51.toInt).toNat + 1 by omega]; first | exact BSC_take kgT kgB hp0 (by omega) kr42 k63 (by omega) k69e rfl k695 (by omega) | exact BSC_skip kgB hp0 (by omega) kr42 (AHe_m1 kg2 (by omega) (by omega))
                  exact ih58 y49 y50 v136 m120 n121 (by first | omega | assumption | exact (iv_rng _).2 | exact (iv_rng _).1 | decide) (by first | omega | assumption | exact (iv_rng _).2 | exact (iv_rng _).1 | decide) (by first | omega | assumption | exact (iv_rng _).2 | exact (iv_rng _).1 | decide) (by first | omega | assumption | exact (iv_rng _).2 | exact (iv_rng _).1 | decide) (by first | omega | assumption | exact (iv_rng _).2 | exact (iv_rng _).1 | decide) (by first | omega | assumption | exact (iv_rng _).2 | exact (iv_rng _).1 | decide) kb1 kb2 kb3 kb4 (by first | omega | assumption | (show (m120 170 1).toInt = (m20 170 1).toInt; omega) | decide) kbT kbB I122 K123 (by omega)
                · have c135 := iv_nle (X := y49.toInt) (Y := v107.toInt) c135 rfl rfl
                  refine pv_aload_n (M := mX3_trace) 0 dX3_trace_77 78 rfl rfl rfl ?_
                  refine mv_get (M := mX3_trace) (v := .ref 178) dX3_trace_78 FX3 8 wd989 (by decide) (tc169 hC) rfl rfl 81 rfl ?_
                  refine pv_iload_n (M := mX3_trace) 1 dX3_trace_81 82 rfl rfl rfl ?_
                  refine pv_iload (M := mX3_trace) dX3_trace_82 84 rfl rfl ?_
                  refine iv_iadd (M := mX3_trace) (X := y18.toInt) (Y := v124.toInt) dX3_trace_84 85 rfl rfl rfl (by omega) (by omega) (fun v143 ev143 => ?_)
                  have k85 : v143.toInt = y18.toInt + v124.toInt := by omega
                  refine iv_iald (M := mX3_trace) (X := v143.toInt) (l1 := (-2147483648)) (l2 := 2147483647) dX3_trace_85 (tc178 hC) rfl (by omega) (by omega) I122 (fun _ => rfl) 86 rfl (fun v145 ev145 pv145 qv145 => ?_)
                  have k86 : v145.toInt = (m 178 (y18.toInt + v124.toInt).toNat).toInt := (congrArg Int32.toInt (ev145.trans (K123 178 _ (wo_t (by omega))))).trans (by rw [k85])
                  refine pv_iload_n (M := mX3_trace) 2 dX3_trace_86 87 rfl rfl rfl ?_
                  refine pv_iconst (M := mX3_trace) (v := 1) dX3_trace_87 88 rfl (by decide) ?_
                  refine iv_isub (M := mX3_trace) (X := y19.toInt) (Y := 1) dX3_trace_88 89 rfl rfl (by decide) (by omega) (by omega) (fun v147 ev147 => ?_)
                  refine pv_icmp_ne (M := mX3_trace) (tgt := 99) dX3_trace_89 92 rfl (by decide) (fun c148 => ?_) (fun c148 => ?_)
                  · have c148 := iv_ne (X := v145.toInt) (Y := v147.toInt) c148 rfl rfl
                    refine iv_inc (M := mX3_trace) (C := 1) dX3_trace_99 102 rfl rfl (by decide) rfl rfl (by decide) (by omega) (by omega) (fun v149 ev149 => ?_)
                    show PV _ _ _ _ _ _ _ 102 [.ref 169, .int y18, .int y19, .int y49, .int y50, .int v149, .int v107, .int v124] [] _
                    refine pv_goto (M := mX3_trace) (tgt := 42) dX3_trace_102 (by decide) ?_
                    refine pv_fg (lo2 := [.ref 169, .int y18, .int y19, .int y49, .int y50, .int v149, pv_U, pv_U]) ⟨Or.inr rfl, ⟨Or.inr rfl, ⟨Or.inr rfl, ⟨Or.inr rfl, ⟨Or.inr rfl, ⟨Or.inr rfl, ⟨Or.inl rfl, ⟨Or.inl rfl, trivial⟩⟩⟩⟩⟩⟩⟩⟩ ?_
                    have kb1 : CK m120 pp y18.toInt := by first | exact kg1 | exact kC2
                    have kb2 : AHe m120 pp v149.toInt.toNat := by rw [show v149.toInt.toNat = (y51.toInt).toNat + 1 by omega]; first | exact kA2 | exact AHe_skip kg2 (by omega) (by omega)
                    have kb3 : y49.toInt ≠ -1 := by first | exact kg3 | omega
                    have kb4 : y50.toInt ≤ wn (szp m120 pp) (hw m120 pp y49.toInt) 4 := by first | exact kg4 | (rw [kW2]; exact kg4) | (rw [kW2, k55]; exact k69)
                    have kbT : TRC m m120 pp y18.toInt y19.toInt := by first | exact kT2 | exact kgT
                    have kbB : BSC m m120 pp y19.toInt v149.toInt.toNat y49.toInt y50.toInt := by rw [show v149.toInt.toNat = (y51.toInt).toNat + 1 by omega]; first | exact BSC_take kgT kgB hp0 (by omega) kr42 k63 (by omega) k69e rfl k695 (by omega) | exact BSC_skip kgB hp0 (by omega) kr42 (AHe_m1 kg2 (by omega) (by omega))
                    exact ih58 y49 y50 v149 m120 n121 (by first | omega | assumption | exact (iv_rng _).2 | exact (iv_rng _).1 | decide) (by first | omega | assumption | exact (iv_rng _).2 | exact (iv_rng _).1 | decide) (by first | omega | assumption | exact (iv_rng _).2 | exact (iv_rng _).1 | decide) (by first | omega | assumption | exact (iv_rng _).2 | exact (iv_rng _).1 | decide) (by first | omega | assumption | exact (iv_rng _).2 | exact (iv_rng _).1 | decide) (by first | omega | assumption | exact (iv_rng _).2 | exact (iv_rng _).1 | decide) kb1 kb2 kb3 kb4 (by first | omega | assumption | (show (m120 170 1).toInt = (m20 170 1).toInt; omega) | decide) kbT kbB I122 K123 (by omega)
                  · have c148 := iv_eq (X := v145.toInt) (Y := v147.toInt) c148 rfl rfl
                    refine pv_iload (M := mX3_trace) dX3_trace_92 94 rfl rfl ?_
                    refine pv_istore_n (M := mX3_trace) 3 (lo2 := [.ref 169, .int y18, .int y19, .int v107, .int y50, .int y51, .int v107, .int v124]) dX3_trace_94 95 rfl rfl (by decide) rfl rfl ?_
                    refine pv_iload (M := mX3_trace) dX3_trace_95 97 rfl rfl ?_
                    refine pv_istore (M := mX3_trace) (lo2 := [.ref 169, .int y18, .int y19, .int v107, .int v124, .int y51, .int v107, .int v124]) dX3_trace_97 99 rfl (by decide) rfl rfl ?_
                    refine iv_inc (M := mX3_trace) (C := 1) dX3_trace_99 102 rfl rfl (by decide) rfl rfl (by decide) (by omega) (by omega) (fun v156 ev156 => ?_)
                    show PV _ _ _ _ _ _ _ 102 [.ref 169, .int y18, .int y19, .int v107, .int v124, .int v156, .int v107, .int v124] [] _
                    refine pv_goto (M := mX3_trace) (tgt := 42) dX3_trace_102 (by decide) ?_
                    refine pv_fg (lo2 := [.ref 169, .int y18, .int y19, .int v107, .int v124, .int v156, pv_U, pv_U]) ⟨Or.inr rfl, ⟨Or.inr rfl, ⟨Or.inr rfl, ⟨Or.inr rfl, ⟨Or.inr rfl, ⟨Or.inr rfl, ⟨Or.inl rfl, ⟨Or.inl rfl, trivial⟩⟩⟩⟩⟩⟩⟩⟩ ?_
                    have kb1 : CK m120 pp y18.toInt := by first | exact kg1 | exact kC2
                    have kb2 : AHe m120 pp v156.toInt.toNat := by rw [show v156.toInt.toNat = (y51.toInt).toNat + 1 by omega]; first | exact kA2 | exact AHe_skip kg2 (by omega) (by omega)
                    have kb3 : v107.toInt ≠ -1 := by first | exact kg3 | omega
                    have kb4 : v124.toInt ≤ wn (szp m120 pp) (hw m120 pp v107.toInt) 4 := by first | exact kg4 | (rw [kW2]; exact kg4) | (rw [kW2, k55]; exact k69)
                    have kbT : TRC m m120 pp y18.toInt y19.toInt := by first | exact kT2 | exact kgT
                    have kbB : BSC m m120 pp y19.toInt v156.toInt.toNat v107.toInt v124.toInt := by rw [show v156.toInt.toNat = (y51.toInt).toNat + 1 by omega]; first | exact BSC_take kgT kgB hp0 (by omega) kr42 k63 (by omega) k69e rfl k695 (by omega) | exact BSC_skip kgB hp0 (by omega) kr42 (AHe_m1 kg2 (by omega) (by omega))
                    exact ih58 v107 v124 v156 m120 n121 (by first | omega | assumption | exact (iv_rng _).2 | exact (iv_rng _).1 | decide) (by first | omega | assumption | exact (iv_rng _).2 | exact (iv_rng _).1 | decide) (by first | omega | assumption | exact (iv_rng _).2 | exact (iv_rng _).1 | decide) (by first | omega | assumption | exact (iv_rng _).2 | exact (iv_rng _).1 | decide) (by first | omega | assumption | exact (iv_rng _).2 | exact (iv_rng _).1 | decide) (by first | omega | assumption | exact (iv_rng _).2 | exact (iv_rng _).1 | decide) kb1 kb2 kb3 kb4 (by first | omega | assumption | (show (m120 170 1).toInt = (m20 170 1).toInt; omega) | decide) kbT kbB I122 K123 (by omega)
        have z163 : (26 : Int32).toInt = 26 := by decide
        have z164 : (0 : Int32).toInt = 0 := by decide
        have z165 : (0 : Int32).toInt = 0 := by decide
        exact lp57 (((4 - 0) : Int).toNat + 1) 26 0 0 m41 n42 (by first | omega | assumption | exact (iv_rng _).2 | exact (iv_rng _).1 | decide) (by first | omega | assumption | exact (iv_rng _).2 | exact (iv_rng _).1 | decide) (by first | omega | assumption | exact (iv_rng _).2 | exact (iv_rng _).1 | decide) (by first | omega | assumption | exact (iv_rng _).2 | exact (iv_rng _).1 | decide) (by first | omega | assumption | exact (iv_rng _).2 | exact (iv_rng _).1 | decide) (by first | omega | assumption | exact (iv_rng _).2 | exact (iv_rng _).1 | decide) kC1 kA1 (by decide) (by rw [Int32.toInt_zero]; exact wn_b kC1.1 (fun d => (hw_b _ _ _ d).1) _ (by omega)) (by first | omega | assumption | (show (m41 170 1).toInt = (m20 170 1).toInt; omega) | decide) kT1 BSC_0 I43 K44 (by omega)
  have z166 : (0 : Int32).toInt = 0 := by decide
  exact lp25 (((v16.toInt - (-2147483648)) : Int).toNat + 1) 0 v16 m8 n9 (by first | omega | assumption | exact (iv_rng _).2 | exact (iv_rng _).1 | decide) (by first | omega | assumption | exact (iv_rng _).2 | exact (iv_rng _).1 | decide) (by first | omega | assumption | exact (iv_rng _).2 | exact (iv_rng _).1 | decide) (by first | omega | assumption | exact (iv_rng _).2 | exact (iv_rng _).1 | decide) kC0 (by first | omega | assumption | (show (m8 170 1).toInt = (m 178 0).toInt - v16.toInt; omega) | decide) (by first | omega | assumption | (show 0 ≤ v16.toInt; omega) | decide) (TRC_0 hp1 kz0 k16z (by omega)) I10 K11 (by omega)

set_option maxHeartbeats 2000000 in
set_option maxRecDepth 20000 in
theorem s_X3_solve_vf (g : pv_G) {T : List mv_T} {m : Nat → Nat → Int32} {n : Nat → Nat → Int64} {r : Nat → Value} (hT : TX T) (I : IV BB m) (hC : TC T) {pp qq : Nat → Nat} (P : PX T r pp qq) (hp0 : Dj pp) (hp1 : S12 (szp m pp)) : PM g mX3_solve yX3_solve (sqV T BB (wl [(170, 171, none), (175, 178, none)]) r m (fun m' => TBL m' pp 0 ∧ (m' 170 1).toInt = (m' 178 0).toInt ∧ (L25 (szp m' pp) (srp m' pp) → ∃ a, PTH (szp m' pp) (srp m' pp) (ftb m' pp) (fun i => (m' 171 i).toInt) (m' 170 1).toInt.toNat a))) 4 0 0 [.ref 169] (mk T m n r) := by
  have Kp : fr (wl [(170, 171, none), (175, 178, none)]) m m := fr.rf
  refine PM.of 2 (lo := [.ref 169, pv_U, pv_U]) rfl (by decide) rfl rfl (Nat.le_of_ble_eq_true rfl) ?_
  refine pv_iconst (M := mX3_solve) (v := 1) dX3_solve_0 1 rfl (by decide) ?_
  refine pv_istore_n (M := mX3_solve) 1 (lo2 := [.ref 169, .int 1, pv_U]) dX3_solve_1 2 rfl rfl (by decide) rfl rfl ?_
  refine pv_iconst (M := mX3_solve) (v := 3) dX3_solve_2 3 rfl (by decide) ?_
  refine pv_istore_n (M := mX3_solve) 2 (lo2 := [.ref 169, .int 1, .int 3]) dX3_solve_3 4 rfl rfl (by decide) rfl rfl ?_
  have lp8 : ∀ (fuel7 : Nat) (y1 : Int32) (y2 : Int32) (m3 : Nat → Nat → Int32) (n4 : Nat → Nat → Int64), (1 ≤ y1.toInt) → (y1.toInt ≤ 28561) → (-1 ≤ y2.toInt) → (y2.toInt ≤ 3) → (y1.toInt = cA (szp m pp) (3 - y2.toInt).toNat) → (∀ d : Nat, d < 4 → y2.toInt < (d : Int) → (m3 176 d).toInt = cA (szp m pp) (3 - d)) → IV BB m3 → fr (wl [(170, 171, none), (175, 178, none)]) m m3 → ((y2.toInt - (-1)) : Int).toNat < fuel7 → PV none g mX3_solve (sqV T BB (wl [(170, 171, none), (175, 178, none)]) r m (fun m' => TBL m' pp 0 ∧ (m' 170 1).toInt = (m' 178 0).toInt ∧ (L25 (szp m' pp) (srp m' pp) → ∃ a, PTH (szp m' pp) (srp m' pp) (ftb m' pp) (fun i => (m' 171 i).toInt) (m' 170 1).toInt.toNat a))) 4 0 0 4 [.ref 169, .int y1, .int y2] [] (mk T m3 n4 r) := by
    intro fuel7
    induction fuel7 with
    | zero => intro y1 y2 m3 n4 b10 b11 b12 b13 b14 b15 I5 K6 z16; omega
    | succ fuel7 ih9 =>
      intro y1 y2 m3 n4 b10 b11 b12 b13 b14 b15 I5 K6 z16
      have kgA := (show y1.toInt = cA (szp m pp) (3 - y2.toInt).toNat by assumption)
      have kgB := (show ∀ d : Nat, d < 4 → y2.toInt < (d : Int) → (m3 176 d).toInt = cA (szp m pp) (3 - d) by assumption)
      refine pv_iload_n (M := mX3_solve) 2 dX3_solve_4 5 rfl rfl rfl ?_
      refine pv_if_lt (M := mX3_solve) (tgt := 35) dX3_solve_5 8 rfl (by decide) (fun c19 => ?_) (fun c19 => ?_)
      · have c19 := iv_lt (X := y2.toInt) (Y := 0) c19 rfl (by decide)
        have kS : ∀ d, d < 4 → szp m3 pp d = szp m pp d := szp_eq (fun b hb => funext fun j => K6 b j (wo_s (by omega))) hp0
        have kP : APx m3 pp := fun d hd => (kgB d hd (by omega)).trans (cA_of (fun e he => (kS e he).symm) _ (by omega))
        have kT : Szs (szp m3 pp) := fun d hd => by rw [kS d hd]; exact hp1 d hd
        have k4 : y1.toInt = cA (szp m3 pp) 4 := kgA.trans ((congrArg (cA (szp m pp)) (show (3 - y2.toInt).toNat = 4 by omega)).trans (cA_of (fun e he => (kS e he).symm) _ (by omega)))
        refine pv_aload_n (M := mX3_solve) 0 dX3_solve_35 36 rfl rfl rfl ?_
        refine mv_get (M := mX3_solve) (v := .ref 175) dX3_solve_36 FX3 5 wd986 (by decide) (tc169 hC) rfl rfl 39 rfl ?_
        refine pv_iconst (M := mX3_solve) (v := 0) dX3_solve_39 40 rfl (by decide) ?_
        refine pv_aload_n (M := mX3_solve) 0 dX3_solve_40 41 rfl rfl rfl ?_
        refine mv_get (M := mX3_solve) (v := .ref 172) dX3_solve_41 FX3 2 wd983 (by decide) (tc169 hC) rfl rfl 44 rfl ?_
        refine pv_iconst (M := mX3_solve) (v := 0) dX3_solve_44 45 rfl (by decide) ?_
        refine iv_qpart (M := mX3_solve) (X := 0) dX3_solve_45 hC P (by decide) (by omega) (by omega) 46 rfl (fun b24 rb24 eb24 fb24 hb24 => ?_)
        have zb24 := hb24.2.2.2.2
        refine iv_get (M := mX3_solve) (l1 := 0) (l2 := (rb24 : Int)) dX3_solve_46 FX8 1 wd197 (by decide) hb24.1 rfl I5 hb24.2.2.1 49 rfl (fun v25 ev25 pv25 qv25 => ?_)
        have kS0 : v25.toInt = szp m3 pp 0 := (congrArg Int32.toInt ev25).trans (congrArg (fun z => (m3 z 1).toInt) (by assumption))
        have kT0 := kT 0 (by omega)
        refine iv_iast (M := mX3_solve) (X := 0) (l1 := (-1)) (l2 := 12) dX3_solve_49 (tc175 hC) (by decide) (by omega) (by omega) I5 (fun _ => rfl) (by omega) (by omega) 50 rfl (fun m28 e31 I29 => ?_)
        have K30 := K6.set e31 rfl
        have lp38 : ∀ (fuel37 : Nat) (y32 : Int32) (m33 : Nat → Nat → Int32) (n34 : Nat → Nat → Int64), (SV0 m33 pp y32.toInt) → (TBL m33 pp y32.toInt) → IV BB m33 → fr (wl [(170, 171, none), (175, 178, none)]) m m33 → (((m33 175 0).toInt + 1) : Int).toNat < fuel37 → PV none g mX3_solve (sqV T BB (wl [(170, 171, none), (175, 178, none)]) r m (fun m' => TBL m' pp 0 ∧ (m' 170 1).toInt = (m' 178 0).toInt ∧ (L25 (szp m' pp) (srp m' pp) → ∃ a, PTH (szp m' pp) (srp m' pp) (ftb m' pp) (fun i => (m' 171 i).toInt) (m' 170 1).toInt.toNat a))) 4 0 0 50 [.ref 169, .int y32, .int y2] [] (mk T m33 n34 r) := by
          intro fuel37
          induction fuel37 with
          | zero => intro y32 m33 n34 b40 b41 I35 K36 z42; omega
          | succ fuel37 ih39 =>
            intro y32 m33 n34 b40 b41 I35 K36 z42
            have kv0 := (show SV0 m33 pp y32.toInt by assumption)
            have kw0 := kv0.1.2.2.2
            have ktv0 := (show TBL m33 pp y32.toInt by assumption)
            refine pv_aload_n (M := mX3_solve) 0 dX3_solve_50 51 rfl rfl rfl ?_
            refine mv_get (M := mX3_solve) (v := .ref 175) dX3_solve_51 FX3 5 wd986 (by decide) (tc169 hC) rfl rfl 54 rfl ?_
            refine pv_iconst (M := mX3_solve) (v := 0) dX3_solve_54 55 rfl (by decide) ?_
            refine iv_iald (M := mX3_solve) (X := 0) (l1 := (-1)) (l2 := 12) dX3_solve_55 (tc175 hC) (by decide) (by omega) (by omega) I35 (fun _ => rfl) 56 rfl (fun v46 ev46 pv46 qv46 => ?_)
            have k56 : v46.toInt = (m33 175 0).toInt := congrArg Int32.toInt ev46
            refine pv_if_lt (M := mX3_solve) (tgt := 191) dX3_solve_56 59 rfl (by decide) (fun c48 => ?_) (fun c48 => ?_)
            · have c48 := iv_lt (X := v46.toInt) (Y := 0) c48 rfl (by decide)
              have k191 : y32.toInt = 0 := by have a := kv0.2; rw [show (m33 175 0).toInt + 1 = 0 by omega, Int.zero_mul] at a; exact a
              have k191v : VL4 (szp m33 pp) (fun _ => 0) := fun d hd => ⟨Int.le_refl _, (kv0.1.1 d hd).1⟩
              have k191z : ix4 (szp m33 pp) (fun _ => 0) = 0 := by show (0 : Int) * cA (szp m33 pp) 3 + 0 * cA (szp m33 pp) 2 + 0 * cA (szp m33 pp) 1 + 0 * cA (szp m33 pp) 0 = 0; omega
              have k191b := TBL_b kv0.1.1 ktv0 (rst (szp m33 pp) (fun _ => 0)).toNat (fun _ => 0) k191v (by omega) (by have z := rst_0 k191v; omega)
              have k191r := rst_48 kv0.1.1 k191v
              have k191f : ftb m33 pp (fun _ => 0) = (m33 178 0).toInt := by unfold ftb; rw [k191z]; rfl
              refine pv_aload_n (M := mX3_solve) 0 dX3_solve_191 192 rfl rfl rfl ?_
              refine pv_callv (M := mX3_solve) (as := []) (st := []) (kc2 := 0) (ks2 := 0) dX3_solve_192 wd1033 YX3_trace ⟨wd1035, wd43⟩ (mk_get (tc169 hC)) rfl rfl (s_X3_trace_vf g hT I35 hC P hp0 kv0.1.1 kv0.1.2.1 (by omega) (by omega) (by rw [← k191]; exact ktv0)) rfl rfl (Nat.le_of_ble_eq_true rfl) (by decide) rfl rfl 195 rfl (fun rv h1 q55 => ?_)
              obtain ⟨m56, n57, rfl, rfl, I58, K59, rm56⟩ := q55
              replace rm56 : (m56 170 1).toInt = (m33 178 0).toInt ∧ (L25 (szp m33 pp) (srp m33 pp) → ∃ a, PTH (szp m33 pp) (srp m33 pp) (ftb m33 pp) (fun i => (m56 171 i).toInt) (m56 170 1).toInt.toNat a) := rm56
              have K59c := K59
              have K59 := K36.trans (K59.sub (wl_sub (by decide)))
              show PV _ _ _ _ _ _ _ 195 [.ref 169, .int y32, .int y2] [] _
              have k195 := rm56.1
              have k195p := rm56.2
              have k195f := K59c
              exact pv_vret (M := mX3_solve) dX3_solve_195 rfl ⟨_, _, rfl, rfl, I58, K59, ⟨TBL_eq hp0 (by rw [← k191]; exact ktv0) (fun b j z => k195f b j (wo_t (by omega))), k195.trans (congrArg Int32.toInt (k195f 178 0 (wo_t (by omega)))).symm, PTC_eq hp0 kv0.1.1 (fun b j z => k195f b j (wo_t (by omega))) (fun _ => rfl) k195p⟩⟩
            · have c48 := iv_nlt (X := v46.toInt) (Y := 0) c48 rfl (by decide)
              refine pv_aload_n (M := mX3_solve) 0 dX3_solve_59 60 rfl rfl rfl ?_
              refine mv_get (M := mX3_solve) (v := .ref 175) dX3_solve_60 FX3 5 wd986 (by decide) (tc169 hC) rfl rfl 63 rfl ?_
              refine pv_iconst (M := mX3_solve) (v := 1) dX3_solve_63 64 rfl (by decide) ?_
              refine pv_aload_n (M := mX3_solve) 0 dX3_solve_64 65 rfl rfl rfl ?_
              refine mv_get (M := mX3_solve) (v := .ref 172) dX3_solve_65 FX3 2 wd983 (by decide) (tc169 hC) rfl rfl 68 rfl ?_
              refine pv_iconst (M := mX3_solve) (v := 1) dX3_solve_68 69 rfl (by decide) ?_
              refine iv_qpart (M := mX3_solve) (X := 1) dX3_solve_69 hC P (by decide) (by omega) (by omega) 70 rfl (fun b63 rb63 eb63 fb63 hb63 => ?_)
              have zb63 := hb63.2.2.2.2
              refine iv_get (M := mX3_solve) (l1 := 0) (l2 := (rb63 : Int)) dX3_solve_70 FX8 1 wd197 (by decide) hb63.1 rfl I35 hb63.2.2.1 73 rfl (fun v64 ev64 pv64 qv64 => ?_)
              have kS1 : v64.toInt = szp m33 pp 1 := (congrArg Int32.toInt ev64).trans (congrArg (fun z => (m33 z 1).toInt) (by assumption))
              have kT1 := kv0.1.1 1 (by omega)
              refine iv_iast (M := mX3_solve) (X := 1) (l1 := (-1)) (l2 := 12) dX3_solve_73 (tc175 hC) (by decide) (by omega) (by omega) I35 (fun _ => rfl) (by omega) (by omega) 74 rfl (fun m67 e70 I68 => ?_)
              have K69 := K36.set e70 rfl
              have lp77 : ∀ (fuel76 : Nat) (y71 : Int32) (m72 : Nat → Nat → Int32) (n73 : Nat → Nat → Int64), (SV1 m72 pp y71.toInt) → ((m72 175 0).toInt = (m33 175 0).toInt) → (TBL m72 pp y71.toInt) → IV BB m72 → fr (wl [(170, 171, none), (175, 178, none)]) m m72 → (((m72 175 1).toInt + 1) : Int).toNat < fuel76 → PV none g mX3_solve (sqV T BB (wl [(170, 171, none), (175, 178, none)]) r m (fun m' => TBL m' pp 0 ∧ (m' 170 1).toInt = (m' 178 0).toInt ∧ (L25 (szp m' pp) (srp m' pp) → ∃ a, PTH (szp m' pp) (srp m' pp) (ftb m' pp) (fun i => (m' 171 i).toInt) (m' 170 1).toInt.toNat a))) 4 0 0 74 [.ref 169, .int y71, .int y2] [] (mk T m72 n73 r) := by
                intro fuel76
                induction fuel76 with
                | zero => intro y71 m72 n73 b79 b80 b81 I74 K75 z82; omega
                | succ fuel76 ih78 =>
                  intro y71 m72 n73 b79 b80 b81 I74 K75 z82
                  have kv1 := (show SV1 m72 pp y71.toInt by assumption)
                  have kw1 := kv1.1.2.2.2
                  have kr1 := (show (m72 175 0).toInt = (m33 175 0).toInt by assumption)
                  have kx10 := kv1.1.2.2.1 0 (by omega)
                  have ky10 := kv1.1.1 0 (by omega)
                  have ktv1 := (show TBL m72 pp y71.toInt by assumption)
                  refine pv_aload_n (M := mX3_solve) 0 dX3_solve_74 75 rfl rfl rfl ?_
                  refine mv_get (M := mX3_solve) (v := .ref 175) dX3_solve_75 FX3 5 wd986 (by decide) (tc169 hC) rfl rfl 78 rfl ?_
                  refine pv_iconst (M := mX3_solve) (v := 1) dX3_solve_78 79 rfl (by decide) ?_
                  refine iv_iald (M := mX3_solve) (X := 1) (l1 := (-1)) (l2 := 12) dX3_solve_79 (tc175 hC) (by decide) (by omega) (by omega) I74 (fun _ => rfl) 80 rfl (fun v89 ev89 pv89 qv89 => ?_)
                  have k80 : v89.toInt = (m72 175 1).toInt := congrArg Int32.toInt ev89
                  refine pv_if_lt (M := mX3_solve) (tgt := 178) dX3_solve_80 83 rfl (by decide) (fun c91 => ?_) (fun c91 => ?_)
                  · have c91 := iv_lt (X := v89.toInt) (Y := 0) c91 rfl (by decide)
                    refine pv_aload_n (M := mX3_solve) 0 dX3_solve_178 179 rfl rfl rfl ?_
                    refine mv_get (M := mX3_solve) (v := .ref 175) dX3_solve_179 FX3 5 wd986 (by decide) (tc169 hC) rfl rfl 182 rfl ?_
                    refine pv_iconst (M := mX3_solve) (v := 0) dX3_solve_182 183 rfl (by decide) ?_
                    refine pv_dup2 (M := mX3_solve) dX3_solve_183 184 rfl rfl rfl ?_
                    refine iv_iald (M := mX3_solve) (X := 0) (l1 := (-1)) (l2 := 12) dX3_solve_184 (tc175 hC) (by decide) (by omega) (by omega) I74 (fun _ => rfl) 185 rfl (fun v92 ev92 pv92 qv92 => ?_)
                    have k185 : v92.toInt = (m72 175 0).toInt := congrArg Int32.toInt ev92
                    refine pv_iconst (M := mX3_solve) (v := 1) dX3_solve_185 186 rfl (by decide) ?_
                    refine iv_isub (M := mX3_solve) (X := v92.toInt) (Y := 1) dX3_solve_186 187 rfl rfl (by decide) (by omega) (by omega) (fun v94 ev94 => ?_)
                    refine iv_iast (M := mX3_solve) (X := 0) (l1 := (-1)) (l2 := 12) dX3_solve_187 (tc175 hC) (by decide) (by omega) (by omega) I74 (fun _ => rfl) (by omega) (by omega) 188 rfl (fun m95 e98 I96 => ?_)
                    have K97 := K75.set e98 rfl
                    refine pv_goto (M := mX3_solve) (tgt := 50) dX3_solve_188 (by decide) ?_
                    have k187 := (e98)
                    have kb0 : SV0 m95 pp y71.toInt := SV_out0 kv1 (by omega) hp0 k187 (by omega)
                    have kp0 : (m95 175 0).toInt = (m72 175 0).toInt - 1 := by rw [k187, show ((0 : Int)).toNat = 0 from rfl, up2_eq]; omega
                    have kbt0 : TBL m95 pp y71.toInt := TBL_eq hp0 ktv1 (fun b j z => by rw [k187, up2_ne (by omega)])
                    exact ih39 y71 m95 n73 kb0 kbt0 I96 K97 (by omega)
                  · have c91 := iv_nlt (X := v89.toInt) (Y := 0) c91 rfl (by decide)
                    refine pv_aload_n (M := mX3_solve) 0 dX3_solve_83 84 rfl rfl rfl ?_
                    refine mv_get (M := mX3_solve) (v := .ref 175) dX3_solve_84 FX3 5 wd986 (by decide) (tc169 hC) rfl rfl 87 rfl ?_
                    refine pv_iconst (M := mX3_solve) (v := 2) dX3_solve_87 88 rfl (by decide) ?_
                    refine pv_aload_n (M := mX3_solve) 0 dX3_solve_88 89 rfl rfl rfl ?_
                    refine mv_get (M := mX3_solve) (v := .ref 172) dX3_solve_89 FX3 2 wd983 (by decide) (tc169 hC) rfl rfl 92 rfl ?_
                    refine pv_iconst (M := mX3_solve) (v := 2) dX3_solve_92 93 rfl (by decide) ?_
                    refine iv_qpart (M := mX3_solve) (X := 2) dX3_solve_93 hC P (by decide) (by omega) (by omega) 94 rfl (fun b103 rb103 eb103 fb103 hb103 => ?_)
                    have zb103 := hb103.2.2.2.2
                    refine iv_get (M := mX3_solve) (l1 := 0) (l2 := (rb103 : Int)) dX3_solve_94 FX8 1 wd197 (by decide) hb103.1 rfl I74 hb103.2.2.1 97 rfl (fun v104 ev104 pv104 qv104 => ?_)
                    have kS2 : v104.toInt = szp m72 pp 2 := (congrArg Int32.toInt ev104).trans (congrArg (fun z => (m72 z 1).toInt) (by assumption))
                    have kT2 := kv1.1.1 2 (by omega)
                    refine iv_iast (M := mX3_solve) (X := 2) (l1 := (-1)) (l2 := 12) dX3_solve_97 (tc175 hC) (by decide) (by omega) (by omega) I74 (fun _ => rfl) (by omega) (by omega) 98 rfl (fun m107 e110 I108 => ?_)
                    have K109 := K75.set e110 rfl
                    have lp117 : ∀ (fuel116 : Nat) (y111 : Int32) (m112 : Nat → Nat → Int32) (n113 : Nat → Nat → Int64), (SV2 m112 pp y111.toInt) → ((m112 175 0).toInt = (m33 175 0).toInt) → ((m112 175 1).toInt = (m72 175 1).toInt) → (TBL m112 pp y111.toInt) → IV BB m112 → fr (wl [(170, 171, none), (175, 178, none)]) m m112 → (((m112 175 2).toInt + 1) : Int).toNat < fuel116 → PV none g mX3_solve (sqV T BB (wl [(170, 171, none), (175, 178, none)]) r m (fun m' => TBL m' pp 0 ∧ (m' 170 1).toInt = (m' 178 0).toInt ∧ (L25 (szp m' pp) (srp m' pp) → ∃ a, PTH (szp m' pp) (srp m' pp) (ftb m' pp) (fun i => (m' 171 i).toInt) (m' 170 1).toInt.toNat a))) 4 0 0 98 [.ref 169, .int y111, .int y2] [] (mk T m112 n113 r) := by
                      intro fuel116
                      induction fuel116 with
                      | zero => intro y111 m112 n113 b119 b120 b121 b122 I114 K115 z123; omega
                      | succ fuel116 ih118 =>
                        intro y111 m112 n113 b119 b120 b121 b122 I114 K115 z123
                        have kv2 := (show SV2 m112 pp y111.toInt by assumption)
                        have kw2 := kv2.1.2.2.2
                        have kr20 := (show (m112 175 0).toInt = (m33 175 0).toInt by assumption)
                        have kr21 := (show (m112 175 1).toInt = (m72 175 1).toInt by assumption)
                        have kx21 := kv2.1.2.2.1 1 (by omega)
                        have ky21 := kv2.1.1 1 (by omega)
                        have ktv2 := (show TBL m112 pp y111.toInt by assumption)
                        refine pv_aload_n (M := mX3_solve) 0 dX3_solve_98 99 rfl rfl rfl ?_
                        refine mv_get (M := mX3_solve) (v := .ref 175) dX3_solve_99 FX3 5 wd986 (by decide) (tc169 hC) rfl rfl 102 rfl ?_
                        refine pv_iconst (M := mX3_solve) (v := 2) dX3_solve_102 103 rfl (by decide) ?_
                        refine iv_iald (M := mX3_solve) (X := 2) (l1 := (-1)) (l2 := 12) dX3_solve_103 (tc175 hC) (by decide) (by omega) (by omega) I114 (fun _ => rfl) 104 rfl (fun v131 ev131 pv131 qv131 => ?_)
                        have k104 : v131.toInt = (m112 175 2).toInt := congrArg Int32.toInt ev131
                        refine pv_if_lt (M := mX3_solve) (tgt := 165) dX3_solve_104 107 rfl (by decide) (fun c133 => ?_) (fun c133 => ?_)
                        · have c133 := iv_lt (X := v131.toInt) (Y := 0) c133 rfl (by decide)
                          refine pv_aload_n (M := mX3_solve) 0 dX3_solve_165 166 rfl rfl rfl ?_
                          refine mv_get (M := mX3_solve) (v := .ref 175) dX3_solve_166 FX3 5 wd986 (by decide) (tc169 hC) rfl rfl 169 rfl ?_
                          refine pv_iconst (M := mX3_solve) (v := 1) dX3_solve_169 170 rfl (by decide) ?_
                          refine pv_dup2 (M := mX3_solve) dX3_solve_170 171 rfl rfl rfl ?_
                          refine iv_iald (M := mX3_solve) (X := 1) (l1 := (-1)) (l2 := 12) dX3_solve_171 (tc175 hC) (by decide) (by omega) (by omega) I114 (fun _ => rfl) 172 rfl (fun v134 ev134 pv134 qv134 => ?_)
                          have k172 : v134.toInt = (m112 175 1).toInt := congrArg Int32.toInt ev134
                          refine pv_iconst (M := mX3_solve) (v := 1) dX3_solve_172 173 rfl (by decide) ?_
                          refine iv_isub (M := mX3_solve) (X := v134.toInt) (Y := 1) dX3_solve_173 174 rfl rfl (by decide) (by omega) (by omega) (fun v136 ev136 => ?_)
                          refine iv_iast (M := mX3_solve) (X := 1) (l1 := (-1)) (l2 := 12) dX3_solve_174 (tc175 hC) (by decide) (by omega) (by omega) I114 (fun _ => rfl) (by omega) (by omega) 175 rfl (fun m137 e140 I138 => ?_)
                          have K139 := K115.set e140 rfl
                          refine pv_goto (M := mX3_solve) (tgt := 74) dX3_solve_175 (by decide) ?_
                          have k174 := (e140)
                          have kb1 : SV1 m137 pp y111.toInt := SV_out1 kv2 (by omega) hp0 k174 (by omega)
                          have kp1 : (m137 175 1).toInt = (m112 175 1).toInt - 1 := by rw [k174, show ((1 : Int)).toNat = 1 from rfl, up2_eq]; omega
                          have kq10 : (m137 175 0).toInt = (m33 175 0).toInt := by rw [k174, up2_ne (by omega)]; exact kr20
                          have kbt1 : TBL m137 pp y111.toInt := TBL_eq hp0 ktv2 (fun b j z => by rw [k174, up2_ne (by omega)])
                          exact ih78 y111 m137 n113 kb1 kq10 kbt1 I138 K139 (by omega)
                        · have c133 := iv_nlt (X := v131.toInt) (Y := 0) c133 rfl (by decide)
                          refine pv_aload_n (M := mX3_solve) 0 dX3_solve_107 108 rfl rfl rfl ?_
                          refine mv_get (M := mX3_solve) (v := .ref 175) dX3_solve_108 FX3 5 wd986 (by decide) (tc169 hC) rfl rfl 111 rfl ?_
                          refine pv_iconst (M := mX3_solve) (v := 3) dX3_solve_111 112 rfl (by decide) ?_
                          refine pv_aload_n (M := mX3_solve) 0 dX3_solve_112 113 rfl rfl rfl ?_
                          refine mv_get (M := mX3_solve) (v := .ref 172) dX3_solve_113 FX3 2 wd983 (by decide) (tc169 hC) rfl rfl 116 rfl ?_
                          refine pv_iconst (M := mX3_solve) (v := 3) dX3_solve_116 117 rfl (by decide) ?_
                          refine iv_qpart (M := mX3_solve) (X := 3) dX3_solve_117 hC P (by decide) (by omega) (by omega) 118 rfl (fun b146 rb146 eb146 fb146 hb146 => ?_)
                          have zb146 := hb146.2.2.2.2
                          refine iv_get (M := mX3_solve) (l1 := 0) (l2 := (rb146 : Int)) dX3_solve_118 FX8 1 wd197 (by decide) hb146.1 rfl I114 hb146.2.2.1 121 rfl (fun v147 ev147 pv147 qv147 => ?_)
                          have kS3 : v147.toInt = szp m112 pp 3 := (congrArg Int32.toInt ev147).trans (congrArg (fun z => (m112 z 1).toInt) (by assumption))
                          have kT3 := kv2.1.1 3 (by omega)
                          refine iv_iast (M := mX3_solve) (X := 3) (l1 := (-1)) (l2 := 12) dX3_solve_121 (tc175 hC) (by decide) (by omega) (by omega) I114 (fun _ => rfl) (by omega) (by omega) 122 rfl (fun m150 e153 I151 => ?_)
                          have K152 := K115.set e153 rfl
                          have lp160 : ∀ (fuel159 : Nat) (y154 : Int32) (m155 : Nat → Nat → Int32) (n156 : Nat → Nat → Int64), (SV3 m155 pp y154.toInt) → ((m155 175 0).toInt = (m33 175 0).toInt) → ((m155 175 1).toInt = (m72 175 1).toInt) → ((m155 175 2).toInt = (m112 175 2).toInt) → (TBL m155 pp y154.toInt) → IV BB m155 → fr (wl [(170, 171, none), (175, 178, none)]) m m155 → (((m155 175 3).toInt + 1) : Int).toNat < fuel159 → PV none g mX3_solve (sqV T BB (wl [(170, 171, none), (175, 178, none)]) r m (fun m' => TBL m' pp 0 ∧ (m' 170 1).toInt = (m' 178 0).toInt ∧ (L25 (szp m' pp) (srp m' pp) → ∃ a, PTH (szp m' pp) (srp m' pp) (ftb m' pp) (fun i => (m' 171 i).toInt) (m' 170 1).toInt.toNat a))) 4 0 0 122 [.ref 169, .int y154, .int y2] [] (mk T m155 n156 r) := by
                            intro fuel159
                            induction fuel159 with
                            | zero => intro y154 m155 n156 b162 b163 b164 b165 b166 I157 K158 z167; omega
                            | succ fuel159 ih161 =>
                              intro y154 m155 n156 b162 b163 b164 b165 b166 I157 K158 z167
                              have kv3 := (show SV3 m155 pp y154.toInt by assumption)
                              have kw3 := kv3.1.2.2.2
                              have kr30 := (show (m155 175 0).toInt = (m33 175 0).toInt by assumption)
                              have kr31 := (show (m155 175 1).toInt = (m72 175 1).toInt by assumption)
                              have kr32 := (show (m155 175 2).toInt = (m112 175 2).toInt by assumption)
                              have kx32 := kv3.1.2.2.1 2 (by omega)
                              have ky32 := kv3.1.1 2 (by omega)
                              have ky33 := kv3.1.1 3 (by omega)
                              have ktv3 := (show TBL m155 pp y154.toInt by assumption)
                              refine pv_aload_n (M := mX3_solve) 0 dX3_solve_122 123 rfl rfl rfl ?_
                              refine mv_get (M := mX3_solve) (v := .ref 175) dX3_solve_123 FX3 5 wd986 (by decide) (tc169 hC) rfl rfl 126 rfl ?_
                              refine pv_iconst (M := mX3_solve) (v := 3) dX3_solve_126 127 rfl (by decide) ?_
                              refine iv_iald (M := mX3_solve) (X := 3) (l1 := (-1)) (l2 := 12) dX3_solve_127 (tc175 hC) (by decide) (by omega) (by omega) I157 (fun _ => rfl) 128 rfl (fun v177 ev177 pv177 qv177 => ?_)
                              have k128 : v177.toInt = (m155 175 3).toInt := congrArg Int32.toInt ev177
                              refine pv_if_lt (M := mX3_solve) (tgt := 152) dX3_solve_128 131 rfl (by decide) (fun c179 => ?_) (fun c179 => ?_)
                              · have c179 := iv_lt (X := v177.toInt) (Y := 0) c179 rfl (by decide)
                                refine pv_aload_n (M := mX3_solve) 0 dX3_solve_152 153 rfl rfl rfl ?_
                                refine mv_get (M := mX3_solve) (v := .ref 175) dX3_solve_153 FX3 5 wd986 (by decide) (tc169 hC) rfl rfl 156 rfl ?_
                                refine pv_iconst (M := mX3_solve) (v := 2) dX3_solve_156 157 rfl (by decide) ?_
                                refine pv_dup2 (M := mX3_solve) dX3_solve_157 158 rfl rfl rfl ?_
                                refine iv_iald (M := mX3_solve) (X := 2) (l1 := (-1)) (l2 := 12) dX3_solve_158 (tc175 hC) (by decide) (by omega) (by omega) I157 (fun _ => rfl) 159 rfl (fun v180 ev180 pv180 qv180 => ?_)
                                have k159 : v180.toInt = (m155 175 2).toInt := congrArg Int32.toInt ev180
                                refine pv_iconst (M := mX3_solve) (v := 1) dX3_solve_159 160 rfl (by decide) ?_
                                refine iv_isub (M := mX3_solve) (X := v180.toInt) (Y := 1) dX3_solve_160 161 rfl rfl (by decide) (by omega) (by omega) (fun v182 ev182 => ?_)
                                refine iv_iast (M := mX3_solve) (X := 2) (l1 := (-1)) (l2 := 12) dX3_solve_161 (tc175 hC) (by decide) (by omega) (by omega) I157 (fun _ => rfl) (by omega) (by omega) 162 rfl (fun m183 e186 I184 => ?_)
                                have K185 := K158.set e186 rfl
                                refine pv_goto (M := mX3_solve) (tgt := 98) dX3_solve_162 (by decide) ?_
                                have k161 := (e186)
                                have kb2 : SV2 m183 pp y154.toInt := SV_out2 kv3 (by omega) hp0 k161 (by omega)
                                have kp2 : (m183 175 2).toInt = (m155 175 2).toInt - 1 := by rw [k161, show ((2 : Int)).toNat = 2 from rfl, up2_eq]; omega
                                have kq20 : (m183 175 0).toInt = (m33 175 0).toInt := by rw [k161, up2_ne (by omega)]; exact kr30
                                have kq21 : (m183 175 1).toInt = (m72 175 1).toInt := by rw [k161, up2_ne (by omega)]; exact kr31
                                have kbt2 : TBL m183 pp y154.toInt := TBL_eq hp0 ktv3 (fun b j z => by rw [k161, up2_ne (by omega)])
                                exact ih118 y154 m183 n156 kb2 kq20 kq21 kbt2 I184 K185 (by omega)
                              · have c179 := iv_nlt (X := v177.toInt) (Y := 0) c179 rfl (by decide)
                                have kz := SV3_ix kv3 (by omega)
                                have kz1 := kz.2.1
                                have kz2 := kz.2.2.1
                                have kz3 := kz.2.2.2
                                have kTn := TBL_Tn kv3.1.1 kz.1 ktv3 kz.2.1
                                have z199 := iv_rng y154
                                refine iv_inc (M := mX3_solve) (C := (-1)) dX3_solve_131 134 rfl rfl (by decide) rfl rfl (by decide) (by omega) (by omega) (fun v198 ev198 => ?_)
                                show PV _ _ _ _ _ _ _ 134 [.ref 169, .int v198, .int y2] [] _
                                refine pv_aload_n (M := mX3_solve) 0 dX3_solve_134 135 rfl rfl rfl ?_
                                refine pv_iload_n (M := mX3_solve) 1 dX3_solve_135 136 rfl rfl rfl ?_
                                refine pv_callv (M := mX3_solve) (as := [.int v198]) (st := []) (kc2 := 0) (ks2 := 0) dX3_solve_136 wd1021 YX3_settle ⟨wd1023, wd40⟩ (mk_get (tc169 hC)) rfl rfl (s_X3_settle_ve g hT I157 hC P v198 (by omega) (by omega) hp0 kv3.1.1 kz.1 kv3.1.2.1 (by omega) kTn) rfl rfl (Nat.le_of_ble_eq_true rfl) (by decide) rfl rfl 139 rfl (fun rv h1 q200 => ?_)
                                obtain ⟨m201, n202, rfl, rfl, I203, K204, rm201⟩ := q200
                                replace rm201 : (∀ j, j ≠ v198.toInt.toNat → m201 178 j = m155 178 j) ∧ OB1 (szp m155 pp) (srp m155 pp) (fun b => (m155 178 (ix4 (szp m155 pp) b).toNat).toInt) (atp m155) (m201 178 v198.toInt.toNat).toInt := rm201
                                have K204c := K204
                                have K204 := K158.trans (K204.sub (wl_sub (by decide)))
                                show PV _ _ _ _ _ _ _ 139 [.ref 169, .int v198, .int y2] [] _
                                have kf : ∀ b j, b ≤ 176 → m201 b j = m155 b j := fun b j h => K204c b j (wr_out (by omega))
                                have kp := rm201
                                refine pv_aload_n (M := mX3_solve) 0 dX3_solve_139 140 rfl rfl rfl ?_
                                refine mv_get (M := mX3_solve) (v := .ref 175) dX3_solve_140 FX3 5 wd986 (by decide) (tc169 hC) rfl rfl 143 rfl ?_
                                refine pv_iconst (M := mX3_solve) (v := 3) dX3_solve_143 144 rfl (by decide) ?_
                                refine pv_dup2 (M := mX3_solve) dX3_solve_144 145 rfl rfl rfl ?_
                                refine iv_iald (M := mX3_solve) (X := 3) (l1 := (-1)) (l2 := 12) dX3_solve_145 (tc175 hC) (by decide) (by omega) (by omega) I203 (fun _ => rfl) 146 rfl (fun v207 ev207 pv207 qv207 => ?_)
                                have k146 : v207.toInt = (m155 175 3).toInt := congrArg Int32.toInt (ev207.trans (kf 175 3 (by omega)))
                                refine pv_iconst (M := mX3_solve) (v := 1) dX3_solve_146 147 rfl (by decide) ?_
                                refine iv_isub (M := mX3_solve) (X := v207.toInt) (Y := 1) dX3_solve_147 148 rfl rfl (by decide) (by omega) (by omega) (fun v209 ev209 => ?_)
                                refine iv_iast (M := mX3_solve) (X := 3) (l1 := (-1)) (l2 := 12) dX3_solve_148 (tc175 hC) (by decide) (by omega) (by omega) I203 (fun _ => rfl) (by omega) (by omega) 149 rfl (fun m210 e213 I211 => ?_)
                                have K212 := K204.set e213 rfl
                                refine pv_goto (M := mX3_solve) (tgt := 122) dX3_solve_149 (by decide) ?_
                                have k148 := (e213)
                                have kb3 : SV3 m210 pp v198.toInt := SV3_next kv3 (by omega) hp0 kf k148 (by omega) (by omega)
                                have kp3 : (m210 175 3).toInt = (m155 175 3).toInt - 1 := by rw [k148, show ((3 : Int)).toNat = 3 from rfl, up2_eq]; omega
                                have kq30 : (m210 175 0).toInt = (m33 175 0).toInt := by rw [k148, up2_ne (by omega), kf 175 0 (by omega)]; exact kr30
                                have kq31 : (m210 175 1).toInt = (m72 175 1).toInt := by rw [k148, up2_ne (by omega), kf 175 1 (by omega)]; exact kr31
                                have kq32 : (m210 175 2).toInt = (m112 175 2).toInt := by rw [k148, up2_ne (by omega), kf 175 2 (by omega)]; exact kr32
                                have kbt3 : TBL m210 pp v198.toInt := TBL_eq hp0 (TBL_next (st2 := v198.toInt) kv3.1.1 hp0 kz.1 ktv3 kz.2.1 kz.2.2.1 kf (by omega) kp.1 kp.2) (fun b j z => by rw [k148, up2_ne (by omega)])
                                exact ih161 v198 m210 n202 kb3 kq30 kq31 kq32 kbt3 I211 K212 (by omega)
                          have kV3 : SV3 m150 pp y111.toInt := SV_in2 kv2 (by omega) hp0 e153 kS3
                          have kt3 : TBL m150 pp y111.toInt := TBL_eq hp0 ktv2 (fun b j z => by rw [e153, up2_ne (by omega)])
                          exact lp160 ((((m150 175 3).toInt + 1) : Int).toNat + 1) y111 m150 n113 kV3 (by rw [e153, up2_ne (by omega)] <;> assumption) (by rw [e153, up2_ne (by omega)] <;> assumption) (by rw [e153, up2_ne (by omega)] <;> assumption) kt3 I151 K152 (by omega)
                    have kV2 : SV2 m107 pp y71.toInt := SV_in1 kv1 (by omega) hp0 e110 kS2
                    have kt2 : TBL m107 pp y71.toInt := TBL_eq hp0 ktv1 (fun b j z => by rw [e110, up2_ne (by omega)])
                    exact lp117 ((((m107 175 2).toInt + 1) : Int).toNat + 1) y71 m107 n73 kV2 (by rw [e110, up2_ne (by omega)] <;> assumption) (by rw [e110, up2_ne (by omega)] <;> assumption) kt2 I108 K109 (by omega)
              have kV1 : SV1 m67 pp y32.toInt := SV_in0 kv0 (by omega) hp0 e70 kS1
              have kt1 : TBL m67 pp y32.toInt := TBL_eq hp0 ktv0 (fun b j z => by rw [e70, up2_ne (by omega)])
              exact lp77 ((((m67 175 1).toInt + 1) : Int).toNat + 1) y32 m67 n34 kV1 (by rw [e70, up2_ne (by omega)] <;> assumption) kt1 I68 K69 (by omega)
        have kV0 : SV0 m28 pp y1.toInt := SV_start kT kP k4 hp0 e31 kS0
        have kt0 : TBL m28 pp y1.toInt := TBL_eq hp0 (TBL_top kT k4) (fun b j z => by rw [e31, up2_ne (by omega)])
        exact lp38 ((((m28 175 0).toInt + 1) : Int).toNat + 1) y1 m28 n4 kV0 kt0 I29 K30 (by omega)
      · have c19 := iv_nlt (X := y2.toInt) (Y := 0) c19 rfl (by decide)
        refine pv_aload_n (M := mX3_solve) 0 dX3_solve_8 9 rfl rfl rfl ?_
        refine mv_get (M := mX3_solve) (v := .ref 176) dX3_solve_9 FX3 6 wd987 (by decide) (tc169 hC) rfl rfl 12 rfl ?_
        refine pv_iload_n (M := mX3_solve) 2 dX3_solve_12 13 rfl rfl rfl ?_
        refine pv_iload_n (M := mX3_solve) 1 dX3_solve_13 14 rfl rfl rfl ?_
        refine iv_iast (M := mX3_solve) (X := y2.toInt) (l1 := 0) (l2 := 28561) dX3_solve_14 (tc176 hC) rfl (by omega) (by omega) I5 (fun _ => rfl) (by omega) (by omega) 15 rfl (fun m229 e232 I230 => ?_)
        have K231 := K6.set e232 rfl
        have k15 := (e232)
        refine pv_iload_n (M := mX3_solve) 1 dX3_solve_15 16 rfl rfl rfl ?_
        refine pv_aload_n (M := mX3_solve) 0 dX3_solve_16 17 rfl rfl rfl ?_
        refine mv_get (M := mX3_solve) (v := .ref 172) dX3_solve_17 FX3 2 wd983 (by decide) (tc169 hC) rfl rfl 20 rfl ?_
        refine pv_iload_n (M := mX3_solve) 2 dX3_solve_20 21 rfl rfl rfl ?_
        refine iv_qpart (M := mX3_solve) (X := y2.toInt) dX3_solve_21 hC P rfl (by omega) (by omega) 22 rfl (fun b234 rb234 eb234 fb234 hb234 => ?_)
        have zb234 := hb234.2.2.2.2
        refine iv_get (M := mX3_solve) (l1 := 0) (l2 := (rb234 : Int)) dX3_solve_22 FX8 1 wd197 (by decide) hb234.1 rfl I230 hb234.2.2.1 25 rfl (fun v235 ev235 pv235 qv235 => ?_)
        have k25d := hp0 y2.toInt.toNat (by omega)
        have k25 : v235.toInt = szp m pp y2.toInt.toNat := (congrArg Int32.toInt (ev235.trans (K231 _ _ (wo_s (by omega))))).trans (congrArg (fun z => (m z 1).toInt) (by assumption))
        have k25s := hp1 y2.toInt.toNat (by omega)
        refine pv_iconst (M := mX3_solve) (v := 1) dX3_solve_25 26 rfl (by decide) ?_
        refine iv_iadd (M := mX3_solve) (X := v235.toInt) (Y := 1) dX3_solve_26 27 rfl rfl (by decide) (by omega) (by omega) (fun v239 ev239 => ?_)
        have k27 := cA_step (y := v239.toInt) hp1 (by omega) (by omega) kgA (by omega)
        have k27a := k27.2.1
        have k27b := k27.2.2
        refine iv_imul (M := mX3_solve) (X := y1.toInt) (Y := v239.toInt) dX3_solve_27 28 rfl rfl rfl (by omega) (by omega) (fun v243 ev243 => ?_)
        refine pv_istore_n (M := mX3_solve) 1 (lo2 := [.ref 169, .int v243, .int y2]) dX3_solve_28 29 rfl rfl (by decide) rfl rfl ?_
        refine iv_inc (M := mX3_solve) (C := (-1)) dX3_solve_29 32 rfl rfl (by decide) rfl rfl (by decide) (by omega) (by omega) (fun v244 ev244 => ?_)
        show PV _ _ _ _ _ _ _ 32 [.ref 169, .int v243, .int v244] [] _
        refine pv_goto (M := mX3_solve) (tgt := 4) dX3_solve_32 (by decide) ?_
        have kbA : v243.toInt = cA (szp m pp) (3 - v244.toInt).toNat := by rw [show v244.toInt = y2.toInt - 1 by omega]; exact ev243.trans k27.1
        have kbB : ∀ d : Nat, d < 4 → v244.toInt < (d : Int) → (m229 176 d).toInt = cA (szp m pp) (3 - d) := fun d h a => if z : (d : Int) = y2.toInt then by rw [k15, show d = (y2.toInt).toNat by omega, up2_eq, show 3 - (y2.toInt).toNat = (3 - y2.toInt).toNat by omega]; exact kgA else by rw [k15, up2_ne (by omega)]; exact kgB d h (by omega)
        exact ih9 v243 v244 m229 n4 (by first | omega | assumption | exact (iv_rng _).2 | exact (iv_rng _).1 | decide) (by first | omega | assumption | exact (iv_rng _).2 | exact (iv_rng _).1 | decide) (by first | omega | assumption | exact (iv_rng _).2 | exact (iv_rng _).1 | decide) (by first | omega | assumption | exact (iv_rng _).2 | exact (iv_rng _).1 | decide) kbA kbB I230 K231 (by omega)
  have z247 : (1 : Int32).toInt = 1 := by decide
  have z248 : (3 : Int32).toInt = 3 := by decide
  exact lp8 (((3 - (-1)) : Int).toNat + 1) 1 3 m n (by first | omega | assumption | exact (iv_rng _).2 | exact (iv_rng _).1 | decide) (by first | omega | assumption | exact (iv_rng _).2 | exact (iv_rng _).1 | decide) (by first | omega | assumption | exact (iv_rng _).2 | exact (iv_rng _).1 | decide) (by first | omega | assumption | exact (iv_rng _).2 | exact (iv_rng _).1 | decide) (by rw [show ((3 : Int32)).toInt = 3 by decide]; rfl) (fun d h a => by rw [show ((3 : Int32)).toInt = 3 by decide] at a; omega) I Kp (by omega)

set_option maxHeartbeats 2000000 in
set_option maxRecDepth 20000 in
theorem s_X11_coverFor_vtf (g : pv_G) {T : List mv_T} {m : Nat → Nat → Int32} {n : Nat → Nat → Int64} {r : Nat → Value} {m0 : Nat → Nat → Int32} {r0 : Nat → Value} {la lb : Nat} (hT : TX T) (I : IV BB m) (Kp : fr WX m0 m) (or : rn r0 r) (R : RX T r la lb) (hC : TC T) (hc2 : r 2 = .ref 169) (x0 : Int32) (hp0 : x0.toInt ≠ 0) (hp1 : (mbs x0 8).length ≤ 4) (hp2 : ∀ k, k ∈ mbs x0 8 → (m (61 + 2 * k) 1).toInt ≤ 12) (hp3 : (m 169 1).toInt ≠ 0 → SCL m (m 169 1)) : PV none g mX11_coverFor (sqAr T BB WX rn r0 m0 169 (fun m' r' => m' 169 1 = x0 ∧ SCL m' x0)) 5 0 0 27 [.ref 0, .int x0, .ref 169, pv_U] [] (mk T m n r) := by
  have R0 := R
  have zR := R.2.2.2.2.1.1
  have zR2 := R.2.2.2.2.2.1
  have hc20 := hc2
  have z87 : 0 ≤ (m 169 4).toInt ∧ (m 169 4).toInt ≤ 4 := I 169 4
  refine pv_aload_n (M := mX11_coverFor) 2 dX11_coverFor_27 28 rfl rfl rfl ?_
  refine iv_get (M := mX11_coverFor) (l1 := (-2147483648)) (l2 := 2147483647) dX11_coverFor_28 FX3 1 wd982 (by decide) (tc169 hC) rfl I rfl 31 rfl (fun v1 ev1 pv1 qv1 => ?_)
  have k31 : v1 = m 169 1 := ev1
  refine pv_iload_n (M := mX11_coverFor) 1 dX11_coverFor_31 32 rfl rfl rfl ?_
  refine pv_icmp_eq (M := mX11_coverFor) (tgt := 80) dX11_coverFor_32 35 rfl (by decide) (fun c3 => ?_) (fun c3 => ?_)
  · have c3 := iv_eq (X := v1.toInt) (Y := x0.toInt) c3 rfl rfl
    try have k80 := noE
    refine pv_aload_n (M := mX11_coverFor) 2 dX11_coverFor_80 81 rfl rfl rfl ?_
    exact pv_aret (M := mX11_coverFor) dX11_coverFor_81 rfl ⟨_, _, _, rfl, rfl, I, Kp, or, (by first | exact ⟨by rw [k80, up2_eq], SCL_eq (fun a j h1 h2 => by rw [k80, up2_ne (by omega)]) (by rw [k80, up2_ne (by omega)]) (fun j => by rw [k80, up2_ne (by omega)]) k75C⟩ | (have e : m 169 1 = x0 := k31.symm.trans (Int32.toInt_inj.mp (by omega)); have q := hp3 (by rw [e]; exact hp0); rw [e] at q; exact ⟨e, q⟩))⟩
  · have c3 := iv_ne (X := v1.toInt) (Y := x0.toInt) c3 rfl rfl
    refine pv_aload_n (M := mX11_coverFor) 2 dX11_coverFor_35 36 rfl rfl rfl ?_
    refine pv_callv (M := mX11_coverFor) (as := []) (st := []) (kc2 := 0) (ks2 := 0) dX11_coverFor_36 wd1012 YX3_clearParts ⟨wd976, wd977⟩ (mk_get (tc169 hC)) rfl rfl (s_X3_clearParts_ve g hT I hC) rfl rfl (Nat.le_of_ble_eq_true rfl) (by decide) rfl rfl 39 rfl (fun rv h1 q5 => ?_)
    obtain ⟨m6, n7, r10, rfl, rfl, I8, K9, qr10, rm6⟩ := q5
    replace rm6 : (m6 169 4).toInt = 0 ∧ ∀ d, d < 4 → r10 (172000 + d) = .ref 173 := rm6
    have or10 := rn.ro or qr10
    have R := RX_ro R qr10
    have zR := R.2.2.2.2.1.1
    have zR2 := R.2.2.2.2.2.1
    have hc2 : r10 2 = .ref 169 := or10.1
    have K9c := K9
    have K9 := Kp.trans (K9.sub (by exact WX_wl (by decide)))
    show PV _ _ _ _ _ _ _ 39 [.ref 0, .int x0, .ref 169, pv_U] [] _
    have kP0 := rm6.2
    have kw0 : ∀ a j, 61 ≤ a → a ≤ 76 → m6 a j = m a j := fun a j h1 h2 => K9c a j (WX_wl (by decide) a j (WX_le (by omega)))
    have k4z : (m6 169 4).toInt = 0 := rm6.1
    refine pv_iconst (M := mX11_coverFor) (v := 0) dX11_coverFor_39 40 rfl (by decide) ?_
    refine pv_istore_n (M := mX11_coverFor) 3 (lo2 := [.ref 0, .int x0, .ref 169, .int 0]) dX11_coverFor_40 41 rfl rfl (by decide) rfl rfl ?_
    have lp20 : ∀ (fuel19 : Nat) (y14 : Int32) (m15 : Nat → Nat → Int32) (n16 : Nat → Nat → Int64) (r24 : Nat → Value), (0 ≤ y14.toInt) → (y14.toInt ≤ 8) → (PCH r24 x0 y14.toInt.toNat) → ((m15 169 4).toInt = ((mbs x0 y14.toInt.toNat).length : Int)) → (∀ a j, 61 ≤ a → a ≤ 76 → m15 a j = m a j) → IV BB m15 → fr WX m0 m15 → rn r0 r24 → ((8 - y14.toInt) : Int).toNat < fuel19 → PV none g mX11_coverFor (sqAr T BB WX rn r0 m0 169 (fun m' r' => m' 169 1 = x0 ∧ SCL m' x0)) 5 0 0 41 [.ref 0, .int x0, .ref 169, .int y14] [] (mk T m15 n16 r24) := by
      intro fuel19
      induction fuel19 with
      | zero => intro y14 m15 n16 r24 b22 b23 b25 b26 b27 I17 K18 or24 z28; omega
      | succ fuel19 ih21 =>
        intro y14 m15 n16 r24 b22 b23 b25 b26 b27 I17 K18 or24 z28
        have hc2 := or24.1
        have R := RX_rn2 R0 or or24
        have zR := R.2.2.2.2.1.1
        have zR2 := R.2.2.2.2.2.1
        have z29 : 0 ≤ (m15 169 4).toInt ∧ (m15 169 4).toInt ≤ 4 := I17 169 4
        have kgP := (show PCH r24 x0 y14.toInt.toNat by assumption)
        have kg4 := (show (m15 169 4).toInt = ((mbs x0 y14.toInt.toNat).length : Int) by assumption)
        have kgw := (show ∀ a j, 61 ≤ a → a ≤ 76 → m15 a j = m a j by assumption)
        refine pv_iload_n (M := mX11_coverFor) 3 dX11_coverFor_41 42 rfl rfl rfl ?_
        refine pv_bipush (M := mX11_coverFor) (v := 8) dX11_coverFor_42 44 rfl (by decide) ?_
        refine pv_icmp_ge (M := mX11_coverFor) (tgt := 71) dX11_coverFor_44 47 rfl (by decide) (fun c33 => ?_) (fun c33 => ?_)
        · have c33 := iv_le (X := 8) (Y := y14.toInt) c33 (by decide) rfl
          have kP8 : PCH r24 x0 8 := by rw [← (show y14.toInt.toNat = 8 by omega)]; exact kgP
          obtain ⟨pp, hpp⟩ : ∃ pp, pp = ppx x0 8 := ⟨_, rfl⟩
          have P : PX T r24 pp (fun d => if ppx x0 8 d = 173 then 0 else 16) := by rw [hpp]; exact PX_pch hC kP8 (fun k hk => rowD hT hk)
          have kS8 : Szs (szp m15 pp) := by rw [hpp]; exact ppx_S I17 (by omega) (fun k hk => by have z := mbs_lt hk; rw [kgw _ _ (by omega) (by omega)]; exact hp2 k hk) rfl
          refine pv_aload_n (M := mX11_coverFor) 2 dX11_coverFor_71 72 rfl rfl rfl ?_
          refine pv_callv (M := mX11_coverFor) (as := []) (st := []) (kc2 := 0) (ks2 := 0) dX11_coverFor_72 wd1017 YX3_solve ⟨wd1018, wd1019⟩ (mk_get (tc169 hC)) rfl rfl (s_X3_solve_vf g hT I17 hC P (by rw [hpp]; exact ppx_D x0 (by omega)) kS8) rfl rfl (Nat.le_of_ble_eq_true rfl) (by decide) rfl rfl 75 rfl (fun rv h1 q38 => ?_)
          obtain ⟨m39, n40, rfl, rfl, I41, K42, rm39⟩ := q38
          replace rm39 : TBL m39 pp 0 ∧ (m39 170 1).toInt = (m39 178 0).toInt ∧ (L25 (szp m39 pp) (srp m39 pp) → ∃ a, PTH (szp m39 pp) (srp m39 pp) (ftb m39 pp) (fun i => (m39 171 i).toInt) (m39 170 1).toInt.toNat a) := rm39
          have K42c := K42
          have w43 : (m39 169 4).toInt = (m15 169 4).toInt := congrArg Int32.toInt (K42 169 4 rfl)
          have K42 := K18.trans (K42.sub (by exact WX_wl (by decide)))
          show PV _ _ _ _ _ _ _ 75 [.ref 0, .int x0, .ref 169, .int y14] [] _
          subst hpp
          have k75 := rm39
          have k75f := K42c
          have k75I := I41
          have k75r := row_eq (m := m15) (m2 := m39) (ppx_D x0 (i := 8) (by omega)) (fun b j z => k75f b j (wo_s (by omega)))
          have k75S : Szs (szp m39 (ppx x0 8)) := fun d hd => by rw [← k75r.1 d hd]; exact kS8 d hd
          have k75C := SCL_tb k75I k75S k75.1 k75.2.1 k75.2.2
          refine pv_aload_n (M := mX11_coverFor) 2 dX11_coverFor_75 76 rfl rfl rfl ?_
          refine pv_iload_n (M := mX11_coverFor) 1 dX11_coverFor_76 77 rfl rfl rfl ?_
          refine iv_put (M := mX11_coverFor) (l1 := (-2147483648)) (l2 := 2147483647) dX11_coverFor_77 FX3 1 wd982 (by decide) rfl (tc169 hC) rfl rfl rfl I41 rfl (iv_rng x0).1 (iv_rng x0).2 80 rfl (fun m51 e54 I52 => ?_)
          have K53 := K42.set e54 (by decide)
          have w55 : (m51 169 4).toInt = (m39 169 4).toInt := by rw [e54, up2_ne (by omega)]
          try have k80 := e54
          refine pv_aload_n (M := mX11_coverFor) 2 dX11_coverFor_80 81 rfl rfl rfl ?_
          exact pv_aret (M := mX11_coverFor) dX11_coverFor_81 rfl ⟨_, _, _, rfl, rfl, I52, K53, or24, (by first | exact ⟨by rw [k80, up2_eq], SCL_eq (fun a j h1 h2 => by rw [k80, up2_ne (by omega)]) (by rw [k80, up2_ne (by omega)]) (fun j => by rw [k80, up2_ne (by omega)]) k75C⟩ | (have e : m 169 1 = x0 := k31.symm.trans (Int32.toInt_inj.mp (by omega)); have q := hp3 (by rw [e]; exact hp0); rw [e] at q; exact ⟨e, q⟩))⟩
        · have c33 := iv_nle (X := 8) (Y := y14.toInt) c33 (by decide) rfl
          refine pv_iload_n (M := mX11_coverFor) 1 dX11_coverFor_47 48 rfl rfl rfl ?_
          refine pv_iload_n (M := mX11_coverFor) 3 dX11_coverFor_48 49 rfl rfl rfl ?_
          refine pv_calls (M := mX11_coverFor) (as := [.int x0, .int y14]) (st := []) (kc2 := 0) (ks2 := 0) dX11_coverFor_49 wd931 YX11_isAmong wd932 (s_X11_isAmong g hT I17 x0 y14) rfl rfl (Nat.le_of_ble_eq_true rfl) (by decide) rfl rfl 52 rfl (fun rv h1 q57 => ?_)
          obtain ⟨v58, rfl, rfl, pv58, qv58, rv58⟩ := q57
          replace rv58 : v58 = amv x0 y14 := rv58
          show PV _ _ _ _ _ _ _ 52 [.ref 0, .int x0, .ref 169, .int y14] [.int v58] _
          have k52 : (amv x0 (Int32.ofInt (y14.toInt.toNat : Nat))).toInt = v58.toInt := by rw [ofn (by omega), rv58]
          refine pv_if_eq (M := mX11_coverFor) (tgt := 65) dX11_coverFor_52 55 rfl (by decide) (fun c60 => ?_) (fun c60 => ?_)
          · have c60 := iv_eq (X := v58.toInt) (Y := 0) c60 rfl (by decide)
            try have k65 := rm15
            try have k65w : ∀ a j, 61 ≤ a → a ≤ 76 → m15 a j = m a j := fun a j h1 h2 => (K9c a j (WX_wl (by decide) a j (WX_le (by omega)))).trans (kgw a j h1 h2)
            refine iv_inc (M := mX11_coverFor) (C := 1) dX11_coverFor_65 68 rfl rfl (by decide) rfl rfl (by decide) (by omega) (by omega) (fun v63 ev63 => ?_)
            show PV _ _ _ _ _ _ _ 68 [.ref 0, .int x0, .ref 169, .int v63] [] _
            refine pv_goto (M := mX11_coverFor) (tgt := 41) dX11_coverFor_68 (by decide) ?_
            have kbw : ∀ a j, 61 ≤ a → a ≤ 76 → m15 a j = m a j := by first | exact kgw | exact k65w
            have kbP : PCH r24 x0 v63.toInt.toNat := by rw [show v63.toInt.toNat = (y14.toInt).toNat + 1 by omega]; first | exact PCH_no kgP (by omega) | exact PCH_yes (p := (m15 169 4).toInt.toNat) kgP kam (by omega) (by rw [← kb62]; exact k65.2)
            have kb4 : (m15 169 4).toInt = ((mbs x0 v63.toInt.toNat).length : Int) := by rw [show v63.toInt.toNat = (y14.toInt).toNat + 1 by omega]; first | (rw [mbs_no (by omega)]; exact kg4) | (have z := k65.1; rw [kmy.1]; omega)
            exact ih21 v63 m15 n16 r24 (by first | omega | assumption | exact (iv_rng _).2 | exact (iv_rng _).1 | decide) (by first | omega | assumption | exact (iv_rng _).2 | exact (iv_rng _).1 | decide) kbP kb4 kbw I17 K18 or24 (by omega)
          · have c60 := iv_ne (X := v58.toInt) (Y := 0) c60 rfl (by decide)
            have kam : (amv x0 (Int32.ofInt (y14.toInt.toNat : Nat))).toInt ≠ 0 := by omega
            have kmy := mbs_yes kam
            have kml := mbs_le x0 8 (y14.toInt.toNat + 1) (by omega)
            have kmk := hp2 y14.toInt.toNat (mbs_up 8 (y14.toInt.toNat + 1) _ (by omega) kmy.2)
            refine pv_aload_n (M := mX11_coverFor) 2 dX11_coverFor_55 56 rfl rfl rfl ?_
            refine pv_aload_n (M := mX11_coverFor) 0 dX11_coverFor_56 57 rfl rfl rfl ?_
            refine mv_get (M := mX11_coverFor) (v := .ref 60) dX11_coverFor_57 FX11 3 wd410 (by decide) (tl0 hT) rfl rfl 60 rfl ?_
            refine pv_iload_n (M := mX11_coverFor) 3 dX11_coverFor_60 61 rfl rfl rfl ?_
            refine iv_qdeed (M := mX11_coverFor) (X := y14.toInt) dX11_coverFor_61 hT R rfl (by omega) (by omega) 62 rfl (fun b71 eb71 hb71 => ?_)
            have zb71 := hb71.2.2.2.2
            have kb62 : b71 = 61 + 2 * y14.toInt.toNat := by omega
            have k62 : (m15 b71 1).toInt ≤ 12 := by rw [kb62, kgw _ _ (by omega) (by omega)]; exact kmk
            refine pv_callv (M := mX11_coverFor) (as := [.ref b71]) (st := []) (kc2 := 0) (ks2 := 0) dX11_coverFor_62 wd1013 YX3_addPart ⟨wd1014, wd1015⟩ (mk_get (tc169 hC)) rfl rfl (s_X3_addPart_ve g hT I17 hC b71 16 hb71 (by omega) (by omega)) rfl rfl (Nat.le_of_ble_eq_true rfl) (by decide) rfl rfl 65 rfl (fun rv h1 q74 => ?_)
            obtain ⟨m75, n76, r79, rfl, rfl, I77, K78, qr79, rm75⟩ := q74
            replace rm75 : (m75 169 4).toInt = (m15 169 4).toInt + 1 ∧ r79 = up1 r24 (172000 + (m15 169 4).toInt.toNat) (.ref b71) := rm75
            have or79 := rn.ro or24 qr79
            have R := RX_ro R qr79
            have zR := R.2.2.2.2.1.1
            have zR2 := R.2.2.2.2.2.1
            have hc2 : r79 2 = .ref 169 := or79.1
            have K78c := K78
            have K78 := K18.trans (K78.sub (by exact WX_wl (by decide)))
            show PV _ _ _ _ _ _ _ 65 [.ref 0, .int x0, .ref 169, .int y14] [] _
            try have k65 := rm75
            try have k65w : ∀ a j, 61 ≤ a → a ≤ 76 → m75 a j = m a j := fun a j h1 h2 => (K78c a j (WX_wl (by decide) a j (WX_le (by omega)))).trans (kgw a j h1 h2)
            refine iv_inc (M := mX11_coverFor) (C := 1) dX11_coverFor_65 68 rfl rfl (by decide) rfl rfl (by decide) (by omega) (by omega) (fun v82 ev82 => ?_)
            show PV _ _ _ _ _ _ _ 68 [.ref 0, .int x0, .ref 169, .int v82] [] _
            refine pv_goto (M := mX11_coverFor) (tgt := 41) dX11_coverFor_68 (by decide) ?_
            have kbw : ∀ a j, 61 ≤ a → a ≤ 76 → m75 a j = m a j := by first | exact kgw | exact k65w
            have kbP : PCH r79 x0 v82.toInt.toNat := by rw [show v82.toInt.toNat = (y14.toInt).toNat + 1 by omega]; first | exact PCH_no kgP (by omega) | exact PCH_yes (p := (m15 169 4).toInt.toNat) kgP kam (by omega) (by rw [← kb62]; exact k65.2)
            have kb4 : (m75 169 4).toInt = ((mbs x0 v82.toInt.toNat).length : Int) := by rw [show v82.toInt.toNat = (y14.toInt).toNat + 1 by omega]; first | (rw [mbs_no (by omega)]; exact kg4) | (have z := k65.1; rw [kmy.1]; omega)
            exact ih21 v82 m75 n76 r79 (by first | omega | assumption | exact (iv_rng _).2 | exact (iv_rng _).1 | decide) (by first | omega | assumption | exact (iv_rng _).2 | exact (iv_rng _).1 | decide) kbP kb4 kbw I77 K78 or79 (by omega)
    have z86 : (0 : Int32).toInt = 0 := by decide
    exact lp20 (((8 - 0) : Int).toNat + 1) 0 m6 n7 r10 (by first | omega | assumption | exact (iv_rng _).2 | exact (iv_rng _).1 | decide) (by first | omega | assumption | exact (iv_rng _).2 | exact (iv_rng _).1 | decide) (PCH_0 kP0) (by rw [Int32.toInt_zero]; exact k4z) kw0 I8 K9 or10 (by omega)

set_option maxHeartbeats 2000000 in
set_option maxRecDepth 20000 in
theorem s_X11_coverFor_vf (g : pv_G) {T : List mv_T} {m : Nat → Nat → Int32} {n : Nat → Nat → Int64} {r : Nat → Value} {la lb : Nat} (hT : TX T) (I : IV BB m) (R : RX T r la lb) (hC : TC T) (hc2 : r 2 = .ref 169) (x0 : Int32) (hp0 : x0.toInt ≠ 0) (hp1 : (mbs x0 8).length ≤ 4) (hp2 : ∀ k, k ∈ mbs x0 8 → (m (61 + 2 * k) 1).toInt ≤ 12) (hp3 : (m 169 1).toInt ≠ 0 → SCL m (m 169 1)) : PM g mX11_coverFor yX11_coverFor (sqAr T BB WX rn r m 169 (fun m' r' => m' 169 1 = x0 ∧ SCL m' x0)) 5 0 0 [.ref 0, .int x0] (mk T m n r) := by
  have Kp : fr WX m m := fr.rf
  have R0 := R
  have zR := R.2.2.2.2.1.1
  have zR2 := R.2.2.2.2.2.1
  have hc20 := hc2
  refine PM.of 2 (lo := [.ref 0, .int x0, pv_U, pv_U]) rfl (by decide) rfl rfl (Nat.le_of_ble_eq_true rfl) ?_
  refine pv_aload_n (M := mX11_coverFor) 0 dX11_coverFor_0 1 rfl rfl rfl ?_
  refine mv_get (M := mX11_coverFor) (v := .ref 169) dX11_coverFor_1 FX11 12 wd419 (by decide) (tl0 hT) rfl hc2 4 rfl ?_
  refine pv_ifnonnull (M := mX11_coverFor) (tgt := 17) dX11_coverFor_4 (by decide) ?_
  refine pv_aload_n (M := mX11_coverFor) 0 dX11_coverFor_17 18 rfl rfl rfl ?_
  refine mv_get (M := mX11_coverFor) (v := .ref 169) dX11_coverFor_18 FX11 12 wd419 (by decide) (tl0 hT) rfl hc2 21 rfl ?_
  refine pv_astore_n (M := mX11_coverFor) 2 (lo2 := [.ref 0, .int x0, .ref 169, pv_U]) dX11_coverFor_21 22 rfl rfl (by decide) rfl rfl ?_
  refine pv_aload_n (M := mX11_coverFor) 0 dX11_coverFor_22 23 rfl rfl rfl ?_
  refine pv_aload_n (M := mX11_coverFor) 2 dX11_coverFor_23 24 rfl rfl rfl ?_
  refine mv_putr (M := mX11_coverFor) (j := 2) (v := .ref 169) dX11_coverFor_24 FX11 12 wd419 (by decide) rfl (tl0 hT) rfl (hu_of (by decide)) (NM2t hC) (fun _ => rfl) (fun _ => rfl) 27 rfl (fun r1 er1 => ?_)
  rw [er1.trans (up1_same hc2)]
  exact s_X11_coverFor_vtf g hT I Kp (rn.rf hc20) R hC hc2 x0 hp0 hp1 hp2 hp3
