set_option maxHeartbeats 400000 in
set_option maxRecDepth 20000 in
theorem k_X11_day (g : pv_G) {h : List pv_C} (a1 : Int32) (e0 : h[0]? = some (pv_o 11 [.ref 1, .ref 3, .int 0, .ref 60, .ref 77, .ref 86, .ref 97, .int 0, .int 1, .ref 104, .ref 107, .ref 112, .null, .ref 116, .ref 120, .ref 121, .ref 122])) : PM g mX11_day yX11_day (pv_is (some (.int (if a1 < 0 then 0 else (if a1 < 1000 then 1 else 0)))) ((if a1 < 0 then h else (if a1 < 1000 then (h.set 0 (pv_o 11 [.ref 1, .ref 3, .int 0, .ref 60, .ref 77, .ref 86, .ref 97, .int a1, .int 1, .ref 104, .ref 107, .ref 112, .null, .ref 116, .ref 120, .ref 121, .ref 122])) else h)))) 1 0 0 [.ref 0, .int a1] h := by
  refine PM.of 0 (lo := [.ref 0, .int a1]) rfl (by decide) rfl rfl (Nat.le_of_ble_eq_true rfl) ?_
  refine pv_iload_n (M := mX11_day) 1 dX11_day_0 1 rfl rfl rfl ?_
  refine pv_aload_n (M := mX11_day) 0 dX11_day_1 2 rfl rfl rfl ?_
  refine pv_get (M := mX11_day) dX11_day_2 FX11 7 wd414 (by decide) e0 rfl 5 rfl ?_
  refine pv_icmp_lt (M := mX11_day) (tgt := 15) dX11_day_5 8 rfl (by decide) (fun c1 => ?_) (fun c1 => ?_)
  · refine pv_iconst (M := mX11_day) (v := 0) dX11_day_15 16 rfl (by decide) ?_
    exact pv_iret (M := mX11_day) dX11_day_16 rfl rfl ⟨(by rw [if_pos c1] <;> rfl), (by rw [if_pos c1] <;> rfl)⟩
  · refine pv_iload_n (M := mX11_day) 1 dX11_day_8 9 rfl rfl rfl ?_
    refine pv_sipush (M := mX11_day) (v := 1000) dX11_day_9 12 rfl (by decide) ?_
    refine pv_icmp_lt (M := mX11_day) (tgt := 17) dX11_day_12 15 rfl (by decide) (fun c2 => ?_) (fun c2 => ?_)
    · refine pv_aload_n (M := mX11_day) 0 dX11_day_17 18 rfl rfl rfl ?_
      refine pv_iload_n (M := mX11_day) 1 dX11_day_18 19 rfl rfl rfl ?_
      refine pv_put (M := mX11_day) (fs2 := [.ref 1, .ref 3, .int 0, .ref 60, .ref 77, .ref 86, .ref 97, .int a1, .int 1, .ref 104, .ref 107, .ref 112, .null, .ref 116, .ref 120, .ref 121, .ref 122]) dX11_day_19 FX11 7 wd414 (by decide) rfl e0 (Nat.le_of_ble_eq_true rfl) (fun _ => rfl) (fun _ => rfl) rfl rfl 22 rfl ?_
      refine pv_iconst (M := mX11_day) (v := 1) dX11_day_22 23 rfl (by decide) ?_
      exact pv_iret (M := mX11_day) dX11_day_23 rfl rfl ⟨(by rw [if_neg c1, if_pos c2] <;> rfl), (by rw [if_neg c1, if_pos c2] <;> rfl)⟩
    · refine pv_iconst (M := mX11_day) (v := 0) dX11_day_15 16 rfl (by decide) ?_
      exact pv_iret (M := mX11_day) dX11_day_16 rfl rfl ⟨(by rw [if_neg c1, if_neg c2] <;> rfl), (by rw [if_neg c1, if_neg c2] <;> rfl)⟩

set_option maxHeartbeats 400000 in
set_option maxRecDepth 20000 in
theorem k_X10_hasRoom (g : pv_G) {h : List pv_C} (e1 : h[1]? = some (pv_o 10 [.ref 2, .int 0])) : PM g mX10_hasRoom yX10_hasRoom (pv_is (some (.int 1)) (h)) 1 0 0 [.ref 1, .int 20] h := by
  refine PM.of 0 (lo := [.ref 1, .int 20]) rfl (by decide) rfl rfl (Nat.le_of_ble_eq_true rfl) ?_
  refine pv_aload_n (M := mX10_hasRoom) 0 dX10_hasRoom_0 1 rfl rfl rfl ?_
  refine pv_get (M := mX10_hasRoom) dX10_hasRoom_1 FX10 1 wd163 (by decide) e1 rfl 4 rfl ?_
  refine pv_iload_n (M := mX10_hasRoom) 1 dX10_hasRoom_4 5 rfl rfl rfl ?_
  refine pv_iadd (M := mX10_hasRoom) (v := 20) dX10_hasRoom_5 6 rfl (by decide) ?_
  refine pv_sipush (M := mX10_hasRoom) (v := 200) dX10_hasRoom_6 9 rfl (by decide) ?_
  refine pv_icmp_gt (M := mX10_hasRoom) (tgt := 16) dX10_hasRoom_9 12 rfl (by decide) (fun q => absurd q (by decide)) (fun _ => ?_)
  refine pv_iconst (M := mX10_hasRoom) (v := 1) dX10_hasRoom_12 13 rfl (by decide) ?_
  refine pv_goto (M := mX10_hasRoom) (tgt := 17) dX10_hasRoom_13 (by decide) ?_
  exact pv_iret (M := mX10_hasRoom) dX10_hasRoom_17 rfl rfl ⟨rfl, rfl⟩

set_option maxHeartbeats 400000 in
set_option maxRecDepth 20000 in
theorem k_X10_put (g : pv_G) {h : List pv_C} (a1 : Int32) (e1 : h[1]? = some (pv_o 10 [.ref 2, .int 0])) (e2 : h[2]? = some (pv_i 200 (fun _ => 0))) : PM g mX10_put yX10_put (pv_is none (((((((((h.set 2 (pv_i 200 (upd (fun _ => 0) 0 (((a1.toUInt32 >>> ((24 : Int32).toUInt32 &&& Int32.toUInt32 31)).toInt32) &&& 255)))).set 1 (pv_o 10 [.ref 2, .int 1])).set 2 (pv_i 200 (upd (upd (fun _ => 0) 0 (((a1.toUInt32 >>> ((24 : Int32).toUInt32 &&& Int32.toUInt32 31)).toInt32) &&& 255)) 1 (((a1.toUInt32 >>> ((16 : Int32).toUInt32 &&& Int32.toUInt32 31)).toInt32) &&& 255)))).set 1 (pv_o 10 [.ref 2, .int 2])).set 2 (pv_i 200 (upd (upd (upd (fun _ => 0) 0 (((a1.toUInt32 >>> ((24 : Int32).toUInt32 &&& Int32.toUInt32 31)).toInt32) &&& 255)) 1 (((a1.toUInt32 >>> ((16 : Int32).toUInt32 &&& Int32.toUInt32 31)).toInt32) &&& 255)) 2 (((a1.toUInt32 >>> ((8 : Int32).toUInt32 &&& Int32.toUInt32 31)).toInt32) &&& 255)))).set 1 (pv_o 10 [.ref 2, .int 3])).set 2 (pv_i 200 (upd (upd (upd (upd (fun _ => 0) 0 (((a1.toUInt32 >>> ((24 : Int32).toUInt32 &&& Int32.toUInt32 31)).toInt32) &&& 255)) 1 (((a1.toUInt32 >>> ((16 : Int32).toUInt32 &&& Int32.toUInt32 31)).toInt32) &&& 255)) 2 (((a1.toUInt32 >>> ((8 : Int32).toUInt32 &&& Int32.toUInt32 31)).toInt32) &&& 255)) 3 (((a1.toUInt32 >>> ((0 : Int32).toUInt32 &&& Int32.toUInt32 31)).toInt32) &&& 255)))).set 1 (pv_o 10 [.ref 2, .int 4])))) 1 0 0 [.ref 1, .int a1] h := by
  refine PM.of 1 (lo := [.ref 1, .int a1, pv_U]) rfl (by decide) rfl rfl (Nat.le_of_ble_eq_true rfl) ?_
  refine pv_bipush (M := mX10_put) (v := 24) dX10_put_0 2 rfl (by decide) ?_
  refine pv_istore_n (M := mX10_put) 2 (lo2 := [.ref 1, .int a1, .int 24]) dX10_put_2 3 rfl rfl (by decide) rfl rfl ?_
  refine pv_iload_n (M := mX10_put) 2 dX10_put_3 4 rfl rfl rfl ?_
  refine pv_if_lt (M := mX10_put) (tgt := 49) dX10_put_4 7 rfl (by decide) (fun q => absurd q (by decide)) (fun _ => ?_)
  refine pv_aload_n (M := mX10_put) 0 dX10_put_7 8 rfl rfl rfl ?_
  refine pv_get (M := mX10_put) dX10_put_8 FX10 1 wd163 (by decide) e1 rfl 11 rfl ?_
  refine pv_sipush (M := mX10_put) (v := 200) dX10_put_11 14 rfl (by decide) ?_
  refine pv_icmp_ge (M := mX10_put) (tgt := 49) dX10_put_14 17 rfl (by decide) (fun q => absurd q (by decide)) (fun _ => ?_)
  refine pv_aload_n (M := mX10_put) 0 dX10_put_17 18 rfl rfl rfl ?_
  refine pv_get (M := mX10_put) dX10_put_18 FX10 0 wd161 (by decide) e1 rfl 21 rfl ?_
  refine pv_aload_n (M := mX10_put) 0 dX10_put_21 22 rfl rfl rfl ?_
  refine pv_get (M := mX10_put) dX10_put_22 FX10 1 wd163 (by decide) e1 rfl 25 rfl ?_
  refine pv_iload_n (M := mX10_put) 1 dX10_put_25 26 rfl rfl rfl ?_
  refine pv_iload_n (M := mX10_put) 2 dX10_put_26 27 rfl rfl rfl ?_
  refine pv_iushr (M := mX10_put) dX10_put_27 28 rfl rfl ?_
  refine pv_sipush (M := mX10_put) (v := 255) dX10_put_28 31 rfl (by decide) ?_
  refine pv_iand (M := mX10_put) (v := ((a1.toUInt32 >>> ((24 : Int32).toUInt32 &&& Int32.toUInt32 31)).toInt32) &&& 255) dX10_put_31 32 rfl rfl ?_
  refine pv_iast (M := mX10_put) dX10_put_32 e2 (pv_in0 (by decide)) (j := 0) (by decide) rfl 33 rfl ?_
  refine pv_aload_n (M := mX10_put) 0 dX10_put_33 34 rfl rfl rfl ?_
  refine pv_dup (M := mX10_put) dX10_put_34 35 rfl rfl ?_
  refine pv_get (M := mX10_put) dX10_put_35 FX10 1 wd163 (by decide) (pv_sn (by decide) e1) rfl 38 rfl ?_
  refine pv_iconst (M := mX10_put) (v := 1) dX10_put_38 39 rfl (by decide) ?_
  refine pv_iadd (M := mX10_put) (v := 1) dX10_put_39 40 rfl (by decide) ?_
  refine pv_put (M := mX10_put) (fs2 := [.ref 2, .int 1]) dX10_put_40 FX10 1 wd163 (by decide) rfl (pv_sn (by decide) e1) (Nat.le_of_ble_eq_true rfl) (fun _ => rfl) (fun _ => rfl) rfl rfl 43 rfl ?_
  refine pv_iinc (M := mX10_put) (v := 16) (lo2 := [.ref 1, .int a1, .int 16]) dX10_put_43 46 rfl rfl (by decide) (by decide) rfl rfl ?_
  refine pv_goto (M := mX10_put) (tgt := 3) dX10_put_46 (by decide) ?_
  refine pv_iload_n (M := mX10_put) 2 dX10_put_3 4 rfl rfl rfl ?_
  refine pv_if_lt (M := mX10_put) (tgt := 49) dX10_put_4 7 rfl (by decide) (fun q => absurd q (by decide)) (fun _ => ?_)
  refine pv_aload_n (M := mX10_put) 0 dX10_put_7 8 rfl rfl rfl ?_
  refine pv_get (M := mX10_put) dX10_put_8 FX10 1 wd163 (by decide) (pv_se (pv_sn (by decide) e1)) rfl 11 rfl ?_
  refine pv_sipush (M := mX10_put) (v := 200) dX10_put_11 14 rfl (by decide) ?_
  refine pv_icmp_ge (M := mX10_put) (tgt := 49) dX10_put_14 17 rfl (by decide) (fun q => absurd q (by decide)) (fun _ => ?_)
  refine pv_aload_n (M := mX10_put) 0 dX10_put_17 18 rfl rfl rfl ?_
  refine pv_get (M := mX10_put) dX10_put_18 FX10 0 wd161 (by decide) (pv_se (pv_sn (by decide) e1)) rfl 21 rfl ?_
  refine pv_aload_n (M := mX10_put) 0 dX10_put_21 22 rfl rfl rfl ?_
  refine pv_get (M := mX10_put) dX10_put_22 FX10 1 wd163 (by decide) (pv_se (pv_sn (by decide) e1)) rfl 25 rfl ?_
  refine pv_iload_n (M := mX10_put) 1 dX10_put_25 26 rfl rfl rfl ?_
  refine pv_iload_n (M := mX10_put) 2 dX10_put_26 27 rfl rfl rfl ?_
  refine pv_iushr (M := mX10_put) dX10_put_27 28 rfl rfl ?_
  refine pv_sipush (M := mX10_put) (v := 255) dX10_put_28 31 rfl (by decide) ?_
  refine pv_iand (M := mX10_put) (v := ((a1.toUInt32 >>> ((16 : Int32).toUInt32 &&& Int32.toUInt32 31)).toInt32) &&& 255) dX10_put_31 32 rfl rfl ?_
  refine pv_iast (M := mX10_put) dX10_put_32 (pv_sn (by decide) (pv_se e2)) (pv_in0 (by decide)) (j := 1) (by decide) rfl 33 rfl ?_
  refine pv_aload_n (M := mX10_put) 0 dX10_put_33 34 rfl rfl rfl ?_
  refine pv_dup (M := mX10_put) dX10_put_34 35 rfl rfl ?_
  refine pv_get (M := mX10_put) dX10_put_35 FX10 1 wd163 (by decide) (pv_sn (by decide) (pv_se (pv_sn (by decide) e1))) rfl 38 rfl ?_
  refine pv_iconst (M := mX10_put) (v := 1) dX10_put_38 39 rfl (by decide) ?_
  refine pv_iadd (M := mX10_put) (v := 2) dX10_put_39 40 rfl (by decide) ?_
  refine pv_put (M := mX10_put) (fs2 := [.ref 2, .int 2]) dX10_put_40 FX10 1 wd163 (by decide) rfl (pv_sn (by decide) (pv_se (pv_sn (by decide) e1))) (Nat.le_of_ble_eq_true rfl) (fun _ => rfl) (fun _ => rfl) rfl rfl 43 rfl ?_
  refine pv_iinc (M := mX10_put) (v := 8) (lo2 := [.ref 1, .int a1, .int 8]) dX10_put_43 46 rfl rfl (by decide) (by decide) rfl rfl ?_
  refine pv_goto (M := mX10_put) (tgt := 3) dX10_put_46 (by decide) ?_
  refine pv_iload_n (M := mX10_put) 2 dX10_put_3 4 rfl rfl rfl ?_
  refine pv_if_lt (M := mX10_put) (tgt := 49) dX10_put_4 7 rfl (by decide) (fun q => absurd q (by decide)) (fun _ => ?_)
  refine pv_aload_n (M := mX10_put) 0 dX10_put_7 8 rfl rfl rfl ?_
  refine pv_get (M := mX10_put) dX10_put_8 FX10 1 wd163 (by decide) (pv_se (pv_sn (by decide) (pv_se (pv_sn (by decide) e1)))) rfl 11 rfl ?_
  refine pv_sipush (M := mX10_put) (v := 200) dX10_put_11 14 rfl (by decide) ?_
  refine pv_icmp_ge (M := mX10_put) (tgt := 49) dX10_put_14 17 rfl (by decide) (fun q => absurd q (by decide)) (fun _ => ?_)
  refine pv_aload_n (M := mX10_put) 0 dX10_put_17 18 rfl rfl rfl ?_
  refine pv_get (M := mX10_put) dX10_put_18 FX10 0 wd161 (by decide) (pv_se (pv_sn (by decide) (pv_se (pv_sn (by decide) e1)))) rfl 21 rfl ?_
  refine pv_aload_n (M := mX10_put) 0 dX10_put_21 22 rfl rfl rfl ?_
  refine pv_get (M := mX10_put) dX10_put_22 FX10 1 wd163 (by decide) (pv_se (pv_sn (by decide) (pv_se (pv_sn (by decide) e1)))) rfl 25 rfl ?_
  refine pv_iload_n (M := mX10_put) 1 dX10_put_25 26 rfl rfl rfl ?_
  refine pv_iload_n (M := mX10_put) 2 dX10_put_26 27 rfl rfl rfl ?_
  refine pv_iushr (M := mX10_put) dX10_put_27 28 rfl rfl ?_
  refine pv_sipush (M := mX10_put) (v := 255) dX10_put_28 31 rfl (by decide) ?_
  refine pv_iand (M := mX10_put) (v := ((a1.toUInt32 >>> ((8 : Int32).toUInt32 &&& Int32.toUInt32 31)).toInt32) &&& 255) dX10_put_31 32 rfl rfl ?_
  refine pv_iast (M := mX10_put) dX10_put_32 (pv_sn (by decide) (pv_se (pv_sn (by decide) (pv_se e2)))) (pv_in0 (by decide)) (j := 2) (by decide) rfl 33 rfl ?_
  refine pv_aload_n (M := mX10_put) 0 dX10_put_33 34 rfl rfl rfl ?_
  refine pv_dup (M := mX10_put) dX10_put_34 35 rfl rfl ?_
  refine pv_get (M := mX10_put) dX10_put_35 FX10 1 wd163 (by decide) (pv_sn (by decide) (pv_se (pv_sn (by decide) (pv_se (pv_sn (by decide) e1))))) rfl 38 rfl ?_
  refine pv_iconst (M := mX10_put) (v := 1) dX10_put_38 39 rfl (by decide) ?_
  refine pv_iadd (M := mX10_put) (v := 3) dX10_put_39 40 rfl (by decide) ?_
  refine pv_put (M := mX10_put) (fs2 := [.ref 2, .int 3]) dX10_put_40 FX10 1 wd163 (by decide) rfl (pv_sn (by decide) (pv_se (pv_sn (by decide) (pv_se (pv_sn (by decide) e1))))) (Nat.le_of_ble_eq_true rfl) (fun _ => rfl) (fun _ => rfl) rfl rfl 43 rfl ?_
  refine pv_iinc (M := mX10_put) (v := 0) (lo2 := [.ref 1, .int a1, .int 0]) dX10_put_43 46 rfl rfl (by decide) (by decide) rfl rfl ?_
  refine pv_goto (M := mX10_put) (tgt := 3) dX10_put_46 (by decide) ?_
  refine pv_iload_n (M := mX10_put) 2 dX10_put_3 4 rfl rfl rfl ?_
  refine pv_if_lt (M := mX10_put) (tgt := 49) dX10_put_4 7 rfl (by decide) (fun q => absurd q (by decide)) (fun _ => ?_)
  refine pv_aload_n (M := mX10_put) 0 dX10_put_7 8 rfl rfl rfl ?_
  refine pv_get (M := mX10_put) dX10_put_8 FX10 1 wd163 (by decide) (pv_se (pv_sn (by decide) (pv_se (pv_sn (by decide) (pv_se (pv_sn (by decide) e1)))))) rfl 11 rfl ?_
  refine pv_sipush (M := mX10_put) (v := 200) dX10_put_11 14 rfl (by decide) ?_
  refine pv_icmp_ge (M := mX10_put) (tgt := 49) dX10_put_14 17 rfl (by decide) (fun q => absurd q (by decide)) (fun _ => ?_)
  refine pv_aload_n (M := mX10_put) 0 dX10_put_17 18 rfl rfl rfl ?_
  refine pv_get (M := mX10_put) dX10_put_18 FX10 0 wd161 (by decide) (pv_se (pv_sn (by decide) (pv_se (pv_sn (by decide) (pv_se (pv_sn (by decide) e1)))))) rfl 21 rfl ?_
  refine pv_aload_n (M := mX10_put) 0 dX10_put_21 22 rfl rfl rfl ?_
  refine pv_get (M := mX10_put) dX10_put_22 FX10 1 wd163 (by decide) (pv_se (pv_sn (by decide) (pv_se (pv_sn (by decide) (pv_se (pv_sn (by decide) e1)))))) rfl 25 rfl ?_
  refine pv_iload_n (M := mX10_put) 1 dX10_put_25 26 rfl rfl rfl ?_
  refine pv_iload_n (M := mX10_put) 2 dX10_put_26 27 rfl rfl rfl ?_
  refine pv_iushr (M := mX10_put) dX10_put_27 28 rfl rfl ?_
  refine pv_sipush (M := mX10_put) (v := 255) dX10_put_28 31 rfl (by decide) ?_
  refine pv_iand (M := mX10_put) (v := ((a1.toUInt32 >>> ((0 : Int32).toUInt32 &&& Int32.toUInt32 31)).toInt32) &&& 255) dX10_put_31 32 rfl rfl ?_
  refine pv_iast (M := mX10_put) dX10_put_32 (pv_sn (by decide) (pv_se (pv_sn (by decide) (pv_se (pv_sn (by decide) (pv_se e2)))))) (pv_in0 (by decide)) (j := 3) (by decide) rfl 33 rfl ?_
  refine pv_aload_n (M := mX10_put) 0 dX10_put_33 34 rfl rfl rfl ?_
  refine pv_dup (M := mX10_put) dX10_put_34 35 rfl rfl ?_
  refine pv_get (M := mX10_put) dX10_put_35 FX10 1 wd163 (by decide) (pv_sn (by decide) (pv_se (pv_sn (by decide) (pv_se (pv_sn (by decide) (pv_se (pv_sn (by decide) e1))))))) rfl 38 rfl ?_
  refine pv_iconst (M := mX10_put) (v := 1) dX10_put_38 39 rfl (by decide) ?_
  refine pv_iadd (M := mX10_put) (v := 4) dX10_put_39 40 rfl (by decide) ?_
  refine pv_put (M := mX10_put) (fs2 := [.ref 2, .int 4]) dX10_put_40 FX10 1 wd163 (by decide) rfl (pv_sn (by decide) (pv_se (pv_sn (by decide) (pv_se (pv_sn (by decide) (pv_se (pv_sn (by decide) e1))))))) (Nat.le_of_ble_eq_true rfl) (fun _ => rfl) (fun _ => rfl) rfl rfl 43 rfl ?_
  refine pv_iinc (M := mX10_put) (v := (-8)) (lo2 := [.ref 1, .int a1, .int (-8)]) dX10_put_43 46 rfl rfl (by decide) (by decide) rfl rfl ?_
  refine pv_goto (M := mX10_put) (tgt := 3) dX10_put_46 (by decide) ?_
  refine pv_iload_n (M := mX10_put) 2 dX10_put_3 4 rfl rfl rfl ?_
  refine pv_if_lt (M := mX10_put) (tgt := 49) dX10_put_4 7 rfl (by decide) (fun _ => ?_) (fun q => absurd (by decide) q)
  exact pv_vret (M := mX10_put) dX10_put_49 rfl ⟨rfl, rfl⟩

set_option maxHeartbeats 400000 in
set_option maxRecDepth 20000 in
theorem k_X10_put_2 (g : pv_G) {h : List pv_C} (a1 : Int32) (F2 : Nat → Int32) (e1 : h[1]? = some (pv_o 10 [.ref 2, .int 4])) (e2 : h[2]? = some (pv_i 200 F2)) : PM g mX10_put yX10_put (pv_is none (((((((((h.set 2 (pv_i 200 (upd F2 4 (((a1.toUInt32 >>> ((24 : Int32).toUInt32 &&& Int32.toUInt32 31)).toInt32) &&& 255)))).set 1 (pv_o 10 [.ref 2, .int 5])).set 2 (pv_i 200 (upd (upd F2 4 (((a1.toUInt32 >>> ((24 : Int32).toUInt32 &&& Int32.toUInt32 31)).toInt32) &&& 255)) 5 (((a1.toUInt32 >>> ((16 : Int32).toUInt32 &&& Int32.toUInt32 31)).toInt32) &&& 255)))).set 1 (pv_o 10 [.ref 2, .int 6])).set 2 (pv_i 200 (upd (upd (upd F2 4 (((a1.toUInt32 >>> ((24 : Int32).toUInt32 &&& Int32.toUInt32 31)).toInt32) &&& 255)) 5 (((a1.toUInt32 >>> ((16 : Int32).toUInt32 &&& Int32.toUInt32 31)).toInt32) &&& 255)) 6 (((a1.toUInt32 >>> ((8 : Int32).toUInt32 &&& Int32.toUInt32 31)).toInt32) &&& 255)))).set 1 (pv_o 10 [.ref 2, .int 7])).set 2 (pv_i 200 (upd (upd (upd (upd F2 4 (((a1.toUInt32 >>> ((24 : Int32).toUInt32 &&& Int32.toUInt32 31)).toInt32) &&& 255)) 5 (((a1.toUInt32 >>> ((16 : Int32).toUInt32 &&& Int32.toUInt32 31)).toInt32) &&& 255)) 6 (((a1.toUInt32 >>> ((8 : Int32).toUInt32 &&& Int32.toUInt32 31)).toInt32) &&& 255)) 7 (((a1.toUInt32 >>> ((0 : Int32).toUInt32 &&& Int32.toUInt32 31)).toInt32) &&& 255)))).set 1 (pv_o 10 [.ref 2, .int 8])))) 1 0 0 [.ref 1, .int a1] h := by
  refine PM.of 1 (lo := [.ref 1, .int a1, pv_U]) rfl (by decide) rfl rfl (Nat.le_of_ble_eq_true rfl) ?_
  refine pv_bipush (M := mX10_put) (v := 24) dX10_put_0 2 rfl (by decide) ?_
  refine pv_istore_n (M := mX10_put) 2 (lo2 := [.ref 1, .int a1, .int 24]) dX10_put_2 3 rfl rfl (by decide) rfl rfl ?_
  refine pv_iload_n (M := mX10_put) 2 dX10_put_3 4 rfl rfl rfl ?_
  refine pv_if_lt (M := mX10_put) (tgt := 49) dX10_put_4 7 rfl (by decide) (fun q => absurd q (by decide)) (fun _ => ?_)
  refine pv_aload_n (M := mX10_put) 0 dX10_put_7 8 rfl rfl rfl ?_
  refine pv_get (M := mX10_put) dX10_put_8 FX10 1 wd163 (by decide) e1 rfl 11 rfl ?_
  refine pv_sipush (M := mX10_put) (v := 200) dX10_put_11 14 rfl (by decide) ?_
  refine pv_icmp_ge (M := mX10_put) (tgt := 49) dX10_put_14 17 rfl (by decide) (fun q => absurd q (by decide)) (fun _ => ?_)
  refine pv_aload_n (M := mX10_put) 0 dX10_put_17 18 rfl rfl rfl ?_
  refine pv_get (M := mX10_put) dX10_put_18 FX10 0 wd161 (by decide) e1 rfl 21 rfl ?_
  refine pv_aload_n (M := mX10_put) 0 dX10_put_21 22 rfl rfl rfl ?_
  refine pv_get (M := mX10_put) dX10_put_22 FX10 1 wd163 (by decide) e1 rfl 25 rfl ?_
  refine pv_iload_n (M := mX10_put) 1 dX10_put_25 26 rfl rfl rfl ?_
  refine pv_iload_n (M := mX10_put) 2 dX10_put_26 27 rfl rfl rfl ?_
  refine pv_iushr (M := mX10_put) dX10_put_27 28 rfl rfl ?_
  refine pv_sipush (M := mX10_put) (v := 255) dX10_put_28 31 rfl (by decide) ?_
  refine pv_iand (M := mX10_put) (v := ((a1.toUInt32 >>> ((24 : Int32).toUInt32 &&& Int32.toUInt32 31)).toInt32) &&& 255) dX10_put_31 32 rfl rfl ?_
  refine pv_iast (M := mX10_put) dX10_put_32 e2 (pv_in0 (by decide)) (j := 4) (by decide) rfl 33 rfl ?_
  refine pv_aload_n (M := mX10_put) 0 dX10_put_33 34 rfl rfl rfl ?_
  refine pv_dup (M := mX10_put) dX10_put_34 35 rfl rfl ?_
  refine pv_get (M := mX10_put) dX10_put_35 FX10 1 wd163 (by decide) (pv_sn (by decide) e1) rfl 38 rfl ?_
  refine pv_iconst (M := mX10_put) (v := 1) dX10_put_38 39 rfl (by decide) ?_
  refine pv_iadd (M := mX10_put) (v := 5) dX10_put_39 40 rfl (by decide) ?_
  refine pv_put (M := mX10_put) (fs2 := [.ref 2, .int 5]) dX10_put_40 FX10 1 wd163 (by decide) rfl (pv_sn (by decide) e1) (Nat.le_of_ble_eq_true rfl) (fun _ => rfl) (fun _ => rfl) rfl rfl 43 rfl ?_
  refine pv_iinc (M := mX10_put) (v := 16) (lo2 := [.ref 1, .int a1, .int 16]) dX10_put_43 46 rfl rfl (by decide) (by decide) rfl rfl ?_
  refine pv_goto (M := mX10_put) (tgt := 3) dX10_put_46 (by decide) ?_
  refine pv_iload_n (M := mX10_put) 2 dX10_put_3 4 rfl rfl rfl ?_
  refine pv_if_lt (M := mX10_put) (tgt := 49) dX10_put_4 7 rfl (by decide) (fun q => absurd q (by decide)) (fun _ => ?_)
  refine pv_aload_n (M := mX10_put) 0 dX10_put_7 8 rfl rfl rfl ?_
  refine pv_get (M := mX10_put) dX10_put_8 FX10 1 wd163 (by decide) (pv_se (pv_sn (by decide) e1)) rfl 11 rfl ?_
  refine pv_sipush (M := mX10_put) (v := 200) dX10_put_11 14 rfl (by decide) ?_
  refine pv_icmp_ge (M := mX10_put) (tgt := 49) dX10_put_14 17 rfl (by decide) (fun q => absurd q (by decide)) (fun _ => ?_)
  refine pv_aload_n (M := mX10_put) 0 dX10_put_17 18 rfl rfl rfl ?_
  refine pv_get (M := mX10_put) dX10_put_18 FX10 0 wd161 (by decide) (pv_se (pv_sn (by decide) e1)) rfl 21 rfl ?_
  refine pv_aload_n (M := mX10_put) 0 dX10_put_21 22 rfl rfl rfl ?_
  refine pv_get (M := mX10_put) dX10_put_22 FX10 1 wd163 (by decide) (pv_se (pv_sn (by decide) e1)) rfl 25 rfl ?_
  refine pv_iload_n (M := mX10_put) 1 dX10_put_25 26 rfl rfl rfl ?_
  refine pv_iload_n (M := mX10_put) 2 dX10_put_26 27 rfl rfl rfl ?_
  refine pv_iushr (M := mX10_put) dX10_put_27 28 rfl rfl ?_
  refine pv_sipush (M := mX10_put) (v := 255) dX10_put_28 31 rfl (by decide) ?_
  refine pv_iand (M := mX10_put) (v := ((a1.toUInt32 >>> ((16 : Int32).toUInt32 &&& Int32.toUInt32 31)).toInt32) &&& 255) dX10_put_31 32 rfl rfl ?_
  refine pv_iast (M := mX10_put) dX10_put_32 (pv_sn (by decide) (pv_se e2)) (pv_in0 (by decide)) (j := 5) (by decide) rfl 33 rfl ?_
  refine pv_aload_n (M := mX10_put) 0 dX10_put_33 34 rfl rfl rfl ?_
  refine pv_dup (M := mX10_put) dX10_put_34 35 rfl rfl ?_
  refine pv_get (M := mX10_put) dX10_put_35 FX10 1 wd163 (by decide) (pv_sn (by decide) (pv_se (pv_sn (by decide) e1))) rfl 38 rfl ?_
  refine pv_iconst (M := mX10_put) (v := 1) dX10_put_38 39 rfl (by decide) ?_
  refine pv_iadd (M := mX10_put) (v := 6) dX10_put_39 40 rfl (by decide) ?_
  refine pv_put (M := mX10_put) (fs2 := [.ref 2, .int 6]) dX10_put_40 FX10 1 wd163 (by decide) rfl (pv_sn (by decide) (pv_se (pv_sn (by decide) e1))) (Nat.le_of_ble_eq_true rfl) (fun _ => rfl) (fun _ => rfl) rfl rfl 43 rfl ?_
  refine pv_iinc (M := mX10_put) (v := 8) (lo2 := [.ref 1, .int a1, .int 8]) dX10_put_43 46 rfl rfl (by decide) (by decide) rfl rfl ?_
  refine pv_goto (M := mX10_put) (tgt := 3) dX10_put_46 (by decide) ?_
  refine pv_iload_n (M := mX10_put) 2 dX10_put_3 4 rfl rfl rfl ?_
  refine pv_if_lt (M := mX10_put) (tgt := 49) dX10_put_4 7 rfl (by decide) (fun q => absurd q (by decide)) (fun _ => ?_)
  refine pv_aload_n (M := mX10_put) 0 dX10_put_7 8 rfl rfl rfl ?_
  refine pv_get (M := mX10_put) dX10_put_8 FX10 1 wd163 (by decide) (pv_se (pv_sn (by decide) (pv_se (pv_sn (by decide) e1)))) rfl 11 rfl ?_
  refine pv_sipush (M := mX10_put) (v := 200) dX10_put_11 14 rfl (by decide) ?_
  refine pv_icmp_ge (M := mX10_put) (tgt := 49) dX10_put_14 17 rfl (by decide) (fun q => absurd q (by decide)) (fun _ => ?_)
  refine pv_aload_n (M := mX10_put) 0 dX10_put_17 18 rfl rfl rfl ?_
  refine pv_get (M := mX10_put) dX10_put_18 FX10 0 wd161 (by decide) (pv_se (pv_sn (by decide) (pv_se (pv_sn (by decide) e1)))) rfl 21 rfl ?_
  refine pv_aload_n (M := mX10_put) 0 dX10_put_21 22 rfl rfl rfl ?_
  refine pv_get (M := mX10_put) dX10_put_22 FX10 1 wd163 (by decide) (pv_se (pv_sn (by decide) (pv_se (pv_sn (by decide) e1)))) rfl 25 rfl ?_
  refine pv_iload_n (M := mX10_put) 1 dX10_put_25 26 rfl rfl rfl ?_
  refine pv_iload_n (M := mX10_put) 2 dX10_put_26 27 rfl rfl rfl ?_
  refine pv_iushr (M := mX10_put) dX10_put_27 28 rfl rfl ?_
  refine pv_sipush (M := mX10_put) (v := 255) dX10_put_28 31 rfl (by decide) ?_
  refine pv_iand (M := mX10_put) (v := ((a1.toUInt32 >>> ((8 : Int32).toUInt32 &&& Int32.toUInt32 31)).toInt32) &&& 255) dX10_put_31 32 rfl rfl ?_
  refine pv_iast (M := mX10_put) dX10_put_32 (pv_sn (by decide) (pv_se (pv_sn (by decide) (pv_se e2)))) (pv_in0 (by decide)) (j := 6) (by decide) rfl 33 rfl ?_
  refine pv_aload_n (M := mX10_put) 0 dX10_put_33 34 rfl rfl rfl ?_
  refine pv_dup (M := mX10_put) dX10_put_34 35 rfl rfl ?_
  refine pv_get (M := mX10_put) dX10_put_35 FX10 1 wd163 (by decide) (pv_sn (by decide) (pv_se (pv_sn (by decide) (pv_se (pv_sn (by decide) e1))))) rfl 38 rfl ?_
  refine pv_iconst (M := mX10_put) (v := 1) dX10_put_38 39 rfl (by decide) ?_
  refine pv_iadd (M := mX10_put) (v := 7) dX10_put_39 40 rfl (by decide) ?_
  refine pv_put (M := mX10_put) (fs2 := [.ref 2, .int 7]) dX10_put_40 FX10 1 wd163 (by decide) rfl (pv_sn (by decide) (pv_se (pv_sn (by decide) (pv_se (pv_sn (by decide) e1))))) (Nat.le_of_ble_eq_true rfl) (fun _ => rfl) (fun _ => rfl) rfl rfl 43 rfl ?_
  refine pv_iinc (M := mX10_put) (v := 0) (lo2 := [.ref 1, .int a1, .int 0]) dX10_put_43 46 rfl rfl (by decide) (by decide) rfl rfl ?_
  refine pv_goto (M := mX10_put) (tgt := 3) dX10_put_46 (by decide) ?_
  refine pv_iload_n (M := mX10_put) 2 dX10_put_3 4 rfl rfl rfl ?_
  refine pv_if_lt (M := mX10_put) (tgt := 49) dX10_put_4 7 rfl (by decide) (fun q => absurd q (by decide)) (fun _ => ?_)
  refine pv_aload_n (M := mX10_put) 0 dX10_put_7 8 rfl rfl rfl ?_
  refine pv_get (M := mX10_put) dX10_put_8 FX10 1 wd163 (by decide) (pv_se (pv_sn (by decide) (pv_se (pv_sn (by decide) (pv_se (pv_sn (by decide) e1)))))) rfl 11 rfl ?_
  refine pv_sipush (M := mX10_put) (v := 200) dX10_put_11 14 rfl (by decide) ?_
  refine pv_icmp_ge (M := mX10_put) (tgt := 49) dX10_put_14 17 rfl (by decide) (fun q => absurd q (by decide)) (fun _ => ?_)
  refine pv_aload_n (M := mX10_put) 0 dX10_put_17 18 rfl rfl rfl ?_
  refine pv_get (M := mX10_put) dX10_put_18 FX10 0 wd161 (by decide) (pv_se (pv_sn (by decide) (pv_se (pv_sn (by decide) (pv_se (pv_sn (by decide) e1)))))) rfl 21 rfl ?_
  refine pv_aload_n (M := mX10_put) 0 dX10_put_21 22 rfl rfl rfl ?_
  refine pv_get (M := mX10_put) dX10_put_22 FX10 1 wd163 (by decide) (pv_se (pv_sn (by decide) (pv_se (pv_sn (by decide) (pv_se (pv_sn (by decide) e1)))))) rfl 25 rfl ?_
  refine pv_iload_n (M := mX10_put) 1 dX10_put_25 26 rfl rfl rfl ?_
  refine pv_iload_n (M := mX10_put) 2 dX10_put_26 27 rfl rfl rfl ?_
  refine pv_iushr (M := mX10_put) dX10_put_27 28 rfl rfl ?_
  refine pv_sipush (M := mX10_put) (v := 255) dX10_put_28 31 rfl (by decide) ?_
  refine pv_iand (M := mX10_put) (v := ((a1.toUInt32 >>> ((0 : Int32).toUInt32 &&& Int32.toUInt32 31)).toInt32) &&& 255) dX10_put_31 32 rfl rfl ?_
  refine pv_iast (M := mX10_put) dX10_put_32 (pv_sn (by decide) (pv_se (pv_sn (by decide) (pv_se (pv_sn (by decide) (pv_se e2)))))) (pv_in0 (by decide)) (j := 7) (by decide) rfl 33 rfl ?_
  refine pv_aload_n (M := mX10_put) 0 dX10_put_33 34 rfl rfl rfl ?_
  refine pv_dup (M := mX10_put) dX10_put_34 35 rfl rfl ?_
  refine pv_get (M := mX10_put) dX10_put_35 FX10 1 wd163 (by decide) (pv_sn (by decide) (pv_se (pv_sn (by decide) (pv_se (pv_sn (by decide) (pv_se (pv_sn (by decide) e1))))))) rfl 38 rfl ?_
  refine pv_iconst (M := mX10_put) (v := 1) dX10_put_38 39 rfl (by decide) ?_
  refine pv_iadd (M := mX10_put) (v := 8) dX10_put_39 40 rfl (by decide) ?_
  refine pv_put (M := mX10_put) (fs2 := [.ref 2, .int 8]) dX10_put_40 FX10 1 wd163 (by decide) rfl (pv_sn (by decide) (pv_se (pv_sn (by decide) (pv_se (pv_sn (by decide) (pv_se (pv_sn (by decide) e1))))))) (Nat.le_of_ble_eq_true rfl) (fun _ => rfl) (fun _ => rfl) rfl rfl 43 rfl ?_
  refine pv_iinc (M := mX10_put) (v := (-8)) (lo2 := [.ref 1, .int a1, .int (-8)]) dX10_put_43 46 rfl rfl (by decide) (by decide) rfl rfl ?_
  refine pv_goto (M := mX10_put) (tgt := 3) dX10_put_46 (by decide) ?_
  refine pv_iload_n (M := mX10_put) 2 dX10_put_3 4 rfl rfl rfl ?_
  refine pv_if_lt (M := mX10_put) (tgt := 49) dX10_put_4 7 rfl (by decide) (fun _ => ?_) (fun q => absurd (by decide) q)
  exact pv_vret (M := mX10_put) dX10_put_49 rfl ⟨rfl, rfl⟩

set_option maxHeartbeats 400000 in
set_option maxRecDepth 20000 in
theorem k_X10_put_3 (g : pv_G) {h : List pv_C} (a1 : Int32) (F2 : Nat → Int32) (e1 : h[1]? = some (pv_o 10 [.ref 2, .int 8])) (e2 : h[2]? = some (pv_i 200 F2)) : PM g mX10_put yX10_put (pv_is none (((((((((h.set 2 (pv_i 200 (upd F2 8 (((a1.toUInt32 >>> ((24 : Int32).toUInt32 &&& Int32.toUInt32 31)).toInt32) &&& 255)))).set 1 (pv_o 10 [.ref 2, .int 9])).set 2 (pv_i 200 (upd (upd F2 8 (((a1.toUInt32 >>> ((24 : Int32).toUInt32 &&& Int32.toUInt32 31)).toInt32) &&& 255)) 9 (((a1.toUInt32 >>> ((16 : Int32).toUInt32 &&& Int32.toUInt32 31)).toInt32) &&& 255)))).set 1 (pv_o 10 [.ref 2, .int 10])).set 2 (pv_i 200 (upd (upd (upd F2 8 (((a1.toUInt32 >>> ((24 : Int32).toUInt32 &&& Int32.toUInt32 31)).toInt32) &&& 255)) 9 (((a1.toUInt32 >>> ((16 : Int32).toUInt32 &&& Int32.toUInt32 31)).toInt32) &&& 255)) 10 (((a1.toUInt32 >>> ((8 : Int32).toUInt32 &&& Int32.toUInt32 31)).toInt32) &&& 255)))).set 1 (pv_o 10 [.ref 2, .int 11])).set 2 (pv_i 200 (upd (upd (upd (upd F2 8 (((a1.toUInt32 >>> ((24 : Int32).toUInt32 &&& Int32.toUInt32 31)).toInt32) &&& 255)) 9 (((a1.toUInt32 >>> ((16 : Int32).toUInt32 &&& Int32.toUInt32 31)).toInt32) &&& 255)) 10 (((a1.toUInt32 >>> ((8 : Int32).toUInt32 &&& Int32.toUInt32 31)).toInt32) &&& 255)) 11 (((a1.toUInt32 >>> ((0 : Int32).toUInt32 &&& Int32.toUInt32 31)).toInt32) &&& 255)))).set 1 (pv_o 10 [.ref 2, .int 12])))) 1 0 0 [.ref 1, .int a1] h := by
  refine PM.of 1 (lo := [.ref 1, .int a1, pv_U]) rfl (by decide) rfl rfl (Nat.le_of_ble_eq_true rfl) ?_
  refine pv_bipush (M := mX10_put) (v := 24) dX10_put_0 2 rfl (by decide) ?_
  refine pv_istore_n (M := mX10_put) 2 (lo2 := [.ref 1, .int a1, .int 24]) dX10_put_2 3 rfl rfl (by decide) rfl rfl ?_
  refine pv_iload_n (M := mX10_put) 2 dX10_put_3 4 rfl rfl rfl ?_
  refine pv_if_lt (M := mX10_put) (tgt := 49) dX10_put_4 7 rfl (by decide) (fun q => absurd q (by decide)) (fun _ => ?_)
  refine pv_aload_n (M := mX10_put) 0 dX10_put_7 8 rfl rfl rfl ?_
  refine pv_get (M := mX10_put) dX10_put_8 FX10 1 wd163 (by decide) e1 rfl 11 rfl ?_
  refine pv_sipush (M := mX10_put) (v := 200) dX10_put_11 14 rfl (by decide) ?_
  refine pv_icmp_ge (M := mX10_put) (tgt := 49) dX10_put_14 17 rfl (by decide) (fun q => absurd q (by decide)) (fun _ => ?_)
  refine pv_aload_n (M := mX10_put) 0 dX10_put_17 18 rfl rfl rfl ?_
  refine pv_get (M := mX10_put) dX10_put_18 FX10 0 wd161 (by decide) e1 rfl 21 rfl ?_
  refine pv_aload_n (M := mX10_put) 0 dX10_put_21 22 rfl rfl rfl ?_
  refine pv_get (M := mX10_put) dX10_put_22 FX10 1 wd163 (by decide) e1 rfl 25 rfl ?_
  refine pv_iload_n (M := mX10_put) 1 dX10_put_25 26 rfl rfl rfl ?_
  refine pv_iload_n (M := mX10_put) 2 dX10_put_26 27 rfl rfl rfl ?_
  refine pv_iushr (M := mX10_put) dX10_put_27 28 rfl rfl ?_
  refine pv_sipush (M := mX10_put) (v := 255) dX10_put_28 31 rfl (by decide) ?_
  refine pv_iand (M := mX10_put) (v := ((a1.toUInt32 >>> ((24 : Int32).toUInt32 &&& Int32.toUInt32 31)).toInt32) &&& 255) dX10_put_31 32 rfl rfl ?_
  refine pv_iast (M := mX10_put) dX10_put_32 e2 (pv_in0 (by decide)) (j := 8) (by decide) rfl 33 rfl ?_
  refine pv_aload_n (M := mX10_put) 0 dX10_put_33 34 rfl rfl rfl ?_
  refine pv_dup (M := mX10_put) dX10_put_34 35 rfl rfl ?_
  refine pv_get (M := mX10_put) dX10_put_35 FX10 1 wd163 (by decide) (pv_sn (by decide) e1) rfl 38 rfl ?_
  refine pv_iconst (M := mX10_put) (v := 1) dX10_put_38 39 rfl (by decide) ?_
  refine pv_iadd (M := mX10_put) (v := 9) dX10_put_39 40 rfl (by decide) ?_
  refine pv_put (M := mX10_put) (fs2 := [.ref 2, .int 9]) dX10_put_40 FX10 1 wd163 (by decide) rfl (pv_sn (by decide) e1) (Nat.le_of_ble_eq_true rfl) (fun _ => rfl) (fun _ => rfl) rfl rfl 43 rfl ?_
  refine pv_iinc (M := mX10_put) (v := 16) (lo2 := [.ref 1, .int a1, .int 16]) dX10_put_43 46 rfl rfl (by decide) (by decide) rfl rfl ?_
  refine pv_goto (M := mX10_put) (tgt := 3) dX10_put_46 (by decide) ?_
  refine pv_iload_n (M := mX10_put) 2 dX10_put_3 4 rfl rfl rfl ?_
  refine pv_if_lt (M := mX10_put) (tgt := 49) dX10_put_4 7 rfl (by decide) (fun q => absurd q (by decide)) (fun _ => ?_)
  refine pv_aload_n (M := mX10_put) 0 dX10_put_7 8 rfl rfl rfl ?_
  refine pv_get (M := mX10_put) dX10_put_8 FX10 1 wd163 (by decide) (pv_se (pv_sn (by decide) e1)) rfl 11 rfl ?_
  refine pv_sipush (M := mX10_put) (v := 200) dX10_put_11 14 rfl (by decide) ?_
  refine pv_icmp_ge (M := mX10_put) (tgt := 49) dX10_put_14 17 rfl (by decide) (fun q => absurd q (by decide)) (fun _ => ?_)
  refine pv_aload_n (M := mX10_put) 0 dX10_put_17 18 rfl rfl rfl ?_
  refine pv_get (M := mX10_put) dX10_put_18 FX10 0 wd161 (by decide) (pv_se (pv_sn (by decide) e1)) rfl 21 rfl ?_
  refine pv_aload_n (M := mX10_put) 0 dX10_put_21 22 rfl rfl rfl ?_
  refine pv_get (M := mX10_put) dX10_put_22 FX10 1 wd163 (by decide) (pv_se (pv_sn (by decide) e1)) rfl 25 rfl ?_
  refine pv_iload_n (M := mX10_put) 1 dX10_put_25 26 rfl rfl rfl ?_
  refine pv_iload_n (M := mX10_put) 2 dX10_put_26 27 rfl rfl rfl ?_
  refine pv_iushr (M := mX10_put) dX10_put_27 28 rfl rfl ?_
  refine pv_sipush (M := mX10_put) (v := 255) dX10_put_28 31 rfl (by decide) ?_
  refine pv_iand (M := mX10_put) (v := ((a1.toUInt32 >>> ((16 : Int32).toUInt32 &&& Int32.toUInt32 31)).toInt32) &&& 255) dX10_put_31 32 rfl rfl ?_
  refine pv_iast (M := mX10_put) dX10_put_32 (pv_sn (by decide) (pv_se e2)) (pv_in0 (by decide)) (j := 9) (by decide) rfl 33 rfl ?_
  refine pv_aload_n (M := mX10_put) 0 dX10_put_33 34 rfl rfl rfl ?_
  refine pv_dup (M := mX10_put) dX10_put_34 35 rfl rfl ?_
  refine pv_get (M := mX10_put) dX10_put_35 FX10 1 wd163 (by decide) (pv_sn (by decide) (pv_se (pv_sn (by decide) e1))) rfl 38 rfl ?_
  refine pv_iconst (M := mX10_put) (v := 1) dX10_put_38 39 rfl (by decide) ?_
  refine pv_iadd (M := mX10_put) (v := 10) dX10_put_39 40 rfl (by decide) ?_
  refine pv_put (M := mX10_put) (fs2 := [.ref 2, .int 10]) dX10_put_40 FX10 1 wd163 (by decide) rfl (pv_sn (by decide) (pv_se (pv_sn (by decide) e1))) (Nat.le_of_ble_eq_true rfl) (fun _ => rfl) (fun _ => rfl) rfl rfl 43 rfl ?_
  refine pv_iinc (M := mX10_put) (v := 8) (lo2 := [.ref 1, .int a1, .int 8]) dX10_put_43 46 rfl rfl (by decide) (by decide) rfl rfl ?_
  refine pv_goto (M := mX10_put) (tgt := 3) dX10_put_46 (by decide) ?_
  refine pv_iload_n (M := mX10_put) 2 dX10_put_3 4 rfl rfl rfl ?_
  refine pv_if_lt (M := mX10_put) (tgt := 49) dX10_put_4 7 rfl (by decide) (fun q => absurd q (by decide)) (fun _ => ?_)
  refine pv_aload_n (M := mX10_put) 0 dX10_put_7 8 rfl rfl rfl ?_
  refine pv_get (M := mX10_put) dX10_put_8 FX10 1 wd163 (by decide) (pv_se (pv_sn (by decide) (pv_se (pv_sn (by decide) e1)))) rfl 11 rfl ?_
  refine pv_sipush (M := mX10_put) (v := 200) dX10_put_11 14 rfl (by decide) ?_
  refine pv_icmp_ge (M := mX10_put) (tgt := 49) dX10_put_14 17 rfl (by decide) (fun q => absurd q (by decide)) (fun _ => ?_)
  refine pv_aload_n (M := mX10_put) 0 dX10_put_17 18 rfl rfl rfl ?_
  refine pv_get (M := mX10_put) dX10_put_18 FX10 0 wd161 (by decide) (pv_se (pv_sn (by decide) (pv_se (pv_sn (by decide) e1)))) rfl 21 rfl ?_
  refine pv_aload_n (M := mX10_put) 0 dX10_put_21 22 rfl rfl rfl ?_
  refine pv_get (M := mX10_put) dX10_put_22 FX10 1 wd163 (by decide) (pv_se (pv_sn (by decide) (pv_se (pv_sn (by decide) e1)))) rfl 25 rfl ?_
  refine pv_iload_n (M := mX10_put) 1 dX10_put_25 26 rfl rfl rfl ?_
  refine pv_iload_n (M := mX10_put) 2 dX10_put_26 27 rfl rfl rfl ?_
  refine pv_iushr (M := mX10_put) dX10_put_27 28 rfl rfl ?_
  refine pv_sipush (M := mX10_put) (v := 255) dX10_put_28 31 rfl (by decide) ?_
  refine pv_iand (M := mX10_put) (v := ((a1.toUInt32 >>> ((8 : Int32).toUInt32 &&& Int32.toUInt32 31)).toInt32) &&& 255) dX10_put_31 32 rfl rfl ?_
  refine pv_iast (M := mX10_put) dX10_put_32 (pv_sn (by decide) (pv_se (pv_sn (by decide) (pv_se e2)))) (pv_in0 (by decide)) (j := 10) (by decide) rfl 33 rfl ?_
  refine pv_aload_n (M := mX10_put) 0 dX10_put_33 34 rfl rfl rfl ?_
  refine pv_dup (M := mX10_put) dX10_put_34 35 rfl rfl ?_
  refine pv_get (M := mX10_put) dX10_put_35 FX10 1 wd163 (by decide) (pv_sn (by decide) (pv_se (pv_sn (by decide) (pv_se (pv_sn (by decide) e1))))) rfl 38 rfl ?_
  refine pv_iconst (M := mX10_put) (v := 1) dX10_put_38 39 rfl (by decide) ?_
  refine pv_iadd (M := mX10_put) (v := 11) dX10_put_39 40 rfl (by decide) ?_
  refine pv_put (M := mX10_put) (fs2 := [.ref 2, .int 11]) dX10_put_40 FX10 1 wd163 (by decide) rfl (pv_sn (by decide) (pv_se (pv_sn (by decide) (pv_se (pv_sn (by decide) e1))))) (Nat.le_of_ble_eq_true rfl) (fun _ => rfl) (fun _ => rfl) rfl rfl 43 rfl ?_
  refine pv_iinc (M := mX10_put) (v := 0) (lo2 := [.ref 1, .int a1, .int 0]) dX10_put_43 46 rfl rfl (by decide) (by decide) rfl rfl ?_
  refine pv_goto (M := mX10_put) (tgt := 3) dX10_put_46 (by decide) ?_
  refine pv_iload_n (M := mX10_put) 2 dX10_put_3 4 rfl rfl rfl ?_
  refine pv_if_lt (M := mX10_put) (tgt := 49) dX10_put_4 7 rfl (by decide) (fun q => absurd q (by decide)) (fun _ => ?_)
  refine pv_aload_n (M := mX10_put) 0 dX10_put_7 8 rfl rfl rfl ?_
  refine pv_get (M := mX10_put) dX10_put_8 FX10 1 wd163 (by decide) (pv_se (pv_sn (by decide) (pv_se (pv_sn (by decide) (pv_se (pv_sn (by decide) e1)))))) rfl 11 rfl ?_
  refine pv_sipush (M := mX10_put) (v := 200) dX10_put_11 14 rfl (by decide) ?_
  refine pv_icmp_ge (M := mX10_put) (tgt := 49) dX10_put_14 17 rfl (by decide) (fun q => absurd q (by decide)) (fun _ => ?_)
  refine pv_aload_n (M := mX10_put) 0 dX10_put_17 18 rfl rfl rfl ?_
  refine pv_get (M := mX10_put) dX10_put_18 FX10 0 wd161 (by decide) (pv_se (pv_sn (by decide) (pv_se (pv_sn (by decide) (pv_se (pv_sn (by decide) e1)))))) rfl 21 rfl ?_
  refine pv_aload_n (M := mX10_put) 0 dX10_put_21 22 rfl rfl rfl ?_
  refine pv_get (M := mX10_put) dX10_put_22 FX10 1 wd163 (by decide) (pv_se (pv_sn (by decide) (pv_se (pv_sn (by decide) (pv_se (pv_sn (by decide) e1)))))) rfl 25 rfl ?_
  refine pv_iload_n (M := mX10_put) 1 dX10_put_25 26 rfl rfl rfl ?_
  refine pv_iload_n (M := mX10_put) 2 dX10_put_26 27 rfl rfl rfl ?_
  refine pv_iushr (M := mX10_put) dX10_put_27 28 rfl rfl ?_
  refine pv_sipush (M := mX10_put) (v := 255) dX10_put_28 31 rfl (by decide) ?_
  refine pv_iand (M := mX10_put) (v := ((a1.toUInt32 >>> ((0 : Int32).toUInt32 &&& Int32.toUInt32 31)).toInt32) &&& 255) dX10_put_31 32 rfl rfl ?_
  refine pv_iast (M := mX10_put) dX10_put_32 (pv_sn (by decide) (pv_se (pv_sn (by decide) (pv_se (pv_sn (by decide) (pv_se e2)))))) (pv_in0 (by decide)) (j := 11) (by decide) rfl 33 rfl ?_
  refine pv_aload_n (M := mX10_put) 0 dX10_put_33 34 rfl rfl rfl ?_
  refine pv_dup (M := mX10_put) dX10_put_34 35 rfl rfl ?_
  refine pv_get (M := mX10_put) dX10_put_35 FX10 1 wd163 (by decide) (pv_sn (by decide) (pv_se (pv_sn (by decide) (pv_se (pv_sn (by decide) (pv_se (pv_sn (by decide) e1))))))) rfl 38 rfl ?_
  refine pv_iconst (M := mX10_put) (v := 1) dX10_put_38 39 rfl (by decide) ?_
  refine pv_iadd (M := mX10_put) (v := 12) dX10_put_39 40 rfl (by decide) ?_
  refine pv_put (M := mX10_put) (fs2 := [.ref 2, .int 12]) dX10_put_40 FX10 1 wd163 (by decide) rfl (pv_sn (by decide) (pv_se (pv_sn (by decide) (pv_se (pv_sn (by decide) (pv_se (pv_sn (by decide) e1))))))) (Nat.le_of_ble_eq_true rfl) (fun _ => rfl) (fun _ => rfl) rfl rfl 43 rfl ?_
  refine pv_iinc (M := mX10_put) (v := (-8)) (lo2 := [.ref 1, .int a1, .int (-8)]) dX10_put_43 46 rfl rfl (by decide) (by decide) rfl rfl ?_
  refine pv_goto (M := mX10_put) (tgt := 3) dX10_put_46 (by decide) ?_
  refine pv_iload_n (M := mX10_put) 2 dX10_put_3 4 rfl rfl rfl ?_
  refine pv_if_lt (M := mX10_put) (tgt := 49) dX10_put_4 7 rfl (by decide) (fun _ => ?_) (fun q => absurd (by decide) q)
  exact pv_vret (M := mX10_put) dX10_put_49 rfl ⟨rfl, rfl⟩

set_option maxHeartbeats 400000 in
set_option maxRecDepth 20000 in
theorem k_X10_put_4 (g : pv_G) {h : List pv_C} (a1 : Int32) (F2 : Nat → Int32) (e1 : h[1]? = some (pv_o 10 [.ref 2, .int 12])) (e2 : h[2]? = some (pv_i 200 F2)) : PM g mX10_put yX10_put (pv_is none (((((((((h.set 2 (pv_i 200 (upd F2 12 (((a1.toUInt32 >>> ((24 : Int32).toUInt32 &&& Int32.toUInt32 31)).toInt32) &&& 255)))).set 1 (pv_o 10 [.ref 2, .int 13])).set 2 (pv_i 200 (upd (upd F2 12 (((a1.toUInt32 >>> ((24 : Int32).toUInt32 &&& Int32.toUInt32 31)).toInt32) &&& 255)) 13 (((a1.toUInt32 >>> ((16 : Int32).toUInt32 &&& Int32.toUInt32 31)).toInt32) &&& 255)))).set 1 (pv_o 10 [.ref 2, .int 14])).set 2 (pv_i 200 (upd (upd (upd F2 12 (((a1.toUInt32 >>> ((24 : Int32).toUInt32 &&& Int32.toUInt32 31)).toInt32) &&& 255)) 13 (((a1.toUInt32 >>> ((16 : Int32).toUInt32 &&& Int32.toUInt32 31)).toInt32) &&& 255)) 14 (((a1.toUInt32 >>> ((8 : Int32).toUInt32 &&& Int32.toUInt32 31)).toInt32) &&& 255)))).set 1 (pv_o 10 [.ref 2, .int 15])).set 2 (pv_i 200 (upd (upd (upd (upd F2 12 (((a1.toUInt32 >>> ((24 : Int32).toUInt32 &&& Int32.toUInt32 31)).toInt32) &&& 255)) 13 (((a1.toUInt32 >>> ((16 : Int32).toUInt32 &&& Int32.toUInt32 31)).toInt32) &&& 255)) 14 (((a1.toUInt32 >>> ((8 : Int32).toUInt32 &&& Int32.toUInt32 31)).toInt32) &&& 255)) 15 (((a1.toUInt32 >>> ((0 : Int32).toUInt32 &&& Int32.toUInt32 31)).toInt32) &&& 255)))).set 1 (pv_o 10 [.ref 2, .int 16])))) 1 0 0 [.ref 1, .int a1] h := by
  refine PM.of 1 (lo := [.ref 1, .int a1, pv_U]) rfl (by decide) rfl rfl (Nat.le_of_ble_eq_true rfl) ?_
  refine pv_bipush (M := mX10_put) (v := 24) dX10_put_0 2 rfl (by decide) ?_
  refine pv_istore_n (M := mX10_put) 2 (lo2 := [.ref 1, .int a1, .int 24]) dX10_put_2 3 rfl rfl (by decide) rfl rfl ?_
  refine pv_iload_n (M := mX10_put) 2 dX10_put_3 4 rfl rfl rfl ?_
  refine pv_if_lt (M := mX10_put) (tgt := 49) dX10_put_4 7 rfl (by decide) (fun q => absurd q (by decide)) (fun _ => ?_)
  refine pv_aload_n (M := mX10_put) 0 dX10_put_7 8 rfl rfl rfl ?_
  refine pv_get (M := mX10_put) dX10_put_8 FX10 1 wd163 (by decide) e1 rfl 11 rfl ?_
  refine pv_sipush (M := mX10_put) (v := 200) dX10_put_11 14 rfl (by decide) ?_
  refine pv_icmp_ge (M := mX10_put) (tgt := 49) dX10_put_14 17 rfl (by decide) (fun q => absurd q (by decide)) (fun _ => ?_)
  refine pv_aload_n (M := mX10_put) 0 dX10_put_17 18 rfl rfl rfl ?_
  refine pv_get (M := mX10_put) dX10_put_18 FX10 0 wd161 (by decide) e1 rfl 21 rfl ?_
  refine pv_aload_n (M := mX10_put) 0 dX10_put_21 22 rfl rfl rfl ?_
  refine pv_get (M := mX10_put) dX10_put_22 FX10 1 wd163 (by decide) e1 rfl 25 rfl ?_
  refine pv_iload_n (M := mX10_put) 1 dX10_put_25 26 rfl rfl rfl ?_
  refine pv_iload_n (M := mX10_put) 2 dX10_put_26 27 rfl rfl rfl ?_
  refine pv_iushr (M := mX10_put) dX10_put_27 28 rfl rfl ?_
  refine pv_sipush (M := mX10_put) (v := 255) dX10_put_28 31 rfl (by decide) ?_
  refine pv_iand (M := mX10_put) (v := ((a1.toUInt32 >>> ((24 : Int32).toUInt32 &&& Int32.toUInt32 31)).toInt32) &&& 255) dX10_put_31 32 rfl rfl ?_
  refine pv_iast (M := mX10_put) dX10_put_32 e2 (pv_in0 (by decide)) (j := 12) (by decide) rfl 33 rfl ?_
  refine pv_aload_n (M := mX10_put) 0 dX10_put_33 34 rfl rfl rfl ?_
  refine pv_dup (M := mX10_put) dX10_put_34 35 rfl rfl ?_
  refine pv_get (M := mX10_put) dX10_put_35 FX10 1 wd163 (by decide) (pv_sn (by decide) e1) rfl 38 rfl ?_
  refine pv_iconst (M := mX10_put) (v := 1) dX10_put_38 39 rfl (by decide) ?_
  refine pv_iadd (M := mX10_put) (v := 13) dX10_put_39 40 rfl (by decide) ?_
  refine pv_put (M := mX10_put) (fs2 := [.ref 2, .int 13]) dX10_put_40 FX10 1 wd163 (by decide) rfl (pv_sn (by decide) e1) (Nat.le_of_ble_eq_true rfl) (fun _ => rfl) (fun _ => rfl) rfl rfl 43 rfl ?_
  refine pv_iinc (M := mX10_put) (v := 16) (lo2 := [.ref 1, .int a1, .int 16]) dX10_put_43 46 rfl rfl (by decide) (by decide) rfl rfl ?_
  refine pv_goto (M := mX10_put) (tgt := 3) dX10_put_46 (by decide) ?_
  refine pv_iload_n (M := mX10_put) 2 dX10_put_3 4 rfl rfl rfl ?_
  refine pv_if_lt (M := mX10_put) (tgt := 49) dX10_put_4 7 rfl (by decide) (fun q => absurd q (by decide)) (fun _ => ?_)
  refine pv_aload_n (M := mX10_put) 0 dX10_put_7 8 rfl rfl rfl ?_
  refine pv_get (M := mX10_put) dX10_put_8 FX10 1 wd163 (by decide) (pv_se (pv_sn (by decide) e1)) rfl 11 rfl ?_
  refine pv_sipush (M := mX10_put) (v := 200) dX10_put_11 14 rfl (by decide) ?_
  refine pv_icmp_ge (M := mX10_put) (tgt := 49) dX10_put_14 17 rfl (by decide) (fun q => absurd q (by decide)) (fun _ => ?_)
  refine pv_aload_n (M := mX10_put) 0 dX10_put_17 18 rfl rfl rfl ?_
  refine pv_get (M := mX10_put) dX10_put_18 FX10 0 wd161 (by decide) (pv_se (pv_sn (by decide) e1)) rfl 21 rfl ?_
  refine pv_aload_n (M := mX10_put) 0 dX10_put_21 22 rfl rfl rfl ?_
  refine pv_get (M := mX10_put) dX10_put_22 FX10 1 wd163 (by decide) (pv_se (pv_sn (by decide) e1)) rfl 25 rfl ?_
  refine pv_iload_n (M := mX10_put) 1 dX10_put_25 26 rfl rfl rfl ?_
  refine pv_iload_n (M := mX10_put) 2 dX10_put_26 27 rfl rfl rfl ?_
  refine pv_iushr (M := mX10_put) dX10_put_27 28 rfl rfl ?_
  refine pv_sipush (M := mX10_put) (v := 255) dX10_put_28 31 rfl (by decide) ?_
  refine pv_iand (M := mX10_put) (v := ((a1.toUInt32 >>> ((16 : Int32).toUInt32 &&& Int32.toUInt32 31)).toInt32) &&& 255) dX10_put_31 32 rfl rfl ?_
  refine pv_iast (M := mX10_put) dX10_put_32 (pv_sn (by decide) (pv_se e2)) (pv_in0 (by decide)) (j := 13) (by decide) rfl 33 rfl ?_
  refine pv_aload_n (M := mX10_put) 0 dX10_put_33 34 rfl rfl rfl ?_
  refine pv_dup (M := mX10_put) dX10_put_34 35 rfl rfl ?_
  refine pv_get (M := mX10_put) dX10_put_35 FX10 1 wd163 (by decide) (pv_sn (by decide) (pv_se (pv_sn (by decide) e1))) rfl 38 rfl ?_
  refine pv_iconst (M := mX10_put) (v := 1) dX10_put_38 39 rfl (by decide) ?_
  refine pv_iadd (M := mX10_put) (v := 14) dX10_put_39 40 rfl (by decide) ?_
  refine pv_put (M := mX10_put) (fs2 := [.ref 2, .int 14]) dX10_put_40 FX10 1 wd163 (by decide) rfl (pv_sn (by decide) (pv_se (pv_sn (by decide) e1))) (Nat.le_of_ble_eq_true rfl) (fun _ => rfl) (fun _ => rfl) rfl rfl 43 rfl ?_
  refine pv_iinc (M := mX10_put) (v := 8) (lo2 := [.ref 1, .int a1, .int 8]) dX10_put_43 46 rfl rfl (by decide) (by decide) rfl rfl ?_
  refine pv_goto (M := mX10_put) (tgt := 3) dX10_put_46 (by decide) ?_
  refine pv_iload_n (M := mX10_put) 2 dX10_put_3 4 rfl rfl rfl ?_
  refine pv_if_lt (M := mX10_put) (tgt := 49) dX10_put_4 7 rfl (by decide) (fun q => absurd q (by decide)) (fun _ => ?_)
  refine pv_aload_n (M := mX10_put) 0 dX10_put_7 8 rfl rfl rfl ?_
  refine pv_get (M := mX10_put) dX10_put_8 FX10 1 wd163 (by decide) (pv_se (pv_sn (by decide) (pv_se (pv_sn (by decide) e1)))) rfl 11 rfl ?_
  refine pv_sipush (M := mX10_put) (v := 200) dX10_put_11 14 rfl (by decide) ?_
  refine pv_icmp_ge (M := mX10_put) (tgt := 49) dX10_put_14 17 rfl (by decide) (fun q => absurd q (by decide)) (fun _ => ?_)
  refine pv_aload_n (M := mX10_put) 0 dX10_put_17 18 rfl rfl rfl ?_
  refine pv_get (M := mX10_put) dX10_put_18 FX10 0 wd161 (by decide) (pv_se (pv_sn (by decide) (pv_se (pv_sn (by decide) e1)))) rfl 21 rfl ?_
  refine pv_aload_n (M := mX10_put) 0 dX10_put_21 22 rfl rfl rfl ?_
  refine pv_get (M := mX10_put) dX10_put_22 FX10 1 wd163 (by decide) (pv_se (pv_sn (by decide) (pv_se (pv_sn (by decide) e1)))) rfl 25 rfl ?_
  refine pv_iload_n (M := mX10_put) 1 dX10_put_25 26 rfl rfl rfl ?_
  refine pv_iload_n (M := mX10_put) 2 dX10_put_26 27 rfl rfl rfl ?_
  refine pv_iushr (M := mX10_put) dX10_put_27 28 rfl rfl ?_
  refine pv_sipush (M := mX10_put) (v := 255) dX10_put_28 31 rfl (by decide) ?_
  refine pv_iand (M := mX10_put) (v := ((a1.toUInt32 >>> ((8 : Int32).toUInt32 &&& Int32.toUInt32 31)).toInt32) &&& 255) dX10_put_31 32 rfl rfl ?_
  refine pv_iast (M := mX10_put) dX10_put_32 (pv_sn (by decide) (pv_se (pv_sn (by decide) (pv_se e2)))) (pv_in0 (by decide)) (j := 14) (by decide) rfl 33 rfl ?_
  refine pv_aload_n (M := mX10_put) 0 dX10_put_33 34 rfl rfl rfl ?_
  refine pv_dup (M := mX10_put) dX10_put_34 35 rfl rfl ?_
  refine pv_get (M := mX10_put) dX10_put_35 FX10 1 wd163 (by decide) (pv_sn (by decide) (pv_se (pv_sn (by decide) (pv_se (pv_sn (by decide) e1))))) rfl 38 rfl ?_
  refine pv_iconst (M := mX10_put) (v := 1) dX10_put_38 39 rfl (by decide) ?_
  refine pv_iadd (M := mX10_put) (v := 15) dX10_put_39 40 rfl (by decide) ?_
  refine pv_put (M := mX10_put) (fs2 := [.ref 2, .int 15]) dX10_put_40 FX10 1 wd163 (by decide) rfl (pv_sn (by decide) (pv_se (pv_sn (by decide) (pv_se (pv_sn (by decide) e1))))) (Nat.le_of_ble_eq_true rfl) (fun _ => rfl) (fun _ => rfl) rfl rfl 43 rfl ?_
  refine pv_iinc (M := mX10_put) (v := 0) (lo2 := [.ref 1, .int a1, .int 0]) dX10_put_43 46 rfl rfl (by decide) (by decide) rfl rfl ?_
  refine pv_goto (M := mX10_put) (tgt := 3) dX10_put_46 (by decide) ?_
  refine pv_iload_n (M := mX10_put) 2 dX10_put_3 4 rfl rfl rfl ?_
  refine pv_if_lt (M := mX10_put) (tgt := 49) dX10_put_4 7 rfl (by decide) (fun q => absurd q (by decide)) (fun _ => ?_)
  refine pv_aload_n (M := mX10_put) 0 dX10_put_7 8 rfl rfl rfl ?_
  refine pv_get (M := mX10_put) dX10_put_8 FX10 1 wd163 (by decide) (pv_se (pv_sn (by decide) (pv_se (pv_sn (by decide) (pv_se (pv_sn (by decide) e1)))))) rfl 11 rfl ?_
  refine pv_sipush (M := mX10_put) (v := 200) dX10_put_11 14 rfl (by decide) ?_
  refine pv_icmp_ge (M := mX10_put) (tgt := 49) dX10_put_14 17 rfl (by decide) (fun q => absurd q (by decide)) (fun _ => ?_)
  refine pv_aload_n (M := mX10_put) 0 dX10_put_17 18 rfl rfl rfl ?_
  refine pv_get (M := mX10_put) dX10_put_18 FX10 0 wd161 (by decide) (pv_se (pv_sn (by decide) (pv_se (pv_sn (by decide) (pv_se (pv_sn (by decide) e1)))))) rfl 21 rfl ?_
  refine pv_aload_n (M := mX10_put) 0 dX10_put_21 22 rfl rfl rfl ?_
  refine pv_get (M := mX10_put) dX10_put_22 FX10 1 wd163 (by decide) (pv_se (pv_sn (by decide) (pv_se (pv_sn (by decide) (pv_se (pv_sn (by decide) e1)))))) rfl 25 rfl ?_
  refine pv_iload_n (M := mX10_put) 1 dX10_put_25 26 rfl rfl rfl ?_
  refine pv_iload_n (M := mX10_put) 2 dX10_put_26 27 rfl rfl rfl ?_
  refine pv_iushr (M := mX10_put) dX10_put_27 28 rfl rfl ?_
  refine pv_sipush (M := mX10_put) (v := 255) dX10_put_28 31 rfl (by decide) ?_
  refine pv_iand (M := mX10_put) (v := ((a1.toUInt32 >>> ((0 : Int32).toUInt32 &&& Int32.toUInt32 31)).toInt32) &&& 255) dX10_put_31 32 rfl rfl ?_
  refine pv_iast (M := mX10_put) dX10_put_32 (pv_sn (by decide) (pv_se (pv_sn (by decide) (pv_se (pv_sn (by decide) (pv_se e2)))))) (pv_in0 (by decide)) (j := 15) (by decide) rfl 33 rfl ?_
  refine pv_aload_n (M := mX10_put) 0 dX10_put_33 34 rfl rfl rfl ?_
  refine pv_dup (M := mX10_put) dX10_put_34 35 rfl rfl ?_
  refine pv_get (M := mX10_put) dX10_put_35 FX10 1 wd163 (by decide) (pv_sn (by decide) (pv_se (pv_sn (by decide) (pv_se (pv_sn (by decide) (pv_se (pv_sn (by decide) e1))))))) rfl 38 rfl ?_
  refine pv_iconst (M := mX10_put) (v := 1) dX10_put_38 39 rfl (by decide) ?_
  refine pv_iadd (M := mX10_put) (v := 16) dX10_put_39 40 rfl (by decide) ?_
  refine pv_put (M := mX10_put) (fs2 := [.ref 2, .int 16]) dX10_put_40 FX10 1 wd163 (by decide) rfl (pv_sn (by decide) (pv_se (pv_sn (by decide) (pv_se (pv_sn (by decide) (pv_se (pv_sn (by decide) e1))))))) (Nat.le_of_ble_eq_true rfl) (fun _ => rfl) (fun _ => rfl) rfl rfl 43 rfl ?_
  refine pv_iinc (M := mX10_put) (v := (-8)) (lo2 := [.ref 1, .int a1, .int (-8)]) dX10_put_43 46 rfl rfl (by decide) (by decide) rfl rfl ?_
  refine pv_goto (M := mX10_put) (tgt := 3) dX10_put_46 (by decide) ?_
  refine pv_iload_n (M := mX10_put) 2 dX10_put_3 4 rfl rfl rfl ?_
  refine pv_if_lt (M := mX10_put) (tgt := 49) dX10_put_4 7 rfl (by decide) (fun _ => ?_) (fun q => absurd (by decide) q)
  exact pv_vret (M := mX10_put) dX10_put_49 rfl ⟨rfl, rfl⟩

set_option maxHeartbeats 400000 in
set_option maxRecDepth 20000 in
theorem k_X10_put_5 (g : pv_G) {h : List pv_C} (a1 : Int32) (F2 : Nat → Int32) (e1 : h[1]? = some (pv_o 10 [.ref 2, .int 16])) (e2 : h[2]? = some (pv_i 200 F2)) : PM g mX10_put yX10_put (pv_is none (((((((((h.set 2 (pv_i 200 (upd F2 16 (((a1.toUInt32 >>> ((24 : Int32).toUInt32 &&& Int32.toUInt32 31)).toInt32) &&& 255)))).set 1 (pv_o 10 [.ref 2, .int 17])).set 2 (pv_i 200 (upd (upd F2 16 (((a1.toUInt32 >>> ((24 : Int32).toUInt32 &&& Int32.toUInt32 31)).toInt32) &&& 255)) 17 (((a1.toUInt32 >>> ((16 : Int32).toUInt32 &&& Int32.toUInt32 31)).toInt32) &&& 255)))).set 1 (pv_o 10 [.ref 2, .int 18])).set 2 (pv_i 200 (upd (upd (upd F2 16 (((a1.toUInt32 >>> ((24 : Int32).toUInt32 &&& Int32.toUInt32 31)).toInt32) &&& 255)) 17 (((a1.toUInt32 >>> ((16 : Int32).toUInt32 &&& Int32.toUInt32 31)).toInt32) &&& 255)) 18 (((a1.toUInt32 >>> ((8 : Int32).toUInt32 &&& Int32.toUInt32 31)).toInt32) &&& 255)))).set 1 (pv_o 10 [.ref 2, .int 19])).set 2 (pv_i 200 (upd (upd (upd (upd F2 16 (((a1.toUInt32 >>> ((24 : Int32).toUInt32 &&& Int32.toUInt32 31)).toInt32) &&& 255)) 17 (((a1.toUInt32 >>> ((16 : Int32).toUInt32 &&& Int32.toUInt32 31)).toInt32) &&& 255)) 18 (((a1.toUInt32 >>> ((8 : Int32).toUInt32 &&& Int32.toUInt32 31)).toInt32) &&& 255)) 19 (((a1.toUInt32 >>> ((0 : Int32).toUInt32 &&& Int32.toUInt32 31)).toInt32) &&& 255)))).set 1 (pv_o 10 [.ref 2, .int 20])))) 1 0 0 [.ref 1, .int a1] h := by
  refine PM.of 1 (lo := [.ref 1, .int a1, pv_U]) rfl (by decide) rfl rfl (Nat.le_of_ble_eq_true rfl) ?_
  refine pv_bipush (M := mX10_put) (v := 24) dX10_put_0 2 rfl (by decide) ?_
  refine pv_istore_n (M := mX10_put) 2 (lo2 := [.ref 1, .int a1, .int 24]) dX10_put_2 3 rfl rfl (by decide) rfl rfl ?_
  refine pv_iload_n (M := mX10_put) 2 dX10_put_3 4 rfl rfl rfl ?_
  refine pv_if_lt (M := mX10_put) (tgt := 49) dX10_put_4 7 rfl (by decide) (fun q => absurd q (by decide)) (fun _ => ?_)
  refine pv_aload_n (M := mX10_put) 0 dX10_put_7 8 rfl rfl rfl ?_
  refine pv_get (M := mX10_put) dX10_put_8 FX10 1 wd163 (by decide) e1 rfl 11 rfl ?_
  refine pv_sipush (M := mX10_put) (v := 200) dX10_put_11 14 rfl (by decide) ?_
  refine pv_icmp_ge (M := mX10_put) (tgt := 49) dX10_put_14 17 rfl (by decide) (fun q => absurd q (by decide)) (fun _ => ?_)
  refine pv_aload_n (M := mX10_put) 0 dX10_put_17 18 rfl rfl rfl ?_
  refine pv_get (M := mX10_put) dX10_put_18 FX10 0 wd161 (by decide) e1 rfl 21 rfl ?_
  refine pv_aload_n (M := mX10_put) 0 dX10_put_21 22 rfl rfl rfl ?_
  refine pv_get (M := mX10_put) dX10_put_22 FX10 1 wd163 (by decide) e1 rfl 25 rfl ?_
  refine pv_iload_n (M := mX10_put) 1 dX10_put_25 26 rfl rfl rfl ?_
  refine pv_iload_n (M := mX10_put) 2 dX10_put_26 27 rfl rfl rfl ?_
  refine pv_iushr (M := mX10_put) dX10_put_27 28 rfl rfl ?_
  refine pv_sipush (M := mX10_put) (v := 255) dX10_put_28 31 rfl (by decide) ?_
  refine pv_iand (M := mX10_put) (v := ((a1.toUInt32 >>> ((24 : Int32).toUInt32 &&& Int32.toUInt32 31)).toInt32) &&& 255) dX10_put_31 32 rfl rfl ?_
  refine pv_iast (M := mX10_put) dX10_put_32 e2 (pv_in0 (by decide)) (j := 16) (by decide) rfl 33 rfl ?_
  refine pv_aload_n (M := mX10_put) 0 dX10_put_33 34 rfl rfl rfl ?_
  refine pv_dup (M := mX10_put) dX10_put_34 35 rfl rfl ?_
  refine pv_get (M := mX10_put) dX10_put_35 FX10 1 wd163 (by decide) (pv_sn (by decide) e1) rfl 38 rfl ?_
  refine pv_iconst (M := mX10_put) (v := 1) dX10_put_38 39 rfl (by decide) ?_
  refine pv_iadd (M := mX10_put) (v := 17) dX10_put_39 40 rfl (by decide) ?_
  refine pv_put (M := mX10_put) (fs2 := [.ref 2, .int 17]) dX10_put_40 FX10 1 wd163 (by decide) rfl (pv_sn (by decide) e1) (Nat.le_of_ble_eq_true rfl) (fun _ => rfl) (fun _ => rfl) rfl rfl 43 rfl ?_
  refine pv_iinc (M := mX10_put) (v := 16) (lo2 := [.ref 1, .int a1, .int 16]) dX10_put_43 46 rfl rfl (by decide) (by decide) rfl rfl ?_
  refine pv_goto (M := mX10_put) (tgt := 3) dX10_put_46 (by decide) ?_
  refine pv_iload_n (M := mX10_put) 2 dX10_put_3 4 rfl rfl rfl ?_
  refine pv_if_lt (M := mX10_put) (tgt := 49) dX10_put_4 7 rfl (by decide) (fun q => absurd q (by decide)) (fun _ => ?_)
  refine pv_aload_n (M := mX10_put) 0 dX10_put_7 8 rfl rfl rfl ?_
  refine pv_get (M := mX10_put) dX10_put_8 FX10 1 wd163 (by decide) (pv_se (pv_sn (by decide) e1)) rfl 11 rfl ?_
  refine pv_sipush (M := mX10_put) (v := 200) dX10_put_11 14 rfl (by decide) ?_
  refine pv_icmp_ge (M := mX10_put) (tgt := 49) dX10_put_14 17 rfl (by decide) (fun q => absurd q (by decide)) (fun _ => ?_)
  refine pv_aload_n (M := mX10_put) 0 dX10_put_17 18 rfl rfl rfl ?_
  refine pv_get (M := mX10_put) dX10_put_18 FX10 0 wd161 (by decide) (pv_se (pv_sn (by decide) e1)) rfl 21 rfl ?_
  refine pv_aload_n (M := mX10_put) 0 dX10_put_21 22 rfl rfl rfl ?_
  refine pv_get (M := mX10_put) dX10_put_22 FX10 1 wd163 (by decide) (pv_se (pv_sn (by decide) e1)) rfl 25 rfl ?_
  refine pv_iload_n (M := mX10_put) 1 dX10_put_25 26 rfl rfl rfl ?_
  refine pv_iload_n (M := mX10_put) 2 dX10_put_26 27 rfl rfl rfl ?_
  refine pv_iushr (M := mX10_put) dX10_put_27 28 rfl rfl ?_
  refine pv_sipush (M := mX10_put) (v := 255) dX10_put_28 31 rfl (by decide) ?_
  refine pv_iand (M := mX10_put) (v := ((a1.toUInt32 >>> ((16 : Int32).toUInt32 &&& Int32.toUInt32 31)).toInt32) &&& 255) dX10_put_31 32 rfl rfl ?_
  refine pv_iast (M := mX10_put) dX10_put_32 (pv_sn (by decide) (pv_se e2)) (pv_in0 (by decide)) (j := 17) (by decide) rfl 33 rfl ?_
  refine pv_aload_n (M := mX10_put) 0 dX10_put_33 34 rfl rfl rfl ?_
  refine pv_dup (M := mX10_put) dX10_put_34 35 rfl rfl ?_
  refine pv_get (M := mX10_put) dX10_put_35 FX10 1 wd163 (by decide) (pv_sn (by decide) (pv_se (pv_sn (by decide) e1))) rfl 38 rfl ?_
  refine pv_iconst (M := mX10_put) (v := 1) dX10_put_38 39 rfl (by decide) ?_
  refine pv_iadd (M := mX10_put) (v := 18) dX10_put_39 40 rfl (by decide) ?_
  refine pv_put (M := mX10_put) (fs2 := [.ref 2, .int 18]) dX10_put_40 FX10 1 wd163 (by decide) rfl (pv_sn (by decide) (pv_se (pv_sn (by decide) e1))) (Nat.le_of_ble_eq_true rfl) (fun _ => rfl) (fun _ => rfl) rfl rfl 43 rfl ?_
  refine pv_iinc (M := mX10_put) (v := 8) (lo2 := [.ref 1, .int a1, .int 8]) dX10_put_43 46 rfl rfl (by decide) (by decide) rfl rfl ?_
  refine pv_goto (M := mX10_put) (tgt := 3) dX10_put_46 (by decide) ?_
  refine pv_iload_n (M := mX10_put) 2 dX10_put_3 4 rfl rfl rfl ?_
  refine pv_if_lt (M := mX10_put) (tgt := 49) dX10_put_4 7 rfl (by decide) (fun q => absurd q (by decide)) (fun _ => ?_)
  refine pv_aload_n (M := mX10_put) 0 dX10_put_7 8 rfl rfl rfl ?_
  refine pv_get (M := mX10_put) dX10_put_8 FX10 1 wd163 (by decide) (pv_se (pv_sn (by decide) (pv_se (pv_sn (by decide) e1)))) rfl 11 rfl ?_
  refine pv_sipush (M := mX10_put) (v := 200) dX10_put_11 14 rfl (by decide) ?_
  refine pv_icmp_ge (M := mX10_put) (tgt := 49) dX10_put_14 17 rfl (by decide) (fun q => absurd q (by decide)) (fun _ => ?_)
  refine pv_aload_n (M := mX10_put) 0 dX10_put_17 18 rfl rfl rfl ?_
  refine pv_get (M := mX10_put) dX10_put_18 FX10 0 wd161 (by decide) (pv_se (pv_sn (by decide) (pv_se (pv_sn (by decide) e1)))) rfl 21 rfl ?_
  refine pv_aload_n (M := mX10_put) 0 dX10_put_21 22 rfl rfl rfl ?_
  refine pv_get (M := mX10_put) dX10_put_22 FX10 1 wd163 (by decide) (pv_se (pv_sn (by decide) (pv_se (pv_sn (by decide) e1)))) rfl 25 rfl ?_
  refine pv_iload_n (M := mX10_put) 1 dX10_put_25 26 rfl rfl rfl ?_
  refine pv_iload_n (M := mX10_put) 2 dX10_put_26 27 rfl rfl rfl ?_
  refine pv_iushr (M := mX10_put) dX10_put_27 28 rfl rfl ?_
  refine pv_sipush (M := mX10_put) (v := 255) dX10_put_28 31 rfl (by decide) ?_
  refine pv_iand (M := mX10_put) (v := ((a1.toUInt32 >>> ((8 : Int32).toUInt32 &&& Int32.toUInt32 31)).toInt32) &&& 255) dX10_put_31 32 rfl rfl ?_
  refine pv_iast (M := mX10_put) dX10_put_32 (pv_sn (by decide) (pv_se (pv_sn (by decide) (pv_se e2)))) (pv_in0 (by decide)) (j := 18) (by decide) rfl 33 rfl ?_
  refine pv_aload_n (M := mX10_put) 0 dX10_put_33 34 rfl rfl rfl ?_
  refine pv_dup (M := mX10_put) dX10_put_34 35 rfl rfl ?_
  refine pv_get (M := mX10_put) dX10_put_35 FX10 1 wd163 (by decide) (pv_sn (by decide) (pv_se (pv_sn (by decide) (pv_se (pv_sn (by decide) e1))))) rfl 38 rfl ?_
  refine pv_iconst (M := mX10_put) (v := 1) dX10_put_38 39 rfl (by decide) ?_
  refine pv_iadd (M := mX10_put) (v := 19) dX10_put_39 40 rfl (by decide) ?_
  refine pv_put (M := mX10_put) (fs2 := [.ref 2, .int 19]) dX10_put_40 FX10 1 wd163 (by decide) rfl (pv_sn (by decide) (pv_se (pv_sn (by decide) (pv_se (pv_sn (by decide) e1))))) (Nat.le_of_ble_eq_true rfl) (fun _ => rfl) (fun _ => rfl) rfl rfl 43 rfl ?_
  refine pv_iinc (M := mX10_put) (v := 0) (lo2 := [.ref 1, .int a1, .int 0]) dX10_put_43 46 rfl rfl (by decide) (by decide) rfl rfl ?_
  refine pv_goto (M := mX10_put) (tgt := 3) dX10_put_46 (by decide) ?_
  refine pv_iload_n (M := mX10_put) 2 dX10_put_3 4 rfl rfl rfl ?_
  refine pv_if_lt (M := mX10_put) (tgt := 49) dX10_put_4 7 rfl (by decide) (fun q => absurd q (by decide)) (fun _ => ?_)
  refine pv_aload_n (M := mX10_put) 0 dX10_put_7 8 rfl rfl rfl ?_
  refine pv_get (M := mX10_put) dX10_put_8 FX10 1 wd163 (by decide) (pv_se (pv_sn (by decide) (pv_se (pv_sn (by decide) (pv_se (pv_sn (by decide) e1)))))) rfl 11 rfl ?_
  refine pv_sipush (M := mX10_put) (v := 200) dX10_put_11 14 rfl (by decide) ?_
  refine pv_icmp_ge (M := mX10_put) (tgt := 49) dX10_put_14 17 rfl (by decide) (fun q => absurd q (by decide)) (fun _ => ?_)
  refine pv_aload_n (M := mX10_put) 0 dX10_put_17 18 rfl rfl rfl ?_
  refine pv_get (M := mX10_put) dX10_put_18 FX10 0 wd161 (by decide) (pv_se (pv_sn (by decide) (pv_se (pv_sn (by decide) (pv_se (pv_sn (by decide) e1)))))) rfl 21 rfl ?_
  refine pv_aload_n (M := mX10_put) 0 dX10_put_21 22 rfl rfl rfl ?_
  refine pv_get (M := mX10_put) dX10_put_22 FX10 1 wd163 (by decide) (pv_se (pv_sn (by decide) (pv_se (pv_sn (by decide) (pv_se (pv_sn (by decide) e1)))))) rfl 25 rfl ?_
  refine pv_iload_n (M := mX10_put) 1 dX10_put_25 26 rfl rfl rfl ?_
  refine pv_iload_n (M := mX10_put) 2 dX10_put_26 27 rfl rfl rfl ?_
  refine pv_iushr (M := mX10_put) dX10_put_27 28 rfl rfl ?_
  refine pv_sipush (M := mX10_put) (v := 255) dX10_put_28 31 rfl (by decide) ?_
  refine pv_iand (M := mX10_put) (v := ((a1.toUInt32 >>> ((0 : Int32).toUInt32 &&& Int32.toUInt32 31)).toInt32) &&& 255) dX10_put_31 32 rfl rfl ?_
  refine pv_iast (M := mX10_put) dX10_put_32 (pv_sn (by decide) (pv_se (pv_sn (by decide) (pv_se (pv_sn (by decide) (pv_se e2)))))) (pv_in0 (by decide)) (j := 19) (by decide) rfl 33 rfl ?_
  refine pv_aload_n (M := mX10_put) 0 dX10_put_33 34 rfl rfl rfl ?_
  refine pv_dup (M := mX10_put) dX10_put_34 35 rfl rfl ?_
  refine pv_get (M := mX10_put) dX10_put_35 FX10 1 wd163 (by decide) (pv_sn (by decide) (pv_se (pv_sn (by decide) (pv_se (pv_sn (by decide) (pv_se (pv_sn (by decide) e1))))))) rfl 38 rfl ?_
  refine pv_iconst (M := mX10_put) (v := 1) dX10_put_38 39 rfl (by decide) ?_
  refine pv_iadd (M := mX10_put) (v := 20) dX10_put_39 40 rfl (by decide) ?_
  refine pv_put (M := mX10_put) (fs2 := [.ref 2, .int 20]) dX10_put_40 FX10 1 wd163 (by decide) rfl (pv_sn (by decide) (pv_se (pv_sn (by decide) (pv_se (pv_sn (by decide) (pv_se (pv_sn (by decide) e1))))))) (Nat.le_of_ble_eq_true rfl) (fun _ => rfl) (fun _ => rfl) rfl rfl 43 rfl ?_
  refine pv_iinc (M := mX10_put) (v := (-8)) (lo2 := [.ref 1, .int a1, .int (-8)]) dX10_put_43 46 rfl rfl (by decide) (by decide) rfl rfl ?_
  refine pv_goto (M := mX10_put) (tgt := 3) dX10_put_46 (by decide) ?_
  refine pv_iload_n (M := mX10_put) 2 dX10_put_3 4 rfl rfl rfl ?_
  refine pv_if_lt (M := mX10_put) (tgt := 49) dX10_put_4 7 rfl (by decide) (fun _ => ?_) (fun q => absurd (by decide) q)
  exact pv_vret (M := mX10_put) dX10_put_49 rfl ⟨rfl, rfl⟩

set_option maxHeartbeats 400000 in
set_option maxRecDepth 20000 in
theorem k_X11_feed (g : pv_G) {h : List pv_C} (a1 : Int32) (a2 : Int32) (a3 : Int32) (a4 : Int32) (a5 : Int32) (e0 : h[0]? = some (pv_o 11 [.ref 1, .ref 3, .int 0, .ref 60, .ref 77, .ref 86, .ref 97, .int 0, .int 1, .ref 104, .ref 107, .ref 112, .null, .ref 116, .ref 120, .ref 121, .ref 122])) (e1 : h[1]? = some (pv_o 10 [.ref 2, .int 0])) (e2 : h[2]? = some (pv_i 200 (fun _ => 0))) : PM g mX11_feed yX11_feed (pv_is (some (.int 20)) (((((((((((((((((((((((((((((((((((((((((h.set 2 (pv_i 200 (upd (fun _ => 0) 0 (((a1.toUInt32 >>> ((24 : Int32).toUInt32 &&& Int32.toUInt32 31)).toInt32) &&& 255)))).set 1 (pv_o 10 [.ref 2, .int 1])).set 2 (pv_i 200 (upd (upd (fun _ => 0) 0 (((a1.toUInt32 >>> ((24 : Int32).toUInt32 &&& Int32.toUInt32 31)).toInt32) &&& 255)) 1 (((a1.toUInt32 >>> ((16 : Int32).toUInt32 &&& Int32.toUInt32 31)).toInt32) &&& 255)))).set 1 (pv_o 10 [.ref 2, .int 2])).set 2 (pv_i 200 (upd (upd (upd (fun _ => 0) 0 (((a1.toUInt32 >>> ((24 : Int32).toUInt32 &&& Int32.toUInt32 31)).toInt32) &&& 255)) 1 (((a1.toUInt32 >>> ((16 : Int32).toUInt32 &&& Int32.toUInt32 31)).toInt32) &&& 255)) 2 (((a1.toUInt32 >>> ((8 : Int32).toUInt32 &&& Int32.toUInt32 31)).toInt32) &&& 255)))).set 1 (pv_o 10 [.ref 2, .int 3])).set 2 (pv_i 200 (upd (upd (upd (upd (fun _ => 0) 0 (((a1.toUInt32 >>> ((24 : Int32).toUInt32 &&& Int32.toUInt32 31)).toInt32) &&& 255)) 1 (((a1.toUInt32 >>> ((16 : Int32).toUInt32 &&& Int32.toUInt32 31)).toInt32) &&& 255)) 2 (((a1.toUInt32 >>> ((8 : Int32).toUInt32 &&& Int32.toUInt32 31)).toInt32) &&& 255)) 3 (((a1.toUInt32 >>> ((0 : Int32).toUInt32 &&& Int32.toUInt32 31)).toInt32) &&& 255)))).set 1 (pv_o 10 [.ref 2, .int 4])).set 2 (pv_i 200 (upd (upd (upd (upd (upd (fun _ => 0) 0 (((a1.toUInt32 >>> ((24 : Int32).toUInt32 &&& Int32.toUInt32 31)).toInt32) &&& 255)) 1 (((a1.toUInt32 >>> ((16 : Int32).toUInt32 &&& Int32.toUInt32 31)).toInt32) &&& 255)) 2 (((a1.toUInt32 >>> ((8 : Int32).toUInt32 &&& Int32.toUInt32 31)).toInt32) &&& 255)) 3 (((a1.toUInt32 >>> ((0 : Int32).toUInt32 &&& Int32.toUInt32 31)).toInt32) &&& 255)) 4 (((a2.toUInt32 >>> ((24 : Int32).toUInt32 &&& Int32.toUInt32 31)).toInt32) &&& 255)))).set 1 (pv_o 10 [.ref 2, .int 5])).set 2 (pv_i 200 (upd (upd (upd (upd (upd (upd (fun _ => 0) 0 (((a1.toUInt32 >>> ((24 : Int32).toUInt32 &&& Int32.toUInt32 31)).toInt32) &&& 255)) 1 (((a1.toUInt32 >>> ((16 : Int32).toUInt32 &&& Int32.toUInt32 31)).toInt32) &&& 255)) 2 (((a1.toUInt32 >>> ((8 : Int32).toUInt32 &&& Int32.toUInt32 31)).toInt32) &&& 255)) 3 (((a1.toUInt32 >>> ((0 : Int32).toUInt32 &&& Int32.toUInt32 31)).toInt32) &&& 255)) 4 (((a2.toUInt32 >>> ((24 : Int32).toUInt32 &&& Int32.toUInt32 31)).toInt32) &&& 255)) 5 (((a2.toUInt32 >>> ((16 : Int32).toUInt32 &&& Int32.toUInt32 31)).toInt32) &&& 255)))).set 1 (pv_o 10 [.ref 2, .int 6])).set 2 (pv_i 200 (upd (upd (upd (upd (upd (upd (upd (fun _ => 0) 0 (((a1.toUInt32 >>> ((24 : Int32).toUInt32 &&& Int32.toUInt32 31)).toInt32) &&& 255)) 1 (((a1.toUInt32 >>> ((16 : Int32).toUInt32 &&& Int32.toUInt32 31)).toInt32) &&& 255)) 2 (((a1.toUInt32 >>> ((8 : Int32).toUInt32 &&& Int32.toUInt32 31)).toInt32) &&& 255)) 3 (((a1.toUInt32 >>> ((0 : Int32).toUInt32 &&& Int32.toUInt32 31)).toInt32) &&& 255)) 4 (((a2.toUInt32 >>> ((24 : Int32).toUInt32 &&& Int32.toUInt32 31)).toInt32) &&& 255)) 5 (((a2.toUInt32 >>> ((16 : Int32).toUInt32 &&& Int32.toUInt32 31)).toInt32) &&& 255)) 6 (((a2.toUInt32 >>> ((8 : Int32).toUInt32 &&& Int32.toUInt32 31)).toInt32) &&& 255)))).set 1 (pv_o 10 [.ref 2, .int 7])).set 2 (pv_i 200 (upd (upd (upd (upd (upd (upd (upd (upd (fun _ => 0) 0 (((a1.toUInt32 >>> ((24 : Int32).toUInt32 &&& Int32.toUInt32 31)).toInt32) &&& 255)) 1 (((a1.toUInt32 >>> ((16 : Int32).toUInt32 &&& Int32.toUInt32 31)).toInt32) &&& 255)) 2 (((a1.toUInt32 >>> ((8 : Int32).toUInt32 &&& Int32.toUInt32 31)).toInt32) &&& 255)) 3 (((a1.toUInt32 >>> ((0 : Int32).toUInt32 &&& Int32.toUInt32 31)).toInt32) &&& 255)) 4 (((a2.toUInt32 >>> ((24 : Int32).toUInt32 &&& Int32.toUInt32 31)).toInt32) &&& 255)) 5 (((a2.toUInt32 >>> ((16 : Int32).toUInt32 &&& Int32.toUInt32 31)).toInt32) &&& 255)) 6 (((a2.toUInt32 >>> ((8 : Int32).toUInt32 &&& Int32.toUInt32 31)).toInt32) &&& 255)) 7 (((a2.toUInt32 >>> ((0 : Int32).toUInt32 &&& Int32.toUInt32 31)).toInt32) &&& 255)))).set 1 (pv_o 10 [.ref 2, .int 8])).set 2 (pv_i 200 (upd (upd (upd (upd (upd (upd (upd (upd (upd (fun _ => 0) 0 (((a1.toUInt32 >>> ((24 : Int32).toUInt32 &&& Int32.toUInt32 31)).toInt32) &&& 255)) 1 (((a1.toUInt32 >>> ((16 : Int32).toUInt32 &&& Int32.toUInt32 31)).toInt32) &&& 255)) 2 (((a1.toUInt32 >>> ((8 : Int32).toUInt32 &&& Int32.toUInt32 31)).toInt32) &&& 255)) 3 (((a1.toUInt32 >>> ((0 : Int32).toUInt32 &&& Int32.toUInt32 31)).toInt32) &&& 255)) 4 (((a2.toUInt32 >>> ((24 : Int32).toUInt32 &&& Int32.toUInt32 31)).toInt32) &&& 255)) 5 (((a2.toUInt32 >>> ((16 : Int32).toUInt32 &&& Int32.toUInt32 31)).toInt32) &&& 255)) 6 (((a2.toUInt32 >>> ((8 : Int32).toUInt32 &&& Int32.toUInt32 31)).toInt32) &&& 255)) 7 (((a2.toUInt32 >>> ((0 : Int32).toUInt32 &&& Int32.toUInt32 31)).toInt32) &&& 255)) 8 (((a3.toUInt32 >>> ((24 : Int32).toUInt32 &&& Int32.toUInt32 31)).toInt32) &&& 255)))).set 1 (pv_o 10 [.ref 2, .int 9])).set 2 (pv_i 200 (upd (upd (upd (upd (upd (upd (upd (upd (upd (upd (fun _ => 0) 0 (((a1.toUInt32 >>> ((24 : Int32).toUInt32 &&& Int32.toUInt32 31)).toInt32) &&& 255)) 1 (((a1.toUInt32 >>> ((16 : Int32).toUInt32 &&& Int32.toUInt32 31)).toInt32) &&& 255)) 2 (((a1.toUInt32 >>> ((8 : Int32).toUInt32 &&& Int32.toUInt32 31)).toInt32) &&& 255)) 3 (((a1.toUInt32 >>> ((0 : Int32).toUInt32 &&& Int32.toUInt32 31)).toInt32) &&& 255)) 4 (((a2.toUInt32 >>> ((24 : Int32).toUInt32 &&& Int32.toUInt32 31)).toInt32) &&& 255)) 5 (((a2.toUInt32 >>> ((16 : Int32).toUInt32 &&& Int32.toUInt32 31)).toInt32) &&& 255)) 6 (((a2.toUInt32 >>> ((8 : Int32).toUInt32 &&& Int32.toUInt32 31)).toInt32) &&& 255)) 7 (((a2.toUInt32 >>> ((0 : Int32).toUInt32 &&& Int32.toUInt32 31)).toInt32) &&& 255)) 8 (((a3.toUInt32 >>> ((24 : Int32).toUInt32 &&& Int32.toUInt32 31)).toInt32) &&& 255)) 9 (((a3.toUInt32 >>> ((16 : Int32).toUInt32 &&& Int32.toUInt32 31)).toInt32) &&& 255)))).set 1 (pv_o 10 [.ref 2, .int 10])).set 2 (pv_i 200 (upd (upd (upd (upd (upd (upd (upd (upd (upd (upd (upd (fun _ => 0) 0 (((a1.toUInt32 >>> ((24 : Int32).toUInt32 &&& Int32.toUInt32 31)).toInt32) &&& 255)) 1 (((a1.toUInt32 >>> ((16 : Int32).toUInt32 &&& Int32.toUInt32 31)).toInt32) &&& 255)) 2 (((a1.toUInt32 >>> ((8 : Int32).toUInt32 &&& Int32.toUInt32 31)).toInt32) &&& 255)) 3 (((a1.toUInt32 >>> ((0 : Int32).toUInt32 &&& Int32.toUInt32 31)).toInt32) &&& 255)) 4 (((a2.toUInt32 >>> ((24 : Int32).toUInt32 &&& Int32.toUInt32 31)).toInt32) &&& 255)) 5 (((a2.toUInt32 >>> ((16 : Int32).toUInt32 &&& Int32.toUInt32 31)).toInt32) &&& 255)) 6 (((a2.toUInt32 >>> ((8 : Int32).toUInt32 &&& Int32.toUInt32 31)).toInt32) &&& 255)) 7 (((a2.toUInt32 >>> ((0 : Int32).toUInt32 &&& Int32.toUInt32 31)).toInt32) &&& 255)) 8 (((a3.toUInt32 >>> ((24 : Int32).toUInt32 &&& Int32.toUInt32 31)).toInt32) &&& 255)) 9 (((a3.toUInt32 >>> ((16 : Int32).toUInt32 &&& Int32.toUInt32 31)).toInt32) &&& 255)) 10 (((a3.toUInt32 >>> ((8 : Int32).toUInt32 &&& Int32.toUInt32 31)).toInt32) &&& 255)))).set 1 (pv_o 10 [.ref 2, .int 11])).set 2 (pv_i 200 (upd (upd (upd (upd (upd (upd (upd (upd (upd (upd (upd (upd (fun _ => 0) 0 (((a1.toUInt32 >>> ((24 : Int32).toUInt32 &&& Int32.toUInt32 31)).toInt32) &&& 255)) 1 (((a1.toUInt32 >>> ((16 : Int32).toUInt32 &&& Int32.toUInt32 31)).toInt32) &&& 255)) 2 (((a1.toUInt32 >>> ((8 : Int32).toUInt32 &&& Int32.toUInt32 31)).toInt32) &&& 255)) 3 (((a1.toUInt32 >>> ((0 : Int32).toUInt32 &&& Int32.toUInt32 31)).toInt32) &&& 255)) 4 (((a2.toUInt32 >>> ((24 : Int32).toUInt32 &&& Int32.toUInt32 31)).toInt32) &&& 255)) 5 (((a2.toUInt32 >>> ((16 : Int32).toUInt32 &&& Int32.toUInt32 31)).toInt32) &&& 255)) 6 (((a2.toUInt32 >>> ((8 : Int32).toUInt32 &&& Int32.toUInt32 31)).toInt32) &&& 255)) 7 (((a2.toUInt32 >>> ((0 : Int32).toUInt32 &&& Int32.toUInt32 31)).toInt32) &&& 255)) 8 (((a3.toUInt32 >>> ((24 : Int32).toUInt32 &&& Int32.toUInt32 31)).toInt32) &&& 255)) 9 (((a3.toUInt32 >>> ((16 : Int32).toUInt32 &&& Int32.toUInt32 31)).toInt32) &&& 255)) 10 (((a3.toUInt32 >>> ((8 : Int32).toUInt32 &&& Int32.toUInt32 31)).toInt32) &&& 255)) 11 (((a3.toUInt32 >>> ((0 : Int32).toUInt32 &&& Int32.toUInt32 31)).toInt32) &&& 255)))).set 1 (pv_o 10 [.ref 2, .int 12])).set 2 (pv_i 200 (upd (upd (upd (upd (upd (upd (upd (upd (upd (upd (upd (upd (upd (fun _ => 0) 0 (((a1.toUInt32 >>> ((24 : Int32).toUInt32 &&& Int32.toUInt32 31)).toInt32) &&& 255)) 1 (((a1.toUInt32 >>> ((16 : Int32).toUInt32 &&& Int32.toUInt32 31)).toInt32) &&& 255)) 2 (((a1.toUInt32 >>> ((8 : Int32).toUInt32 &&& Int32.toUInt32 31)).toInt32) &&& 255)) 3 (((a1.toUInt32 >>> ((0 : Int32).toUInt32 &&& Int32.toUInt32 31)).toInt32) &&& 255)) 4 (((a2.toUInt32 >>> ((24 : Int32).toUInt32 &&& Int32.toUInt32 31)).toInt32) &&& 255)) 5 (((a2.toUInt32 >>> ((16 : Int32).toUInt32 &&& Int32.toUInt32 31)).toInt32) &&& 255)) 6 (((a2.toUInt32 >>> ((8 : Int32).toUInt32 &&& Int32.toUInt32 31)).toInt32) &&& 255)) 7 (((a2.toUInt32 >>> ((0 : Int32).toUInt32 &&& Int32.toUInt32 31)).toInt32) &&& 255)) 8 (((a3.toUInt32 >>> ((24 : Int32).toUInt32 &&& Int32.toUInt32 31)).toInt32) &&& 255)) 9 (((a3.toUInt32 >>> ((16 : Int32).toUInt32 &&& Int32.toUInt32 31)).toInt32) &&& 255)) 10 (((a3.toUInt32 >>> ((8 : Int32).toUInt32 &&& Int32.toUInt32 31)).toInt32) &&& 255)) 11 (((a3.toUInt32 >>> ((0 : Int32).toUInt32 &&& Int32.toUInt32 31)).toInt32) &&& 255)) 12 (((a4.toUInt32 >>> ((24 : Int32).toUInt32 &&& Int32.toUInt32 31)).toInt32) &&& 255)))).set 1 (pv_o 10 [.ref 2, .int 13])).set 2 (pv_i 200 (upd (upd (upd (upd (upd (upd (upd (upd (upd (upd (upd (upd (upd (upd (fun _ => 0) 0 (((a1.toUInt32 >>> ((24 : Int32).toUInt32 &&& Int32.toUInt32 31)).toInt32) &&& 255)) 1 (((a1.toUInt32 >>> ((16 : Int32).toUInt32 &&& Int32.toUInt32 31)).toInt32) &&& 255)) 2 (((a1.toUInt32 >>> ((8 : Int32).toUInt32 &&& Int32.toUInt32 31)).toInt32) &&& 255)) 3 (((a1.toUInt32 >>> ((0 : Int32).toUInt32 &&& Int32.toUInt32 31)).toInt32) &&& 255)) 4 (((a2.toUInt32 >>> ((24 : Int32).toUInt32 &&& Int32.toUInt32 31)).toInt32) &&& 255)) 5 (((a2.toUInt32 >>> ((16 : Int32).toUInt32 &&& Int32.toUInt32 31)).toInt32) &&& 255)) 6 (((a2.toUInt32 >>> ((8 : Int32).toUInt32 &&& Int32.toUInt32 31)).toInt32) &&& 255)) 7 (((a2.toUInt32 >>> ((0 : Int32).toUInt32 &&& Int32.toUInt32 31)).toInt32) &&& 255)) 8 (((a3.toUInt32 >>> ((24 : Int32).toUInt32 &&& Int32.toUInt32 31)).toInt32) &&& 255)) 9 (((a3.toUInt32 >>> ((16 : Int32).toUInt32 &&& Int32.toUInt32 31)).toInt32) &&& 255)) 10 (((a3.toUInt32 >>> ((8 : Int32).toUInt32 &&& Int32.toUInt32 31)).toInt32) &&& 255)) 11 (((a3.toUInt32 >>> ((0 : Int32).toUInt32 &&& Int32.toUInt32 31)).toInt32) &&& 255)) 12 (((a4.toUInt32 >>> ((24 : Int32).toUInt32 &&& Int32.toUInt32 31)).toInt32) &&& 255)) 13 (((a4.toUInt32 >>> ((16 : Int32).toUInt32 &&& Int32.toUInt32 31)).toInt32) &&& 255)))).set 1 (pv_o 10 [.ref 2, .int 14])).set 2 (pv_i 200 (upd (upd (upd (upd (upd (upd (upd (upd (upd (upd (upd (upd (upd (upd (upd (fun _ => 0) 0 (((a1.toUInt32 >>> ((24 : Int32).toUInt32 &&& Int32.toUInt32 31)).toInt32) &&& 255)) 1 (((a1.toUInt32 >>> ((16 : Int32).toUInt32 &&& Int32.toUInt32 31)).toInt32) &&& 255)) 2 (((a1.toUInt32 >>> ((8 : Int32).toUInt32 &&& Int32.toUInt32 31)).toInt32) &&& 255)) 3 (((a1.toUInt32 >>> ((0 : Int32).toUInt32 &&& Int32.toUInt32 31)).toInt32) &&& 255)) 4 (((a2.toUInt32 >>> ((24 : Int32).toUInt32 &&& Int32.toUInt32 31)).toInt32) &&& 255)) 5 (((a2.toUInt32 >>> ((16 : Int32).toUInt32 &&& Int32.toUInt32 31)).toInt32) &&& 255)) 6 (((a2.toUInt32 >>> ((8 : Int32).toUInt32 &&& Int32.toUInt32 31)).toInt32) &&& 255)) 7 (((a2.toUInt32 >>> ((0 : Int32).toUInt32 &&& Int32.toUInt32 31)).toInt32) &&& 255)) 8 (((a3.toUInt32 >>> ((24 : Int32).toUInt32 &&& Int32.toUInt32 31)).toInt32) &&& 255)) 9 (((a3.toUInt32 >>> ((16 : Int32).toUInt32 &&& Int32.toUInt32 31)).toInt32) &&& 255)) 10 (((a3.toUInt32 >>> ((8 : Int32).toUInt32 &&& Int32.toUInt32 31)).toInt32) &&& 255)) 11 (((a3.toUInt32 >>> ((0 : Int32).toUInt32 &&& Int32.toUInt32 31)).toInt32) &&& 255)) 12 (((a4.toUInt32 >>> ((24 : Int32).toUInt32 &&& Int32.toUInt32 31)).toInt32) &&& 255)) 13 (((a4.toUInt32 >>> ((16 : Int32).toUInt32 &&& Int32.toUInt32 31)).toInt32) &&& 255)) 14 (((a4.toUInt32 >>> ((8 : Int32).toUInt32 &&& Int32.toUInt32 31)).toInt32) &&& 255)))).set 1 (pv_o 10 [.ref 2, .int 15])).set 2 (pv_i 200 (upd (upd (upd (upd (upd (upd (upd (upd (upd (upd (upd (upd (upd (upd (upd (upd (fun _ => 0) 0 (((a1.toUInt32 >>> ((24 : Int32).toUInt32 &&& Int32.toUInt32 31)).toInt32) &&& 255)) 1 (((a1.toUInt32 >>> ((16 : Int32).toUInt32 &&& Int32.toUInt32 31)).toInt32) &&& 255)) 2 (((a1.toUInt32 >>> ((8 : Int32).toUInt32 &&& Int32.toUInt32 31)).toInt32) &&& 255)) 3 (((a1.toUInt32 >>> ((0 : Int32).toUInt32 &&& Int32.toUInt32 31)).toInt32) &&& 255)) 4 (((a2.toUInt32 >>> ((24 : Int32).toUInt32 &&& Int32.toUInt32 31)).toInt32) &&& 255)) 5 (((a2.toUInt32 >>> ((16 : Int32).toUInt32 &&& Int32.toUInt32 31)).toInt32) &&& 255)) 6 (((a2.toUInt32 >>> ((8 : Int32).toUInt32 &&& Int32.toUInt32 31)).toInt32) &&& 255)) 7 (((a2.toUInt32 >>> ((0 : Int32).toUInt32 &&& Int32.toUInt32 31)).toInt32) &&& 255)) 8 (((a3.toUInt32 >>> ((24 : Int32).toUInt32 &&& Int32.toUInt32 31)).toInt32) &&& 255)) 9 (((a3.toUInt32 >>> ((16 : Int32).toUInt32 &&& Int32.toUInt32 31)).toInt32) &&& 255)) 10 (((a3.toUInt32 >>> ((8 : Int32).toUInt32 &&& Int32.toUInt32 31)).toInt32) &&& 255)) 11 (((a3.toUInt32 >>> ((0 : Int32).toUInt32 &&& Int32.toUInt32 31)).toInt32) &&& 255)) 12 (((a4.toUInt32 >>> ((24 : Int32).toUInt32 &&& Int32.toUInt32 31)).toInt32) &&& 255)) 13 (((a4.toUInt32 >>> ((16 : Int32).toUInt32 &&& Int32.toUInt32 31)).toInt32) &&& 255)) 14 (((a4.toUInt32 >>> ((8 : Int32).toUInt32 &&& Int32.toUInt32 31)).toInt32) &&& 255)) 15 (((a4.toUInt32 >>> ((0 : Int32).toUInt32 &&& Int32.toUInt32 31)).toInt32) &&& 255)))).set 1 (pv_o 10 [.ref 2, .int 16])).set 2 (pv_i 200 (upd (upd (upd (upd (upd (upd (upd (upd (upd (upd (upd (upd (upd (upd (upd (upd (upd (fun _ => 0) 0 (((a1.toUInt32 >>> ((24 : Int32).toUInt32 &&& Int32.toUInt32 31)).toInt32) &&& 255)) 1 (((a1.toUInt32 >>> ((16 : Int32).toUInt32 &&& Int32.toUInt32 31)).toInt32) &&& 255)) 2 (((a1.toUInt32 >>> ((8 : Int32).toUInt32 &&& Int32.toUInt32 31)).toInt32) &&& 255)) 3 (((a1.toUInt32 >>> ((0 : Int32).toUInt32 &&& Int32.toUInt32 31)).toInt32) &&& 255)) 4 (((a2.toUInt32 >>> ((24 : Int32).toUInt32 &&& Int32.toUInt32 31)).toInt32) &&& 255)) 5 (((a2.toUInt32 >>> ((16 : Int32).toUInt32 &&& Int32.toUInt32 31)).toInt32) &&& 255)) 6 (((a2.toUInt32 >>> ((8 : Int32).toUInt32 &&& Int32.toUInt32 31)).toInt32) &&& 255)) 7 (((a2.toUInt32 >>> ((0 : Int32).toUInt32 &&& Int32.toUInt32 31)).toInt32) &&& 255)) 8 (((a3.toUInt32 >>> ((24 : Int32).toUInt32 &&& Int32.toUInt32 31)).toInt32) &&& 255)) 9 (((a3.toUInt32 >>> ((16 : Int32).toUInt32 &&& Int32.toUInt32 31)).toInt32) &&& 255)) 10 (((a3.toUInt32 >>> ((8 : Int32).toUInt32 &&& Int32.toUInt32 31)).toInt32) &&& 255)) 11 (((a3.toUInt32 >>> ((0 : Int32).toUInt32 &&& Int32.toUInt32 31)).toInt32) &&& 255)) 12 (((a4.toUInt32 >>> ((24 : Int32).toUInt32 &&& Int32.toUInt32 31)).toInt32) &&& 255)) 13 (((a4.toUInt32 >>> ((16 : Int32).toUInt32 &&& Int32.toUInt32 31)).toInt32) &&& 255)) 14 (((a4.toUInt32 >>> ((8 : Int32).toUInt32 &&& Int32.toUInt32 31)).toInt32) &&& 255)) 15 (((a4.toUInt32 >>> ((0 : Int32).toUInt32 &&& Int32.toUInt32 31)).toInt32) &&& 255)) 16 (((a5.toUInt32 >>> ((24 : Int32).toUInt32 &&& Int32.toUInt32 31)).toInt32) &&& 255)))).set 1 (pv_o 10 [.ref 2, .int 17])).set 2 (pv_i 200 (upd (upd (upd (upd (upd (upd (upd (upd (upd (upd (upd (upd (upd (upd (upd (upd (upd (upd (fun _ => 0) 0 (((a1.toUInt32 >>> ((24 : Int32).toUInt32 &&& Int32.toUInt32 31)).toInt32) &&& 255)) 1 (((a1.toUInt32 >>> ((16 : Int32).toUInt32 &&& Int32.toUInt32 31)).toInt32) &&& 255)) 2 (((a1.toUInt32 >>> ((8 : Int32).toUInt32 &&& Int32.toUInt32 31)).toInt32) &&& 255)) 3 (((a1.toUInt32 >>> ((0 : Int32).toUInt32 &&& Int32.toUInt32 31)).toInt32) &&& 255)) 4 (((a2.toUInt32 >>> ((24 : Int32).toUInt32 &&& Int32.toUInt32 31)).toInt32) &&& 255)) 5 (((a2.toUInt32 >>> ((16 : Int32).toUInt32 &&& Int32.toUInt32 31)).toInt32) &&& 255)) 6 (((a2.toUInt32 >>> ((8 : Int32).toUInt32 &&& Int32.toUInt32 31)).toInt32) &&& 255)) 7 (((a2.toUInt32 >>> ((0 : Int32).toUInt32 &&& Int32.toUInt32 31)).toInt32) &&& 255)) 8 (((a3.toUInt32 >>> ((24 : Int32).toUInt32 &&& Int32.toUInt32 31)).toInt32) &&& 255)) 9 (((a3.toUInt32 >>> ((16 : Int32).toUInt32 &&& Int32.toUInt32 31)).toInt32) &&& 255)) 10 (((a3.toUInt32 >>> ((8 : Int32).toUInt32 &&& Int32.toUInt32 31)).toInt32) &&& 255)) 11 (((a3.toUInt32 >>> ((0 : Int32).toUInt32 &&& Int32.toUInt32 31)).toInt32) &&& 255)) 12 (((a4.toUInt32 >>> ((24 : Int32).toUInt32 &&& Int32.toUInt32 31)).toInt32) &&& 255)) 13 (((a4.toUInt32 >>> ((16 : Int32).toUInt32 &&& Int32.toUInt32 31)).toInt32) &&& 255)) 14 (((a4.toUInt32 >>> ((8 : Int32).toUInt32 &&& Int32.toUInt32 31)).toInt32) &&& 255)) 15 (((a4.toUInt32 >>> ((0 : Int32).toUInt32 &&& Int32.toUInt32 31)).toInt32) &&& 255)) 16 (((a5.toUInt32 >>> ((24 : Int32).toUInt32 &&& Int32.toUInt32 31)).toInt32) &&& 255)) 17 (((a5.toUInt32 >>> ((16 : Int32).toUInt32 &&& Int32.toUInt32 31)).toInt32) &&& 255)))).set 1 (pv_o 10 [.ref 2, .int 18])).set 2 (pv_i 200 (upd (upd (upd (upd (upd (upd (upd (upd (upd (upd (upd (upd (upd (upd (upd (upd (upd (upd (upd (fun _ => 0) 0 (((a1.toUInt32 >>> ((24 : Int32).toUInt32 &&& Int32.toUInt32 31)).toInt32) &&& 255)) 1 (((a1.toUInt32 >>> ((16 : Int32).toUInt32 &&& Int32.toUInt32 31)).toInt32) &&& 255)) 2 (((a1.toUInt32 >>> ((8 : Int32).toUInt32 &&& Int32.toUInt32 31)).toInt32) &&& 255)) 3 (((a1.toUInt32 >>> ((0 : Int32).toUInt32 &&& Int32.toUInt32 31)).toInt32) &&& 255)) 4 (((a2.toUInt32 >>> ((24 : Int32).toUInt32 &&& Int32.toUInt32 31)).toInt32) &&& 255)) 5 (((a2.toUInt32 >>> ((16 : Int32).toUInt32 &&& Int32.toUInt32 31)).toInt32) &&& 255)) 6 (((a2.toUInt32 >>> ((8 : Int32).toUInt32 &&& Int32.toUInt32 31)).toInt32) &&& 255)) 7 (((a2.toUInt32 >>> ((0 : Int32).toUInt32 &&& Int32.toUInt32 31)).toInt32) &&& 255)) 8 (((a3.toUInt32 >>> ((24 : Int32).toUInt32 &&& Int32.toUInt32 31)).toInt32) &&& 255)) 9 (((a3.toUInt32 >>> ((16 : Int32).toUInt32 &&& Int32.toUInt32 31)).toInt32) &&& 255)) 10 (((a3.toUInt32 >>> ((8 : Int32).toUInt32 &&& Int32.toUInt32 31)).toInt32) &&& 255)) 11 (((a3.toUInt32 >>> ((0 : Int32).toUInt32 &&& Int32.toUInt32 31)).toInt32) &&& 255)) 12 (((a4.toUInt32 >>> ((24 : Int32).toUInt32 &&& Int32.toUInt32 31)).toInt32) &&& 255)) 13 (((a4.toUInt32 >>> ((16 : Int32).toUInt32 &&& Int32.toUInt32 31)).toInt32) &&& 255)) 14 (((a4.toUInt32 >>> ((8 : Int32).toUInt32 &&& Int32.toUInt32 31)).toInt32) &&& 255)) 15 (((a4.toUInt32 >>> ((0 : Int32).toUInt32 &&& Int32.toUInt32 31)).toInt32) &&& 255)) 16 (((a5.toUInt32 >>> ((24 : Int32).toUInt32 &&& Int32.toUInt32 31)).toInt32) &&& 255)) 17 (((a5.toUInt32 >>> ((16 : Int32).toUInt32 &&& Int32.toUInt32 31)).toInt32) &&& 255)) 18 (((a5.toUInt32 >>> ((8 : Int32).toUInt32 &&& Int32.toUInt32 31)).toInt32) &&& 255)))).set 1 (pv_o 10 [.ref 2, .int 19])).set 2 (pv_i 200 (upd (upd (upd (upd (upd (upd (upd (upd (upd (upd (upd (upd (upd (upd (upd (upd (upd (upd (upd (upd (fun _ => 0) 0 (((a1.toUInt32 >>> ((24 : Int32).toUInt32 &&& Int32.toUInt32 31)).toInt32) &&& 255)) 1 (((a1.toUInt32 >>> ((16 : Int32).toUInt32 &&& Int32.toUInt32 31)).toInt32) &&& 255)) 2 (((a1.toUInt32 >>> ((8 : Int32).toUInt32 &&& Int32.toUInt32 31)).toInt32) &&& 255)) 3 (((a1.toUInt32 >>> ((0 : Int32).toUInt32 &&& Int32.toUInt32 31)).toInt32) &&& 255)) 4 (((a2.toUInt32 >>> ((24 : Int32).toUInt32 &&& Int32.toUInt32 31)).toInt32) &&& 255)) 5 (((a2.toUInt32 >>> ((16 : Int32).toUInt32 &&& Int32.toUInt32 31)).toInt32) &&& 255)) 6 (((a2.toUInt32 >>> ((8 : Int32).toUInt32 &&& Int32.toUInt32 31)).toInt32) &&& 255)) 7 (((a2.toUInt32 >>> ((0 : Int32).toUInt32 &&& Int32.toUInt32 31)).toInt32) &&& 255)) 8 (((a3.toUInt32 >>> ((24 : Int32).toUInt32 &&& Int32.toUInt32 31)).toInt32) &&& 255)) 9 (((a3.toUInt32 >>> ((16 : Int32).toUInt32 &&& Int32.toUInt32 31)).toInt32) &&& 255)) 10 (((a3.toUInt32 >>> ((8 : Int32).toUInt32 &&& Int32.toUInt32 31)).toInt32) &&& 255)) 11 (((a3.toUInt32 >>> ((0 : Int32).toUInt32 &&& Int32.toUInt32 31)).toInt32) &&& 255)) 12 (((a4.toUInt32 >>> ((24 : Int32).toUInt32 &&& Int32.toUInt32 31)).toInt32) &&& 255)) 13 (((a4.toUInt32 >>> ((16 : Int32).toUInt32 &&& Int32.toUInt32 31)).toInt32) &&& 255)) 14 (((a4.toUInt32 >>> ((8 : Int32).toUInt32 &&& Int32.toUInt32 31)).toInt32) &&& 255)) 15 (((a4.toUInt32 >>> ((0 : Int32).toUInt32 &&& Int32.toUInt32 31)).toInt32) &&& 255)) 16 (((a5.toUInt32 >>> ((24 : Int32).toUInt32 &&& Int32.toUInt32 31)).toInt32) &&& 255)) 17 (((a5.toUInt32 >>> ((16 : Int32).toUInt32 &&& Int32.toUInt32 31)).toInt32) &&& 255)) 18 (((a5.toUInt32 >>> ((8 : Int32).toUInt32 &&& Int32.toUInt32 31)).toInt32) &&& 255)) 19 (((a5.toUInt32 >>> ((0 : Int32).toUInt32 &&& Int32.toUInt32 31)).toInt32) &&& 255)))).set 1 (pv_o 10 [.ref 2, .int 20])))) 2 0 0 [.ref 0, .int a1, .int a2, .int a3, .int a4, .int a5] h := by
  refine PM.of 0 (lo := [.ref 0, .int a1, .int a2, .int a3, .int a4, .int a5]) rfl (by decide) rfl rfl (Nat.le_of_ble_eq_true rfl) ?_
  refine pv_aload_n (M := mX11_feed) 0 dX11_feed_0 1 rfl rfl rfl ?_
  refine pv_get (M := mX11_feed) dX11_feed_1 FX11 0 wd407 (by decide) e0 rfl 4 rfl ?_
  refine pv_bipush (M := mX11_feed) (v := 20) dX11_feed_4 6 rfl (by decide) ?_
  refine pv_callv (M := mX11_feed) (as := [.int 20]) (st := []) (kc2 := 0) (ks2 := 0) dX11_feed_6 wd467 YX10_hasRoom ⟨wd468, wd469⟩ e1 rfl rfl (k_X10_hasRoom g e1) rfl rfl (Nat.le_of_ble_eq_true rfl) (by decide) rfl rfl 9 rfl (pv_k1 ?_)
  refine pv_if_ne (M := mX11_feed) (tgt := 14) dX11_feed_9 12 rfl (by decide) (fun _ => ?_) (fun q => absurd q (by decide))
  refine pv_aload_n (M := mX11_feed) 0 dX11_feed_14 15 rfl rfl rfl ?_
  refine pv_get (M := mX11_feed) dX11_feed_15 FX11 0 wd407 (by decide) e0 rfl 18 rfl ?_
  refine pv_iload_n (M := mX11_feed) 1 dX11_feed_18 19 rfl rfl rfl ?_
  refine pv_callv (M := mX11_feed) (as := [.int a1]) (st := []) (kc2 := 0) (ks2 := 0) dX11_feed_19 wd471 YX10_put ⟨wd472, wd473⟩ e1 rfl rfl (k_X10_put g a1 e1 e2) rfl rfl (Nat.le_of_ble_eq_true rfl) (by decide) rfl rfl 22 rfl (pv_k0 ?_)
  refine pv_aload_n (M := mX11_feed) 0 dX11_feed_22 23 rfl rfl rfl ?_
  refine pv_get (M := mX11_feed) dX11_feed_23 FX11 0 wd407 (by decide) (pv_sn (by decide) (pv_sn (by decide) (pv_sn (by decide) (pv_sn (by decide) (pv_sn (by decide) (pv_sn (by decide) (pv_sn (by decide) (pv_sn (by decide) e0)))))))) rfl 26 rfl ?_
  refine pv_iload_n (M := mX11_feed) 2 dX11_feed_26 27 rfl rfl rfl ?_
  refine pv_callv (M := mX11_feed) (as := [.int a2]) (st := []) (kc2 := 0) (ks2 := 0) dX11_feed_27 wd471 YX10_put ⟨wd472, wd473⟩ (pv_se (pv_sn (by decide) (pv_se (pv_sn (by decide) (pv_se (pv_sn (by decide) (pv_se (pv_sn (by decide) e1)))))))) rfl rfl (k_X10_put_2 g a2 (upd (upd (upd (upd (fun _ => 0) 0 (((a1.toUInt32 >>> ((24 : Int32).toUInt32 &&& Int32.toUInt32 31)).toInt32) &&& 255)) 1 (((a1.toUInt32 >>> ((16 : Int32).toUInt32 &&& Int32.toUInt32 31)).toInt32) &&& 255)) 2 (((a1.toUInt32 >>> ((8 : Int32).toUInt32 &&& Int32.toUInt32 31)).toInt32) &&& 255)) 3 (((a1.toUInt32 >>> ((0 : Int32).toUInt32 &&& Int32.toUInt32 31)).toInt32) &&& 255)) (pv_se (pv_sn (by decide) (pv_se (pv_sn (by decide) (pv_se (pv_sn (by decide) (pv_se (pv_sn (by decide) e1)))))))) (pv_sn (by decide) (pv_se (pv_sn (by decide) (pv_se (pv_sn (by decide) (pv_se (pv_sn (by decide) (pv_se e2))))))))) rfl rfl (Nat.le_of_ble_eq_true rfl) (by decide) rfl rfl 30 rfl (pv_k0 ?_)
  refine pv_aload_n (M := mX11_feed) 0 dX11_feed_30 31 rfl rfl rfl ?_
  refine pv_get (M := mX11_feed) dX11_feed_31 FX11 0 wd407 (by decide) (pv_sn (by decide) (pv_sn (by decide) (pv_sn (by decide) (pv_sn (by decide) (pv_sn (by decide) (pv_sn (by decide) (pv_sn (by decide) (pv_sn (by decide) (pv_sn (by decide) (pv_sn (by decide) (pv_sn (by decide) (pv_sn (by decide) (pv_sn (by decide) (pv_sn (by decide) (pv_sn (by decide) (pv_sn (by decide) e0)))))))))))))))) rfl 34 rfl ?_
  refine pv_iload_n (M := mX11_feed) 3 dX11_feed_34 35 rfl rfl rfl ?_
  refine pv_callv (M := mX11_feed) (as := [.int a3]) (st := []) (kc2 := 0) (ks2 := 0) dX11_feed_35 wd471 YX10_put ⟨wd472, wd473⟩ (pv_se (pv_sn (by decide) (pv_se (pv_sn (by decide) (pv_se (pv_sn (by decide) (pv_se (pv_sn (by decide) (pv_se (pv_sn (by decide) (pv_se (pv_sn (by decide) (pv_se (pv_sn (by decide) (pv_se (pv_sn (by decide) e1)))))))))))))))) rfl rfl (k_X10_put_3 g a3 (upd (upd (upd (upd (upd (upd (upd (upd (fun _ => 0) 0 (((a1.toUInt32 >>> ((24 : Int32).toUInt32 &&& Int32.toUInt32 31)).toInt32) &&& 255)) 1 (((a1.toUInt32 >>> ((16 : Int32).toUInt32 &&& Int32.toUInt32 31)).toInt32) &&& 255)) 2 (((a1.toUInt32 >>> ((8 : Int32).toUInt32 &&& Int32.toUInt32 31)).toInt32) &&& 255)) 3 (((a1.toUInt32 >>> ((0 : Int32).toUInt32 &&& Int32.toUInt32 31)).toInt32) &&& 255)) 4 (((a2.toUInt32 >>> ((24 : Int32).toUInt32 &&& Int32.toUInt32 31)).toInt32) &&& 255)) 5 (((a2.toUInt32 >>> ((16 : Int32).toUInt32 &&& Int32.toUInt32 31)).toInt32) &&& 255)) 6 (((a2.toUInt32 >>> ((8 : Int32).toUInt32 &&& Int32.toUInt32 31)).toInt32) &&& 255)) 7 (((a2.toUInt32 >>> ((0 : Int32).toUInt32 &&& Int32.toUInt32 31)).toInt32) &&& 255)) (pv_se (pv_sn (by decide) (pv_se (pv_sn (by decide) (pv_se (pv_sn (by decide) (pv_se (pv_sn (by decide) (pv_se (pv_sn (by decide) (pv_se (pv_sn (by decide) (pv_se (pv_sn (by decide) (pv_se (pv_sn (by decide) e1)))))))))))))))) (pv_sn (by decide) (pv_se (pv_sn (by decide) (pv_se (pv_sn (by decide) (pv_se (pv_sn (by decide) (pv_se (pv_sn (by decide) (pv_se (pv_sn (by decide) (pv_se (pv_sn (by decide) (pv_se (pv_sn (by decide) (pv_se e2))))))))))))))))) rfl rfl (Nat.le_of_ble_eq_true rfl) (by decide) rfl rfl 38 rfl (pv_k0 ?_)
  refine pv_aload_n (M := mX11_feed) 0 dX11_feed_38 39 rfl rfl rfl ?_
  refine pv_get (M := mX11_feed) dX11_feed_39 FX11 0 wd407 (by decide) (pv_sn (by decide) (pv_sn (by decide) (pv_sn (by decide) (pv_sn (by decide) (pv_sn (by decide) (pv_sn (by decide) (pv_sn (by decide) (pv_sn (by decide) (pv_sn (by decide) (pv_sn (by decide) (pv_sn (by decide) (pv_sn (by decide) (pv_sn (by decide) (pv_sn (by decide) (pv_sn (by decide) (pv_sn (by decide) (pv_sn (by decide) (pv_sn (by decide) (pv_sn (by decide) (pv_sn (by decide) (pv_sn (by decide) (pv_sn (by decide) (pv_sn (by decide) (pv_sn (by decide) e0)))))))))))))))))))))))) rfl 42 rfl ?_
  refine pv_iload (M := mX11_feed) dX11_feed_42 44 rfl rfl ?_
  refine pv_callv (M := mX11_feed) (as := [.int a4]) (st := []) (kc2 := 0) (ks2 := 0) dX11_feed_44 wd471 YX10_put ⟨wd472, wd473⟩ (pv_se (pv_sn (by decide) (pv_se (pv_sn (by decide) (pv_se (pv_sn (by decide) (pv_se (pv_sn (by decide) (pv_se (pv_sn (by decide) (pv_se (pv_sn (by decide) (pv_se (pv_sn (by decide) (pv_se (pv_sn (by decide) (pv_se (pv_sn (by decide) (pv_se (pv_sn (by decide) (pv_se (pv_sn (by decide) (pv_se (pv_sn (by decide) e1)))))))))))))))))))))))) rfl rfl (k_X10_put_4 g a4 (upd (upd (upd (upd (upd (upd (upd (upd (upd (upd (upd (upd (fun _ => 0) 0 (((a1.toUInt32 >>> ((24 : Int32).toUInt32 &&& Int32.toUInt32 31)).toInt32) &&& 255)) 1 (((a1.toUInt32 >>> ((16 : Int32).toUInt32 &&& Int32.toUInt32 31)).toInt32) &&& 255)) 2 (((a1.toUInt32 >>> ((8 : Int32).toUInt32 &&& Int32.toUInt32 31)).toInt32) &&& 255)) 3 (((a1.toUInt32 >>> ((0 : Int32).toUInt32 &&& Int32.toUInt32 31)).toInt32) &&& 255)) 4 (((a2.toUInt32 >>> ((24 : Int32).toUInt32 &&& Int32.toUInt32 31)).toInt32) &&& 255)) 5 (((a2.toUInt32 >>> ((16 : Int32).toUInt32 &&& Int32.toUInt32 31)).toInt32) &&& 255)) 6 (((a2.toUInt32 >>> ((8 : Int32).toUInt32 &&& Int32.toUInt32 31)).toInt32) &&& 255)) 7 (((a2.toUInt32 >>> ((0 : Int32).toUInt32 &&& Int32.toUInt32 31)).toInt32) &&& 255)) 8 (((a3.toUInt32 >>> ((24 : Int32).toUInt32 &&& Int32.toUInt32 31)).toInt32) &&& 255)) 9 (((a3.toUInt32 >>> ((16 : Int32).toUInt32 &&& Int32.toUInt32 31)).toInt32) &&& 255)) 10 (((a3.toUInt32 >>> ((8 : Int32).toUInt32 &&& Int32.toUInt32 31)).toInt32) &&& 255)) 11 (((a3.toUInt32 >>> ((0 : Int32).toUInt32 &&& Int32.toUInt32 31)).toInt32) &&& 255)) (pv_se (pv_sn (by decide) (pv_se (pv_sn (by decide) (pv_se (pv_sn (by decide) (pv_se (pv_sn (by decide) (pv_se (pv_sn (by decide) (pv_se (pv_sn (by decide) (pv_se (pv_sn (by decide) (pv_se (pv_sn (by decide) (pv_se (pv_sn (by decide) (pv_se (pv_sn (by decide) (pv_se (pv_sn (by decide) (pv_se (pv_sn (by decide) e1)))))))))))))))))))))))) (pv_sn (by decide) (pv_se (pv_sn (by decide) (pv_se (pv_sn (by decide) (pv_se (pv_sn (by decide) (pv_se (pv_sn (by decide) (pv_se (pv_sn (by decide) (pv_se (pv_sn (by decide) (pv_se (pv_sn (by decide) (pv_se (pv_sn (by decide) (pv_se (pv_sn (by decide) (pv_se (pv_sn (by decide) (pv_se (pv_sn (by decide) (pv_se e2))))))))))))))))))))))))) rfl rfl (Nat.le_of_ble_eq_true rfl) (by decide) rfl rfl 47 rfl (pv_k0 ?_)
  refine pv_aload_n (M := mX11_feed) 0 dX11_feed_47 48 rfl rfl rfl ?_
  refine pv_get (M := mX11_feed) dX11_feed_48 FX11 0 wd407 (by decide) (pv_sn (by decide) (pv_sn (by decide) (pv_sn (by decide) (pv_sn (by decide) (pv_sn (by decide) (pv_sn (by decide) (pv_sn (by decide) (pv_sn (by decide) (pv_sn (by decide) (pv_sn (by decide) (pv_sn (by decide) (pv_sn (by decide) (pv_sn (by decide) (pv_sn (by decide) (pv_sn (by decide) (pv_sn (by decide) (pv_sn (by decide) (pv_sn (by decide) (pv_sn (by decide) (pv_sn (by decide) (pv_sn (by decide) (pv_sn (by decide) (pv_sn (by decide) (pv_sn (by decide) (pv_sn (by decide) (pv_sn (by decide) (pv_sn (by decide) (pv_sn (by decide) (pv_sn (by decide) (pv_sn (by decide) (pv_sn (by decide) (pv_sn (by decide) e0)))))))))))))))))))))))))))))))) rfl 51 rfl ?_
  refine pv_iload (M := mX11_feed) dX11_feed_51 53 rfl rfl ?_
  refine pv_callv (M := mX11_feed) (as := [.int a5]) (st := []) (kc2 := 0) (ks2 := 0) dX11_feed_53 wd471 YX10_put ⟨wd472, wd473⟩ (pv_se (pv_sn (by decide) (pv_se (pv_sn (by decide) (pv_se (pv_sn (by decide) (pv_se (pv_sn (by decide) (pv_se (pv_sn (by decide) (pv_se (pv_sn (by decide) (pv_se (pv_sn (by decide) (pv_se (pv_sn (by decide) (pv_se (pv_sn (by decide) (pv_se (pv_sn (by decide) (pv_se (pv_sn (by decide) (pv_se (pv_sn (by decide) (pv_se (pv_sn (by decide) (pv_se (pv_sn (by decide) (pv_se (pv_sn (by decide) (pv_se (pv_sn (by decide) e1)))))))))))))))))))))))))))))))) rfl rfl (k_X10_put_5 g a5 (upd (upd (upd (upd (upd (upd (upd (upd (upd (upd (upd (upd (upd (upd (upd (upd (fun _ => 0) 0 (((a1.toUInt32 >>> ((24 : Int32).toUInt32 &&& Int32.toUInt32 31)).toInt32) &&& 255)) 1 (((a1.toUInt32 >>> ((16 : Int32).toUInt32 &&& Int32.toUInt32 31)).toInt32) &&& 255)) 2 (((a1.toUInt32 >>> ((8 : Int32).toUInt32 &&& Int32.toUInt32 31)).toInt32) &&& 255)) 3 (((a1.toUInt32 >>> ((0 : Int32).toUInt32 &&& Int32.toUInt32 31)).toInt32) &&& 255)) 4 (((a2.toUInt32 >>> ((24 : Int32).toUInt32 &&& Int32.toUInt32 31)).toInt32) &&& 255)) 5 (((a2.toUInt32 >>> ((16 : Int32).toUInt32 &&& Int32.toUInt32 31)).toInt32) &&& 255)) 6 (((a2.toUInt32 >>> ((8 : Int32).toUInt32 &&& Int32.toUInt32 31)).toInt32) &&& 255)) 7 (((a2.toUInt32 >>> ((0 : Int32).toUInt32 &&& Int32.toUInt32 31)).toInt32) &&& 255)) 8 (((a3.toUInt32 >>> ((24 : Int32).toUInt32 &&& Int32.toUInt32 31)).toInt32) &&& 255)) 9 (((a3.toUInt32 >>> ((16 : Int32).toUInt32 &&& Int32.toUInt32 31)).toInt32) &&& 255)) 10 (((a3.toUInt32 >>> ((8 : Int32).toUInt32 &&& Int32.toUInt32 31)).toInt32) &&& 255)) 11 (((a3.toUInt32 >>> ((0 : Int32).toUInt32 &&& Int32.toUInt32 31)).toInt32) &&& 255)) 12 (((a4.toUInt32 >>> ((24 : Int32).toUInt32 &&& Int32.toUInt32 31)).toInt32) &&& 255)) 13 (((a4.toUInt32 >>> ((16 : Int32).toUInt32 &&& Int32.toUInt32 31)).toInt32) &&& 255)) 14 (((a4.toUInt32 >>> ((8 : Int32).toUInt32 &&& Int32.toUInt32 31)).toInt32) &&& 255)) 15 (((a4.toUInt32 >>> ((0 : Int32).toUInt32 &&& Int32.toUInt32 31)).toInt32) &&& 255)) (pv_se (pv_sn (by decide) (pv_se (pv_sn (by decide) (pv_se (pv_sn (by decide) (pv_se (pv_sn (by decide) (pv_se (pv_sn (by decide) (pv_se (pv_sn (by decide) (pv_se (pv_sn (by decide) (pv_se (pv_sn (by decide) (pv_se (pv_sn (by decide) (pv_se (pv_sn (by decide) (pv_se (pv_sn (by decide) (pv_se (pv_sn (by decide) (pv_se (pv_sn (by decide) (pv_se (pv_sn (by decide) (pv_se (pv_sn (by decide) (pv_se (pv_sn (by decide) e1)))))))))))))))))))))))))))))))) (pv_sn (by decide) (pv_se (pv_sn (by decide) (pv_se (pv_sn (by decide) (pv_se (pv_sn (by decide) (pv_se (pv_sn (by decide) (pv_se (pv_sn (by decide) (pv_se (pv_sn (by decide) (pv_se (pv_sn (by decide) (pv_se (pv_sn (by decide) (pv_se (pv_sn (by decide) (pv_se (pv_sn (by decide) (pv_se (pv_sn (by decide) (pv_se (pv_sn (by decide) (pv_se (pv_sn (by decide) (pv_se (pv_sn (by decide) (pv_se (pv_sn (by decide) (pv_se e2))))))))))))))))))))))))))))))))) rfl rfl (Nat.le_of_ble_eq_true rfl) (by decide) rfl rfl 56 rfl (pv_k0 ?_)
  refine pv_aload_n (M := mX11_feed) 0 dX11_feed_56 57 rfl rfl rfl ?_
  refine pv_get (M := mX11_feed) dX11_feed_57 FX11 0 wd407 (by decide) (pv_sn (by decide) (pv_sn (by decide) (pv_sn (by decide) (pv_sn (by decide) (pv_sn (by decide) (pv_sn (by decide) (pv_sn (by decide) (pv_sn (by decide) (pv_sn (by decide) (pv_sn (by decide) (pv_sn (by decide) (pv_sn (by decide) (pv_sn (by decide) (pv_sn (by decide) (pv_sn (by decide) (pv_sn (by decide) (pv_sn (by decide) (pv_sn (by decide) (pv_sn (by decide) (pv_sn (by decide) (pv_sn (by decide) (pv_sn (by decide) (pv_sn (by decide) (pv_sn (by decide) (pv_sn (by decide) (pv_sn (by decide) (pv_sn (by decide) (pv_sn (by decide) (pv_sn (by decide) (pv_sn (by decide) (pv_sn (by decide) (pv_sn (by decide) (pv_sn (by decide) (pv_sn (by decide) (pv_sn (by decide) (pv_sn (by decide) (pv_sn (by decide) (pv_sn (by decide) (pv_sn (by decide) (pv_sn (by decide) e0)))))))))))))))))))))))))))))))))))))))) rfl 60 rfl ?_
  refine pv_get (M := mX11_feed) dX11_feed_60 FX10 1 wd164 (by decide) (pv_se (pv_sn (by decide) (pv_se (pv_sn (by decide) (pv_se (pv_sn (by decide) (pv_se (pv_sn (by decide) (pv_se (pv_sn (by decide) (pv_se (pv_sn (by decide) (pv_se (pv_sn (by decide) (pv_se (pv_sn (by decide) (pv_se (pv_sn (by decide) (pv_se (pv_sn (by decide) (pv_se (pv_sn (by decide) (pv_se (pv_sn (by decide) (pv_se (pv_sn (by decide) (pv_se (pv_sn (by decide) (pv_se (pv_sn (by decide) (pv_se (pv_sn (by decide) (pv_se (pv_sn (by decide) (pv_se (pv_sn (by decide) (pv_se (pv_sn (by decide) (pv_se (pv_sn (by decide) e1)))))))))))))))))))))))))))))))))))))))) rfl 63 rfl ?_
  exact pv_iret (M := mX11_feed) dX11_feed_63 rfl rfl ⟨rfl, rfl⟩

set_option maxHeartbeats 400000 in
set_option maxRecDepth 20000 in
theorem k_X11_blank (g : pv_G) {h : List pv_C} (a1 : Int32) (e0 : h[0]? = some (pv_o 11 [.ref 1, .ref 3, .int 0, .ref 60, .ref 77, .ref 86, .ref 97, .int 0, .int 1, .ref 104, .ref 107, .ref 112, .null, .ref 116, .ref 120, .ref 121, .ref 122])) (e1 : h[1]? = some (pv_o 10 [.ref 2, .int 0])) : PM g mX11_blank yX11_blank (pv_is (some (.int (-1))) (h)) 1 0 0 [.ref 0, .int a1] h := by
  refine PM.of 1 (lo := [.ref 0, .int a1, pv_U]) rfl (by decide) rfl rfl (Nat.le_of_ble_eq_true rfl) ?_
  refine pv_iload_n (M := mX11_blank) 1 dX11_blank_0 1 rfl rfl rfl ?_
  refine pv_iconst (M := mX11_blank) (v := 1) dX11_blank_1 2 rfl (by decide) ?_
  refine pv_icmp_lt (M := mX11_blank) (tgt := 31) dX11_blank_2 5 rfl (by decide) (fun c1 => ?_) (fun c1 => ?_)
  · refine pv_iconst (M := mX11_blank) (v := (-1)) dX11_blank_31 32 rfl (by decide) ?_
    exact pv_iret (M := mX11_blank) dX11_blank_32 rfl rfl ⟨rfl, rfl⟩
  · refine pv_iload_n (M := mX11_blank) 1 dX11_blank_5 6 rfl rfl rfl ?_
    refine pv_bipush (M := mX11_blank) (v := 40) dX11_blank_6 8 rfl (by decide) ?_
    refine pv_icmp_gt (M := mX11_blank) (tgt := 31) dX11_blank_8 11 rfl (by decide) (fun c2 => ?_) (fun c2 => ?_)
    · refine pv_iconst (M := mX11_blank) (v := (-1)) dX11_blank_31 32 rfl (by decide) ?_
      exact pv_iret (M := mX11_blank) dX11_blank_32 rfl rfl ⟨rfl, rfl⟩
    · refine pv_aload_n (M := mX11_blank) 0 dX11_blank_11 12 rfl rfl rfl ?_
      refine pv_get (M := mX11_blank) dX11_blank_12 FX11 2 wd409 (by decide) e0 rfl 15 rfl ?_
      refine pv_bipush (M := mX11_blank) (v := 8) dX11_blank_15 17 rfl (by decide) ?_
      refine pv_icmp_ge (M := mX11_blank) (tgt := 31) dX11_blank_17 20 rfl (by decide) (fun q => absurd q (by decide)) (fun _ => ?_)
      refine pv_iload_n (M := mX11_blank) 1 dX11_blank_20 21 rfl rfl rfl ?_
      refine pv_aload_n (M := mX11_blank) 0 dX11_blank_21 22 rfl rfl rfl ?_
      refine pv_get (M := mX11_blank) dX11_blank_22 FX11 0 wd407 (by decide) e0 rfl 25 rfl ?_
      refine pv_get (M := mX11_blank) dX11_blank_25 FX10 1 wd164 (by decide) e1 rfl 28 rfl ?_
      refine pv_icmp_le (M := mX11_blank) (tgt := 33) dX11_blank_28 31 rfl (by decide) (fun c3 => ?_) (fun c3 => ?_)
      · exact absurd (Int.le_trans (pv_b2 c1) (pv_b3 c3)) (by decide)
      · refine pv_iconst (M := mX11_blank) (v := (-1)) dX11_blank_31 32 rfl (by decide) ?_
        exact pv_iret (M := mX11_blank) dX11_blank_32 rfl rfl ⟨rfl, rfl⟩

set_option maxHeartbeats 400000 in
set_option maxRecDepth 20000 in
theorem k_X11_deed (g : pv_G) {h : List pv_C} (a1 : Int32) (a2 : Int32) (e0 : h[0]? = some (pv_o 11 [.ref 1, .ref 3, .int 0, .ref 60, .ref 77, .ref 86, .ref 97, .int 0, .int 1, .ref 104, .ref 107, .ref 112, .null, .ref 116, .ref 120, .ref 121, .ref 122])) (e1 : h[1]? = some (pv_o 10 [.ref 2, .int 0])) : PM g mX11_deed yX11_deed (pv_is (some (.int (-1))) (h)) 1 0 0 [.ref 0, .int a1, .int a2] h := by
  refine PM.of 1 (lo := [.ref 0, .int a1, .int a2, pv_U]) rfl (by decide) rfl rfl (Nat.le_of_ble_eq_true rfl) ?_
  refine pv_iload_n (M := mX11_deed) 1 dX11_deed_0 1 rfl rfl rfl ?_
  refine pv_if_lt (M := mX11_deed) (tgt := 32) dX11_deed_1 4 rfl (by decide) (fun c1 => ?_) (fun c1 => ?_)
  · refine pv_iconst (M := mX11_deed) (v := (-1)) dX11_deed_32 33 rfl (by decide) ?_
    exact pv_iret (M := mX11_deed) dX11_deed_33 rfl rfl ⟨rfl, rfl⟩
  · refine pv_iload_n (M := mX11_deed) 1 dX11_deed_4 5 rfl rfl rfl ?_
    refine pv_bipush (M := mX11_deed) (v := 8) dX11_deed_5 7 rfl (by decide) ?_
    refine pv_icmp_ge (M := mX11_deed) (tgt := 32) dX11_deed_7 10 rfl (by decide) (fun c2 => ?_) (fun c2 => ?_)
    · refine pv_iconst (M := mX11_deed) (v := (-1)) dX11_deed_32 33 rfl (by decide) ?_
      exact pv_iret (M := mX11_deed) dX11_deed_33 rfl rfl ⟨rfl, rfl⟩
    · refine pv_iload_n (M := mX11_deed) 2 dX11_deed_10 11 rfl rfl rfl ?_
      refine pv_iconst (M := mX11_deed) (v := 1) dX11_deed_11 12 rfl (by decide) ?_
      refine pv_icmp_lt (M := mX11_deed) (tgt := 32) dX11_deed_12 15 rfl (by decide) (fun c3 => ?_) (fun c3 => ?_)
      · refine pv_iconst (M := mX11_deed) (v := (-1)) dX11_deed_32 33 rfl (by decide) ?_
        exact pv_iret (M := mX11_deed) dX11_deed_33 rfl rfl ⟨rfl, rfl⟩
      · refine pv_iload_n (M := mX11_deed) 2 dX11_deed_15 16 rfl rfl rfl ?_
        refine pv_bipush (M := mX11_deed) (v := 16) dX11_deed_16 18 rfl (by decide) ?_
        refine pv_icmp_gt (M := mX11_deed) (tgt := 32) dX11_deed_18 21 rfl (by decide) (fun c4 => ?_) (fun c4 => ?_)
        · refine pv_iconst (M := mX11_deed) (v := (-1)) dX11_deed_32 33 rfl (by decide) ?_
          exact pv_iret (M := mX11_deed) dX11_deed_33 rfl rfl ⟨rfl, rfl⟩
        · refine pv_iload_n (M := mX11_deed) 2 dX11_deed_21 22 rfl rfl rfl ?_
          refine pv_aload_n (M := mX11_deed) 0 dX11_deed_22 23 rfl rfl rfl ?_
          refine pv_get (M := mX11_deed) dX11_deed_23 FX11 0 wd407 (by decide) e0 rfl 26 rfl ?_
          refine pv_get (M := mX11_deed) dX11_deed_26 FX10 1 wd164 (by decide) e1 rfl 29 rfl ?_
          refine pv_icmp_le (M := mX11_deed) (tgt := 34) dX11_deed_29 32 rfl (by decide) (fun c5 => ?_) (fun c5 => ?_)
          · exact absurd (Int.le_trans (pv_b2 c3) (pv_b3 c5)) (by decide)
          · refine pv_iconst (M := mX11_deed) (v := (-1)) dX11_deed_32 33 rfl (by decide) ?_
            exact pv_iret (M := mX11_deed) dX11_deed_33 rfl rfl ⟨rfl, rfl⟩

set_option maxHeartbeats 400000 in
set_option maxRecDepth 20000 in
theorem k_X11_law (g : pv_G) {h : List pv_C} (a1 : Int32) (e0 : h[0]? = some (pv_o 11 [.ref 1, .ref 3, .int 0, .ref 60, .ref 77, .ref 86, .ref 97, .int 0, .int 1, .ref 104, .ref 107, .ref 112, .null, .ref 116, .ref 120, .ref 121, .ref 122])) (e1 : h[1]? = some (pv_o 10 [.ref 2, .int 0])) : PM g mX11_law yX11_law (pv_is (some (.int (-1))) (h)) 1 0 0 [.ref 0, .int a1] h := by
  refine PM.of 1 (lo := [.ref 0, .int a1, pv_U]) rfl (by decide) rfl rfl (Nat.le_of_ble_eq_true rfl) ?_
  refine pv_iload_n (M := mX11_law) 1 dX11_law_0 1 rfl rfl rfl ?_
  refine pv_iconst (M := mX11_law) (v := 1) dX11_law_1 2 rfl (by decide) ?_
  refine pv_icmp_lt (M := mX11_law) (tgt := 23) dX11_law_2 5 rfl (by decide) (fun c1 => ?_) (fun c1 => ?_)
  · refine pv_iconst (M := mX11_law) (v := (-1)) dX11_law_23 24 rfl (by decide) ?_
    exact pv_iret (M := mX11_law) dX11_law_24 rfl rfl ⟨rfl, rfl⟩
  · refine pv_iload_n (M := mX11_law) 1 dX11_law_5 6 rfl rfl rfl ?_
    refine pv_sipush (M := mX11_law) (v := 160) dX11_law_6 9 rfl (by decide) ?_
    refine pv_icmp_gt (M := mX11_law) (tgt := 23) dX11_law_9 12 rfl (by decide) (fun c2 => ?_) (fun c2 => ?_)
    · refine pv_iconst (M := mX11_law) (v := (-1)) dX11_law_23 24 rfl (by decide) ?_
      exact pv_iret (M := mX11_law) dX11_law_24 rfl rfl ⟨rfl, rfl⟩
    · refine pv_iload_n (M := mX11_law) 1 dX11_law_12 13 rfl rfl rfl ?_
      refine pv_aload_n (M := mX11_law) 0 dX11_law_13 14 rfl rfl rfl ?_
      refine pv_get (M := mX11_law) dX11_law_14 FX11 0 wd407 (by decide) e0 rfl 17 rfl ?_
      refine pv_get (M := mX11_law) dX11_law_17 FX10 1 wd164 (by decide) e1 rfl 20 rfl ?_
      refine pv_icmp_le (M := mX11_law) (tgt := 25) dX11_law_20 23 rfl (by decide) (fun c3 => ?_) (fun c3 => ?_)
      · exact absurd (Int.le_trans (pv_b2 c1) (pv_b3 c3)) (by decide)
      · refine pv_iconst (M := mX11_law) (v := (-1)) dX11_law_23 24 rfl (by decide) ?_
        exact pv_iret (M := mX11_law) dX11_law_24 rfl rfl ⟨rfl, rfl⟩

set_option maxHeartbeats 400000 in
set_option maxRecDepth 20000 in
theorem k_X11_isBlank (g : pv_G) {h : List pv_C} (a1 : Int32) (e0 : h[0]? = some (pv_o 11 [.ref 1, .ref 3, .int 0, .ref 60, .ref 77, .ref 86, .ref 97, .int 0, .int 1, .ref 104, .ref 107, .ref 112, .null, .ref 116, .ref 120, .ref 121, .ref 122])) : PM g mX11_isBlank yX11_isBlank (pv_is (some (.int 0)) (h)) 1 0 0 [.ref 0, .int a1] h := by
  refine PM.of 0 (lo := [.ref 0, .int a1]) rfl (by decide) rfl rfl (Nat.le_of_ble_eq_true rfl) ?_
  refine pv_iload_n (M := mX11_isBlank) 1 dX11_isBlank_0 1 rfl rfl rfl ?_
  refine pv_if_lt (M := mX11_isBlank) (tgt := 16) dX11_isBlank_1 4 rfl (by decide) (fun c1 => ?_) (fun c1 => ?_)
  · refine pv_iconst (M := mX11_isBlank) (v := 0) dX11_isBlank_16 17 rfl (by decide) ?_
    exact pv_iret (M := mX11_isBlank) dX11_isBlank_17 rfl rfl ⟨rfl, rfl⟩
  · refine pv_iload_n (M := mX11_isBlank) 1 dX11_isBlank_4 5 rfl rfl rfl ?_
    refine pv_aload_n (M := mX11_isBlank) 0 dX11_isBlank_5 6 rfl rfl rfl ?_
    refine pv_get (M := mX11_isBlank) dX11_isBlank_6 FX11 2 wd409 (by decide) e0 rfl 9 rfl ?_
    refine pv_icmp_ge (M := mX11_isBlank) (tgt := 16) dX11_isBlank_9 12 rfl (by decide) (fun c2 => ?_) (fun c2 => ?_)
    · refine pv_iconst (M := mX11_isBlank) (v := 0) dX11_isBlank_16 17 rfl (by decide) ?_
      exact pv_iret (M := mX11_isBlank) dX11_isBlank_17 rfl rfl ⟨rfl, rfl⟩
    · exact absurd (Int.le_trans (pv_b2 c1) (pv_b8 c2)) (by decide)

set_option maxHeartbeats 400000 in
set_option maxRecDepth 20000 in
theorem k_X11_isPlace (g : pv_G) {h : List pv_C} (a1 : Int32) (a2 : Int32) (e0 : h[0]? = some (pv_o 11 [.ref 1, .ref 3, .int 0, .ref 60, .ref 77, .ref 86, .ref 97, .int 0, .int 1, .ref 104, .ref 107, .ref 112, .null, .ref 116, .ref 120, .ref 121, .ref 122])) : PM g mX11_isPlace yX11_isPlace (pv_is (some (.int 0)) (h)) 2 0 0 [.ref 0, .int a1, .int a2] h := by
  refine PM.of 0 (lo := [.ref 0, .int a1, .int a2]) rfl (by decide) rfl rfl (Nat.le_of_ble_eq_true rfl) ?_
  refine pv_aload_n (M := mX11_isPlace) 0 dX11_isPlace_0 1 rfl rfl rfl ?_
  refine pv_iload_n (M := mX11_isPlace) 1 dX11_isPlace_1 2 rfl rfl rfl ?_
  refine pv_callv (M := mX11_isPlace) (as := [.int a1]) (st := []) (kc2 := 0) (ks2 := 0) dX11_isPlace_2 wd700 YX11_isBlank ⟨wd702, wd16⟩ e0 rfl rfl (k_X11_isBlank g a1 e0) rfl rfl (Nat.le_of_ble_eq_true rfl) (by decide) rfl rfl 5 rfl (pv_k1 ?_)
  refine pv_if_eq (M := mX11_isPlace) (tgt := 32) dX11_isPlace_5 8 rfl (by decide) (fun _ => ?_) (fun q => absurd (by decide) q)
  refine pv_iconst (M := mX11_isPlace) (v := 0) dX11_isPlace_32 33 rfl (by decide) ?_
  exact pv_iret (M := mX11_isPlace) dX11_isPlace_33 rfl rfl ⟨rfl, rfl⟩

set_option maxHeartbeats 400000 in
set_option maxRecDepth 20000 in
theorem k_X11_left (g : pv_G) {h : List pv_C} (a1 : Int32) (a2 : Int32) (a3 : Int32) (e0 : h[0]? = some (pv_o 11 [.ref 1, .ref 3, .int 0, .ref 60, .ref 77, .ref 86, .ref 97, .int 0, .int 1, .ref 104, .ref 107, .ref 112, .null, .ref 116, .ref 120, .ref 121, .ref 122])) : PM g mX11_left yX11_left (pv_is (some (.int (-1))) (h)) 3 0 0 [.ref 0, .int a1, .int a2, .int a3] h := by
  refine PM.of 0 (lo := [.ref 0, .int a1, .int a2, .int a3]) rfl (by decide) rfl rfl (Nat.le_of_ble_eq_true rfl) ?_
  refine pv_aload_n (M := mX11_left) 0 dX11_left_0 1 rfl rfl rfl ?_
  refine pv_iload_n (M := mX11_left) 1 dX11_left_1 2 rfl rfl rfl ?_
  refine pv_iload_n (M := mX11_left) 2 dX11_left_2 3 rfl rfl rfl ?_
  refine pv_callv (M := mX11_left) (as := [.int a1, .int a2]) (st := []) (kc2 := 0) (ks2 := 0) dX11_left_3 wd696 YX11_isPlace ⟨wd698, wd15⟩ e0 rfl rfl (k_X11_isPlace g a1 a2 e0) rfl rfl (Nat.le_of_ble_eq_true rfl) (by decide) rfl rfl 6 rfl (pv_k1 ?_)
  refine pv_if_ne (M := mX11_left) (tgt := 11) dX11_left_6 9 rfl (by decide) (fun q => absurd (by decide) q) (fun _ => ?_)
  refine pv_iconst (M := mX11_left) (v := (-1)) dX11_left_9 10 rfl (by decide) ?_
  exact pv_iret (M := mX11_left) dX11_left_10 rfl rfl ⟨rfl, rfl⟩

set_option maxHeartbeats 400000 in
set_option maxRecDepth 20000 in
theorem k_X11_may (g : pv_G) {h : List pv_C} (a1 : Int32) (a2 : Int32) (a3 : Int32) (a4 : Int32) (e0 : h[0]? = some (pv_o 11 [.ref 1, .ref 3, .int 0, .ref 60, .ref 77, .ref 86, .ref 97, .int 0, .int 1, .ref 104, .ref 107, .ref 112, .null, .ref 116, .ref 120, .ref 121, .ref 122])) : PM g mX11_may yX11_may (pv_is (some (.int (-1))) (h)) 3 0 0 [.ref 0, .int a1, .int a2, .int a3, .int a4] h := by
  refine PM.of 0 (lo := [.ref 0, .int a1, .int a2, .int a3, .int a4]) rfl (by decide) rfl rfl (Nat.le_of_ble_eq_true rfl) ?_
  refine pv_aload_n (M := mX11_may) 0 dX11_may_0 1 rfl rfl rfl ?_
  refine pv_iload_n (M := mX11_may) 1 dX11_may_1 2 rfl rfl rfl ?_
  refine pv_iload_n (M := mX11_may) 2 dX11_may_2 3 rfl rfl rfl ?_
  refine pv_callv (M := mX11_may) (as := [.int a1, .int a2]) (st := []) (kc2 := 0) (ks2 := 0) dX11_may_3 wd696 YX11_isPlace ⟨wd698, wd15⟩ e0 rfl rfl (k_X11_isPlace g a1 a2 e0) rfl rfl (Nat.le_of_ble_eq_true rfl) (by decide) rfl rfl 6 rfl (pv_k1 ?_)
  refine pv_if_eq (M := mX11_may) (tgt := 27) dX11_may_6 9 rfl (by decide) (fun _ => ?_) (fun q => absurd (by decide) q)
  refine pv_iconst (M := mX11_may) (v := (-1)) dX11_may_27 28 rfl (by decide) ?_
  exact pv_iret (M := mX11_may) dX11_may_28 rfl rfl ⟨rfl, rfl⟩

set_option maxHeartbeats 400000 in
set_option maxRecDepth 20000 in
theorem k_X11_strike (g : pv_G) {h : List pv_C} (a1 : Int32) (a2 : Int32) (a3 : Int32) (a4 : Int32) (e0 : h[0]? = some (pv_o 11 [.ref 1, .ref 3, .int 0, .ref 60, .ref 77, .ref 86, .ref 97, .int 0, .int 1, .ref 104, .ref 107, .ref 112, .null, .ref 116, .ref 120, .ref 121, .ref 122])) : PM g mX11_strike yX11_strike (pv_is (some (.int (-1))) (h)) 3 0 0 [.ref 0, .int a1, .int a2, .int a3, .int a4] h := by
  refine PM.of 1 (lo := [.ref 0, .int a1, .int a2, .int a3, .int a4, pv_U]) rfl (by decide) rfl rfl (Nat.le_of_ble_eq_true rfl) ?_
  refine pv_aload_n (M := mX11_strike) 0 dX11_strike_0 1 rfl rfl rfl ?_
  refine pv_iload_n (M := mX11_strike) 1 dX11_strike_1 2 rfl rfl rfl ?_
  refine pv_iload_n (M := mX11_strike) 2 dX11_strike_2 3 rfl rfl rfl ?_
  refine pv_callv (M := mX11_strike) (as := [.int a1, .int a2]) (st := []) (kc2 := 0) (ks2 := 0) dX11_strike_3 wd696 YX11_isPlace ⟨wd698, wd15⟩ e0 rfl rfl (k_X11_isPlace g a1 a2 e0) rfl rfl (Nat.le_of_ble_eq_true rfl) (by decide) rfl rfl 6 rfl (pv_k1 ?_)
  refine pv_if_eq (M := mX11_strike) (tgt := 28) dX11_strike_6 9 rfl (by decide) (fun _ => ?_) (fun q => absurd (by decide) q)
  refine pv_iconst (M := mX11_strike) (v := (-1)) dX11_strike_28 29 rfl (by decide) ?_
  exact pv_iret (M := mX11_strike) dX11_strike_29 rfl rfl ⟨rfl, rfl⟩

set_option maxHeartbeats 400000 in
set_option maxRecDepth 20000 in
theorem k_X1_lastOf (g : pv_G) {h : List pv_C} (a1 : Int32) (e97 : h[97]? = some (pv_o 1 [.ref 98, .ref 99, .ref 100, .ref 101, .ref 102, .ref 103, .int 0])) : PM g mX1_lastOf yX1_lastOf (pv_is (some (.int (-1))) (h)) 1 0 0 [.ref 97, .int a1] h := by
  refine PM.of 1 (lo := [.ref 97, .int a1, pv_U]) rfl (by decide) rfl rfl (Nat.le_of_ble_eq_true rfl) ?_
  refine pv_aload_n (M := mX1_lastOf) 0 dX1_lastOf_0 1 rfl rfl rfl ?_
  refine pv_get (M := mX1_lastOf) dX1_lastOf_1 FX1 6 wd309 (by decide) e97 rfl 4 rfl ?_
  refine pv_iconst (M := mX1_lastOf) (v := 1) dX1_lastOf_4 5 rfl (by decide) ?_
  refine pv_isub (M := mX1_lastOf) (v := (-1)) dX1_lastOf_5 6 rfl (by decide) ?_
  refine pv_istore_n (M := mX1_lastOf) 2 (lo2 := [.ref 97, .int a1, .int (-1)]) dX1_lastOf_6 7 rfl rfl (by decide) rfl rfl ?_
  refine pv_iload_n (M := mX1_lastOf) 2 dX1_lastOf_7 8 rfl rfl rfl ?_
  refine pv_if_lt (M := mX1_lastOf) (tgt := 29) dX1_lastOf_8 11 rfl (by decide) (fun _ => ?_) (fun q => absurd (by decide) q)
  refine pv_iconst (M := mX1_lastOf) (v := (-1)) dX1_lastOf_29 30 rfl (by decide) ?_
  exact pv_iret (M := mX1_lastOf) dX1_lastOf_30 rfl rfl ⟨rfl, rfl⟩

set_option maxHeartbeats 400000 in
set_option maxRecDepth 20000 in
theorem k_X11_back (g : pv_G) {h : List pv_C} (a1 : Int32) (e0 : h[0]? = some (pv_o 11 [.ref 1, .ref 3, .int 0, .ref 60, .ref 77, .ref 86, .ref 97, .int 0, .int 1, .ref 104, .ref 107, .ref 112, .null, .ref 116, .ref 120, .ref 121, .ref 122])) (e97 : h[97]? = some (pv_o 1 [.ref 98, .ref 99, .ref 100, .ref 101, .ref 102, .ref 103, .int 0])) : PM g mX11_back yX11_back (pv_is (some (.int (-1))) (h)) 2 0 0 [.ref 0, .int a1] h := by
  refine PM.of 3 (lo := [.ref 0, .int a1, pv_U, pv_U, pv_U]) rfl (by decide) rfl rfl (Nat.le_of_ble_eq_true rfl) ?_
  refine pv_aload_n (M := mX11_back) 0 dX11_back_0 1 rfl rfl rfl ?_
  refine pv_get (M := mX11_back) dX11_back_1 FX11 6 wd413 (by decide) e0 rfl 4 rfl ?_
  refine pv_iload_n (M := mX11_back) 1 dX11_back_4 5 rfl rfl rfl ?_
  refine pv_callv (M := mX11_back) (as := [.int a1]) (st := []) (kc2 := 0) (ks2 := 0) dX11_back_5 wd798 YX1_lastOf ⟨wd799, wd800⟩ e97 rfl rfl (k_X1_lastOf g a1 e97) rfl rfl (Nat.le_of_ble_eq_true rfl) (by decide) rfl rfl 8 rfl (pv_k1 ?_)
  refine pv_istore_n (M := mX11_back) 2 (lo2 := [.ref 0, .int a1, .int (-1), pv_U, pv_U]) dX11_back_8 9 rfl rfl (by decide) rfl rfl ?_
  refine pv_aload_n (M := mX11_back) 0 dX11_back_9 10 rfl rfl rfl ?_
  refine pv_iload_n (M := mX11_back) 1 dX11_back_10 11 rfl rfl rfl ?_
  refine pv_callv (M := mX11_back) (as := [.int a1]) (st := []) (kc2 := 0) (ks2 := 0) dX11_back_11 wd700 YX11_isBlank ⟨wd702, wd16⟩ e0 rfl rfl (k_X11_isBlank g a1 e0) rfl rfl (Nat.le_of_ble_eq_true rfl) (by decide) rfl rfl 14 rfl (pv_k1 ?_)
  refine pv_if_eq (M := mX11_back) (tgt := 22) dX11_back_14 17 rfl (by decide) (fun _ => ?_) (fun q => absurd (by decide) q)
  refine pv_iconst (M := mX11_back) (v := (-1)) dX11_back_22 23 rfl (by decide) ?_
  exact pv_iret (M := mX11_back) dX11_back_23 rfl rfl ⟨rfl, rfl⟩

set_option maxHeartbeats 400000 in
set_option maxRecDepth 20000 in
theorem k_X1_tell (g : pv_G) {h : List pv_C} (a1 : Int32) (a2 : Int32) (e97 : h[97]? = some (pv_o 1 [.ref 98, .ref 99, .ref 100, .ref 101, .ref 102, .ref 103, .int 0])) : PM g mX1_tell yX1_tell (pv_is (some (.int (-1000))) (h)) 1 0 0 [.ref 97, .int a1, .int a2] h := by
  refine PM.of 0 (lo := [.ref 97, .int a1, .int a2]) rfl (by decide) rfl rfl (Nat.le_of_ble_eq_true rfl) ?_
  refine pv_iload_n (M := mX1_tell) 1 dX1_tell_0 1 rfl rfl rfl ?_
  refine pv_if_lt (M := mX1_tell) (tgt := 12) dX1_tell_1 4 rfl (by decide) (fun c1 => ?_) (fun c1 => ?_)
  · refine pv_sipush (M := mX1_tell) (v := (-1000)) dX1_tell_12 15 rfl (by decide) ?_
    exact pv_iret (M := mX1_tell) dX1_tell_15 rfl rfl ⟨rfl, rfl⟩
  · refine pv_iload_n (M := mX1_tell) 1 dX1_tell_4 5 rfl rfl rfl ?_
    refine pv_aload_n (M := mX1_tell) 0 dX1_tell_5 6 rfl rfl rfl ?_
    refine pv_get (M := mX1_tell) dX1_tell_6 FX1 6 wd309 (by decide) e97 rfl 9 rfl ?_
    refine pv_icmp_lt (M := mX1_tell) (tgt := 16) dX1_tell_9 12 rfl (by decide) (fun c2 => ?_) (fun c2 => ?_)
    · exact absurd (Int.le_trans (pv_b2 c1) (pv_b1 c2)) (by decide)
    · refine pv_sipush (M := mX1_tell) (v := (-1000)) dX1_tell_12 15 rfl (by decide) ?_
      exact pv_iret (M := mX1_tell) dX1_tell_15 rfl rfl ⟨rfl, rfl⟩

set_option maxHeartbeats 400000 in
set_option maxRecDepth 20000 in
theorem k_X11_book (g : pv_G) {h : List pv_C} (a1 : Int32) (a2 : Int32) (e0 : h[0]? = some (pv_o 11 [.ref 1, .ref 3, .int 0, .ref 60, .ref 77, .ref 86, .ref 97, .int 0, .int 1, .ref 104, .ref 107, .ref 112, .null, .ref 116, .ref 120, .ref 121, .ref 122])) (e97 : h[97]? = some (pv_o 1 [.ref 98, .ref 99, .ref 100, .ref 101, .ref 102, .ref 103, .int 0])) : PM g mX11_book yX11_book (pv_is (some (.int (-1000))) (h)) 2 0 0 [.ref 0, .int a1, .int a2] h := by
  refine PM.of 0 (lo := [.ref 0, .int a1, .int a2]) rfl (by decide) rfl rfl (Nat.le_of_ble_eq_true rfl) ?_
  refine pv_aload_n (M := mX11_book) 0 dX11_book_0 1 rfl rfl rfl ?_
  refine pv_get (M := mX11_book) dX11_book_1 FX11 6 wd413 (by decide) e0 rfl 4 rfl ?_
  refine pv_iload_n (M := mX11_book) 1 dX11_book_4 5 rfl rfl rfl ?_
  refine pv_iload_n (M := mX11_book) 2 dX11_book_5 6 rfl rfl rfl ?_
  refine pv_callv (M := mX11_book) (as := [.int a1, .int a2]) (st := []) (kc2 := 0) (ks2 := 0) dX11_book_6 wd819 YX1_tell ⟨wd820, wd821⟩ e97 rfl rfl (k_X1_tell g a1 a2 e97) rfl rfl (Nat.le_of_ble_eq_true rfl) (by decide) rfl rfl 9 rfl (pv_k1 ?_)
  exact pv_iret (M := mX11_book) dX11_book_9 rfl rfl ⟨rfl, rfl⟩

set_option maxHeartbeats 400000 in
set_option maxRecDepth 20000 in
theorem k_X11_ways (g : pv_G) {h : List pv_C} (a1 : Int32) (a2 : Int32) (e0 : h[0]? = some (pv_o 11 [.ref 1, .ref 3, .int 0, .ref 60, .ref 77, .ref 86, .ref 97, .int 0, .int 1, .ref 104, .ref 107, .ref 112, .null, .ref 116, .ref 120, .ref 121, .ref 122])) : PM g mX11_ways yX11_ways (pv_is (some (.long (-1))) (h)) 2 0 0 [.ref 0, .int a1, .int a2] h := by
  refine PM.of 0 (lo := [.ref 0, .int a1, .int a2]) rfl (by decide) rfl rfl (Nat.le_of_ble_eq_true rfl) ?_
  refine pv_aload_n (M := mX11_ways) 0 dX11_ways_0 1 rfl rfl rfl ?_
  refine pv_iload_n (M := mX11_ways) 1 dX11_ways_1 2 rfl rfl rfl ?_
  refine pv_callv (M := mX11_ways) (as := [.int a1]) (st := []) (kc2 := 0) (ks2 := 0) dX11_ways_2 wd700 YX11_isBlank ⟨wd702, wd16⟩ e0 rfl rfl (k_X11_isBlank g a1 e0) rfl rfl (Nat.le_of_ble_eq_true rfl) (by decide) rfl rfl 5 rfl (pv_k1 ?_)
  refine pv_if_eq (M := mX11_ways) (tgt := 16) dX11_ways_5 8 rfl (by decide) (fun _ => ?_) (fun q => absurd (by decide) q)
  refine pv_ldc2 (M := mX11_ways) (v := (-1)) dX11_ways_16 19 rfl wd832 ?_
  exact pv_lret (M := mX11_ways) dX11_ways_19 rfl ⟨rfl, rfl⟩

set_option maxHeartbeats 400000 in
set_option maxRecDepth 20000 in
theorem k_X11_cheapest (g : pv_G) {h : List pv_C} (a1 : Int32) (a2 : Int32) (a3 : Int32) (a4 : Int32) (e0 : h[0]? = some (pv_o 11 [.ref 1, .ref 3, .int 0, .ref 60, .ref 77, .ref 86, .ref 97, .int 0, .int 1, .ref 104, .ref 107, .ref 112, .null, .ref 116, .ref 120, .ref 121, .ref 122])) : PM g mX11_cheapest yX11_cheapest (pv_is (some (.int (-1))) (h)) 2 0 0 [.ref 0, .int a1, .int a2, .int a3, .int a4] h := by
  refine PM.of 1 (lo := [.ref 0, .int a1, .int a2, .int a3, .int a4, pv_U]) rfl (by decide) rfl rfl (Nat.le_of_ble_eq_true rfl) ?_
  refine pv_aload_n (M := mX11_cheapest) 0 dX11_cheapest_0 1 rfl rfl rfl ?_
  refine pv_iload_n (M := mX11_cheapest) 1 dX11_cheapest_1 2 rfl rfl rfl ?_
  refine pv_callv (M := mX11_cheapest) (as := [.int a1]) (st := []) (kc2 := 0) (ks2 := 0) dX11_cheapest_2 wd700 YX11_isBlank ⟨wd702, wd16⟩ e0 rfl rfl (k_X11_isBlank g a1 e0) rfl rfl (Nat.le_of_ble_eq_true rfl) (by decide) rfl rfl 5 rfl (pv_k1 ?_)
  refine pv_if_eq (M := mX11_cheapest) (tgt := 23) dX11_cheapest_5 8 rfl (by decide) (fun _ => ?_) (fun q => absurd (by decide) q)
  refine pv_iconst (M := mX11_cheapest) (v := (-1)) dX11_cheapest_23 24 rfl (by decide) ?_
  exact pv_iret (M := mX11_cheapest) dX11_cheapest_24 rfl rfl ⟨rfl, rfl⟩

set_option maxHeartbeats 400000 in
set_option maxRecDepth 20000 in
theorem k_X11_done (g : pv_G) {h : List pv_C} (a1 : Int32) (a2 : Int32) (a3 : Int32) (e0 : h[0]? = some (pv_o 11 [.ref 1, .ref 3, .int 0, .ref 60, .ref 77, .ref 86, .ref 97, .int 0, .int 1, .ref 104, .ref 107, .ref 112, .null, .ref 116, .ref 120, .ref 121, .ref 122])) : PM g mX11_done yX11_done (pv_is (some (.int (-1))) (h)) 2 0 0 [.ref 0, .int a1, .int a2, .int a3] h := by
  refine PM.of 4 (lo := [.ref 0, .int a1, .int a2, .int a3, pv_U, pv_U, pv_U, pv_U]) rfl (by decide) rfl rfl (Nat.le_of_ble_eq_true rfl) ?_
  refine pv_aload_n (M := mX11_done) 0 dX11_done_0 1 rfl rfl rfl ?_
  refine pv_iload_n (M := mX11_done) 1 dX11_done_1 2 rfl rfl rfl ?_
  refine pv_callv (M := mX11_done) (as := [.int a1]) (st := []) (kc2 := 0) (ks2 := 0) dX11_done_2 wd700 YX11_isBlank ⟨wd702, wd16⟩ e0 rfl rfl (k_X11_isBlank g a1 e0) rfl rfl (Nat.le_of_ble_eq_true rfl) (by decide) rfl rfl 5 rfl (pv_k1 ?_)
  refine pv_if_eq (M := mX11_done) (tgt := 23) dX11_done_5 8 rfl (by decide) (fun _ => ?_) (fun q => absurd (by decide) q)
  refine pv_iconst (M := mX11_done) (v := (-1)) dX11_done_23 24 rfl (by decide) ?_
  exact pv_iret (M := mX11_done) dX11_done_24 rfl rfl ⟨rfl, rfl⟩

set_option maxHeartbeats 400000 in
set_option maxRecDepth 20000 in
theorem k_X11_strokes (g : pv_G) {h : List pv_C} (a1 : Int32) (a2 : Int32) (a3 : Int32) (e0 : h[0]? = some (pv_o 11 [.ref 1, .ref 3, .int 0, .ref 60, .ref 77, .ref 86, .ref 97, .int 0, .int 1, .ref 104, .ref 107, .ref 112, .null, .ref 116, .ref 120, .ref 121, .ref 122])) : PM g mX11_strokes yX11_strokes (pv_is (some (.int (-1))) (h)) 2 0 0 [.ref 0, .int a1, .int a2, .int a3] h := by
  refine PM.of 1 (lo := [.ref 0, .int a1, .int a2, .int a3, pv_U]) rfl (by decide) rfl rfl (Nat.le_of_ble_eq_true rfl) ?_
  refine pv_aload_n (M := mX11_strokes) 0 dX11_strokes_0 1 rfl rfl rfl ?_
  refine pv_iload_n (M := mX11_strokes) 1 dX11_strokes_1 2 rfl rfl rfl ?_
  refine pv_callv (M := mX11_strokes) (as := [.int a1]) (st := []) (kc2 := 0) (ks2 := 0) dX11_strokes_2 wd700 YX11_isBlank ⟨wd702, wd16⟩ e0 rfl rfl (k_X11_isBlank g a1 e0) rfl rfl (Nat.le_of_ble_eq_true rfl) (by decide) rfl rfl 5 rfl (pv_k1 ?_)
  refine pv_if_eq (M := mX11_strokes) (tgt := 23) dX11_strokes_5 8 rfl (by decide) (fun _ => ?_) (fun q => absurd (by decide) q)
  refine pv_iconst (M := mX11_strokes) (v := (-1)) dX11_strokes_23 24 rfl (by decide) ?_
  exact pv_iret (M := mX11_strokes) dX11_strokes_24 rfl rfl ⟨rfl, rfl⟩

set_option maxHeartbeats 400000 in
set_option maxRecDepth 20000 in
theorem k_X11_even (g : pv_G) {h : List pv_C} (a1 : Int32) (a2 : Int32) (a3 : Int32) (e0 : h[0]? = some (pv_o 11 [.ref 1, .ref 3, .int 0, .ref 60, .ref 77, .ref 86, .ref 97, .int 0, .int 1, .ref 104, .ref 107, .ref 112, .null, .ref 116, .ref 120, .ref 121, .ref 122])) : PM g mX11_even yX11_even (pv_is (some (.long (-1))) (h)) 2 0 0 [.ref 0, .int a1, .int a2, .int a3] h := by
  refine PM.of 0 (lo := [.ref 0, .int a1, .int a2, .int a3]) rfl (by decide) rfl rfl (Nat.le_of_ble_eq_true rfl) ?_
  refine pv_aload_n (M := mX11_even) 0 dX11_even_0 1 rfl rfl rfl ?_
  refine pv_iload_n (M := mX11_even) 1 dX11_even_1 2 rfl rfl rfl ?_
  refine pv_callv (M := mX11_even) (as := [.int a1]) (st := []) (kc2 := 0) (ks2 := 0) dX11_even_2 wd700 YX11_isBlank ⟨wd702, wd16⟩ e0 rfl rfl (k_X11_isBlank g a1 e0) rfl rfl (Nat.le_of_ble_eq_true rfl) (by decide) rfl rfl 5 rfl (pv_k1 ?_)
  refine pv_if_eq (M := mX11_even) (tgt := 23) dX11_even_5 8 rfl (by decide) (fun _ => ?_) (fun q => absurd (by decide) q)
  refine pv_ldc2 (M := mX11_even) (v := (-1)) dX11_even_23 26 rfl wd832 ?_
  exact pv_lret (M := mX11_even) dX11_even_26 rfl ⟨rfl, rfl⟩

def bcnt (a0 : Int32) : Int32 := (((((((a0 - (((a0.toUInt32 >>> ((1 : Int32).toUInt32 &&& Int32.toUInt32 31)).toInt32) &&& 1431655765)) &&& 858993459) + ((((a0 - (((a0.toUInt32 >>> ((1 : Int32).toUInt32 &&& Int32.toUInt32 31)).toInt32) &&& 1431655765)).toUInt32 >>> ((2 : Int32).toUInt32 &&& Int32.toUInt32 31)).toInt32) &&& 858993459)) + (((((a0 - (((a0.toUInt32 >>> ((1 : Int32).toUInt32 &&& Int32.toUInt32 31)).toInt32) &&& 1431655765)) &&& 858993459) + ((((a0 - (((a0.toUInt32 >>> ((1 : Int32).toUInt32 &&& Int32.toUInt32 31)).toInt32) &&& 1431655765)).toUInt32 >>> ((2 : Int32).toUInt32 &&& Int32.toUInt32 31)).toInt32) &&& 858993459)).toUInt32 >>> ((4 : Int32).toUInt32 &&& Int32.toUInt32 31)).toInt32)) &&& 252645135) + (((((((a0 - (((a0.toUInt32 >>> ((1 : Int32).toUInt32 &&& Int32.toUInt32 31)).toInt32) &&& 1431655765)) &&& 858993459) + ((((a0 - (((a0.toUInt32 >>> ((1 : Int32).toUInt32 &&& Int32.toUInt32 31)).toInt32) &&& 1431655765)).toUInt32 >>> ((2 : Int32).toUInt32 &&& Int32.toUInt32 31)).toInt32) &&& 858993459)) + (((((a0 - (((a0.toUInt32 >>> ((1 : Int32).toUInt32 &&& Int32.toUInt32 31)).toInt32) &&& 1431655765)) &&& 858993459) + ((((a0 - (((a0.toUInt32 >>> ((1 : Int32).toUInt32 &&& Int32.toUInt32 31)).toInt32) &&& 1431655765)).toUInt32 >>> ((2 : Int32).toUInt32 &&& Int32.toUInt32 31)).toInt32) &&& 858993459)).toUInt32 >>> ((4 : Int32).toUInt32 &&& Int32.toUInt32 31)).toInt32)) &&& 252645135).toUInt32 >>> ((8 : Int32).toUInt32 &&& Int32.toUInt32 31)).toInt32)) + ((((((((a0 - (((a0.toUInt32 >>> ((1 : Int32).toUInt32 &&& Int32.toUInt32 31)).toInt32) &&& 1431655765)) &&& 858993459) + ((((a0 - (((a0.toUInt32 >>> ((1 : Int32).toUInt32 &&& Int32.toUInt32 31)).toInt32) &&& 1431655765)).toUInt32 >>> ((2 : Int32).toUInt32 &&& Int32.toUInt32 31)).toInt32) &&& 858993459)) + (((((a0 - (((a0.toUInt32 >>> ((1 : Int32).toUInt32 &&& Int32.toUInt32 31)).toInt32) &&& 1431655765)) &&& 858993459) + ((((a0 - (((a0.toUInt32 >>> ((1 : Int32).toUInt32 &&& Int32.toUInt32 31)).toInt32) &&& 1431655765)).toUInt32 >>> ((2 : Int32).toUInt32 &&& Int32.toUInt32 31)).toInt32) &&& 858993459)).toUInt32 >>> ((4 : Int32).toUInt32 &&& Int32.toUInt32 31)).toInt32)) &&& 252645135) + (((((((a0 - (((a0.toUInt32 >>> ((1 : Int32).toUInt32 &&& Int32.toUInt32 31)).toInt32) &&& 1431655765)) &&& 858993459) + ((((a0 - (((a0.toUInt32 >>> ((1 : Int32).toUInt32 &&& Int32.toUInt32 31)).toInt32) &&& 1431655765)).toUInt32 >>> ((2 : Int32).toUInt32 &&& Int32.toUInt32 31)).toInt32) &&& 858993459)) + (((((a0 - (((a0.toUInt32 >>> ((1 : Int32).toUInt32 &&& Int32.toUInt32 31)).toInt32) &&& 1431655765)) &&& 858993459) + ((((a0 - (((a0.toUInt32 >>> ((1 : Int32).toUInt32 &&& Int32.toUInt32 31)).toInt32) &&& 1431655765)).toUInt32 >>> ((2 : Int32).toUInt32 &&& Int32.toUInt32 31)).toInt32) &&& 858993459)).toUInt32 >>> ((4 : Int32).toUInt32 &&& Int32.toUInt32 31)).toInt32)) &&& 252645135).toUInt32 >>> ((8 : Int32).toUInt32 &&& Int32.toUInt32 31)).toInt32)).toUInt32 >>> ((16 : Int32).toUInt32 &&& Int32.toUInt32 31)).toInt32)) &&& 63

set_option maxHeartbeats 400000 in
set_option maxRecDepth 20000 in
theorem k_J6_bitCount_0f7a4 (g : pv_G) {h : List pv_C} (a0 : Int32) : PM g mJ6_bitCount_0f7a4 yJ6_bitCount_0f7a4 (pv_is (some (.int (bcnt a0))) (h)) 1 0 0 [.int a0] h := by
  refine PM.of 0 (lo := [.int a0]) rfl (by decide) rfl rfl (Nat.le_of_ble_eq_true rfl) ?_
  refine pv_iload_n (M := mJ6_bitCount_0f7a4) 0 dJ6_bitCount_0f7a4_0 1 rfl rfl rfl ?_
  refine pv_iload_n (M := mJ6_bitCount_0f7a4) 0 dJ6_bitCount_0f7a4_1 2 rfl rfl rfl ?_
  refine pv_iconst (M := mJ6_bitCount_0f7a4) (v := 1) dJ6_bitCount_0f7a4_2 3 rfl (by decide) ?_
  refine pv_iushr (M := mJ6_bitCount_0f7a4) dJ6_bitCount_0f7a4_3 4 rfl rfl ?_
  refine pv_ldcw (M := mJ6_bitCount_0f7a4) (v := 1431655765) dJ6_bitCount_0f7a4_4 7 rfl wd916 ?_
  refine pv_iand (M := mJ6_bitCount_0f7a4) (v := ((a0.toUInt32 >>> ((1 : Int32).toUInt32 &&& Int32.toUInt32 31)).toInt32) &&& 1431655765) dJ6_bitCount_0f7a4_7 8 rfl rfl ?_
  refine pv_isub (M := mJ6_bitCount_0f7a4) (v := a0 - (((a0.toUInt32 >>> ((1 : Int32).toUInt32 &&& Int32.toUInt32 31)).toInt32) &&& 1431655765)) dJ6_bitCount_0f7a4_8 9 rfl rfl ?_
  refine pv_istore_n (M := mJ6_bitCount_0f7a4) 0 (lo2 := [.int (a0 - (((a0.toUInt32 >>> ((1 : Int32).toUInt32 &&& Int32.toUInt32 31)).toInt32) &&& 1431655765))]) dJ6_bitCount_0f7a4_9 10 rfl rfl (by decide) rfl rfl ?_
  refine pv_iload_n (M := mJ6_bitCount_0f7a4) 0 dJ6_bitCount_0f7a4_10 11 rfl rfl rfl ?_
  refine pv_ldcw (M := mJ6_bitCount_0f7a4) (v := 858993459) dJ6_bitCount_0f7a4_11 14 rfl wd917 ?_
  refine pv_iand (M := mJ6_bitCount_0f7a4) (v := (a0 - (((a0.toUInt32 >>> ((1 : Int32).toUInt32 &&& Int32.toUInt32 31)).toInt32) &&& 1431655765)) &&& 858993459) dJ6_bitCount_0f7a4_14 15 rfl rfl ?_
  refine pv_iload_n (M := mJ6_bitCount_0f7a4) 0 dJ6_bitCount_0f7a4_15 16 rfl rfl rfl ?_
  refine pv_iconst (M := mJ6_bitCount_0f7a4) (v := 2) dJ6_bitCount_0f7a4_16 17 rfl (by decide) ?_
  refine pv_iushr (M := mJ6_bitCount_0f7a4) dJ6_bitCount_0f7a4_17 18 rfl rfl ?_
  refine pv_ldcw (M := mJ6_bitCount_0f7a4) (v := 858993459) dJ6_bitCount_0f7a4_18 21 rfl wd917 ?_
  refine pv_iand (M := mJ6_bitCount_0f7a4) (v := (((a0 - (((a0.toUInt32 >>> ((1 : Int32).toUInt32 &&& Int32.toUInt32 31)).toInt32) &&& 1431655765)).toUInt32 >>> ((2 : Int32).toUInt32 &&& Int32.toUInt32 31)).toInt32) &&& 858993459) dJ6_bitCount_0f7a4_21 22 rfl rfl ?_
  refine pv_iadd (M := mJ6_bitCount_0f7a4) (v := ((a0 - (((a0.toUInt32 >>> ((1 : Int32).toUInt32 &&& Int32.toUInt32 31)).toInt32) &&& 1431655765)) &&& 858993459) + ((((a0 - (((a0.toUInt32 >>> ((1 : Int32).toUInt32 &&& Int32.toUInt32 31)).toInt32) &&& 1431655765)).toUInt32 >>> ((2 : Int32).toUInt32 &&& Int32.toUInt32 31)).toInt32) &&& 858993459)) dJ6_bitCount_0f7a4_22 23 rfl rfl ?_
  refine pv_istore_n (M := mJ6_bitCount_0f7a4) 0 (lo2 := [.int (((a0 - (((a0.toUInt32 >>> ((1 : Int32).toUInt32 &&& Int32.toUInt32 31)).toInt32) &&& 1431655765)) &&& 858993459) + ((((a0 - (((a0.toUInt32 >>> ((1 : Int32).toUInt32 &&& Int32.toUInt32 31)).toInt32) &&& 1431655765)).toUInt32 >>> ((2 : Int32).toUInt32 &&& Int32.toUInt32 31)).toInt32) &&& 858993459))]) dJ6_bitCount_0f7a4_23 24 rfl rfl (by decide) rfl rfl ?_
  refine pv_iload_n (M := mJ6_bitCount_0f7a4) 0 dJ6_bitCount_0f7a4_24 25 rfl rfl rfl ?_
  refine pv_iload_n (M := mJ6_bitCount_0f7a4) 0 dJ6_bitCount_0f7a4_25 26 rfl rfl rfl ?_
  refine pv_iconst (M := mJ6_bitCount_0f7a4) (v := 4) dJ6_bitCount_0f7a4_26 27 rfl (by decide) ?_
  refine pv_iushr (M := mJ6_bitCount_0f7a4) dJ6_bitCount_0f7a4_27 28 rfl rfl ?_
  refine pv_iadd (M := mJ6_bitCount_0f7a4) (v := (((a0 - (((a0.toUInt32 >>> ((1 : Int32).toUInt32 &&& Int32.toUInt32 31)).toInt32) &&& 1431655765)) &&& 858993459) + ((((a0 - (((a0.toUInt32 >>> ((1 : Int32).toUInt32 &&& Int32.toUInt32 31)).toInt32) &&& 1431655765)).toUInt32 >>> ((2 : Int32).toUInt32 &&& Int32.toUInt32 31)).toInt32) &&& 858993459)) + (((((a0 - (((a0.toUInt32 >>> ((1 : Int32).toUInt32 &&& Int32.toUInt32 31)).toInt32) &&& 1431655765)) &&& 858993459) + ((((a0 - (((a0.toUInt32 >>> ((1 : Int32).toUInt32 &&& Int32.toUInt32 31)).toInt32) &&& 1431655765)).toUInt32 >>> ((2 : Int32).toUInt32 &&& Int32.toUInt32 31)).toInt32) &&& 858993459)).toUInt32 >>> ((4 : Int32).toUInt32 &&& Int32.toUInt32 31)).toInt32)) dJ6_bitCount_0f7a4_28 29 rfl rfl ?_
  refine pv_ldcw (M := mJ6_bitCount_0f7a4) (v := 252645135) dJ6_bitCount_0f7a4_29 32 rfl wd918 ?_
  refine pv_iand (M := mJ6_bitCount_0f7a4) (v := ((((a0 - (((a0.toUInt32 >>> ((1 : Int32).toUInt32 &&& Int32.toUInt32 31)).toInt32) &&& 1431655765)) &&& 858993459) + ((((a0 - (((a0.toUInt32 >>> ((1 : Int32).toUInt32 &&& Int32.toUInt32 31)).toInt32) &&& 1431655765)).toUInt32 >>> ((2 : Int32).toUInt32 &&& Int32.toUInt32 31)).toInt32) &&& 858993459)) + (((((a0 - (((a0.toUInt32 >>> ((1 : Int32).toUInt32 &&& Int32.toUInt32 31)).toInt32) &&& 1431655765)) &&& 858993459) + ((((a0 - (((a0.toUInt32 >>> ((1 : Int32).toUInt32 &&& Int32.toUInt32 31)).toInt32) &&& 1431655765)).toUInt32 >>> ((2 : Int32).toUInt32 &&& Int32.toUInt32 31)).toInt32) &&& 858993459)).toUInt32 >>> ((4 : Int32).toUInt32 &&& Int32.toUInt32 31)).toInt32)) &&& 252645135) dJ6_bitCount_0f7a4_32 33 rfl rfl ?_
  refine pv_istore_n (M := mJ6_bitCount_0f7a4) 0 (lo2 := [.int (((((a0 - (((a0.toUInt32 >>> ((1 : Int32).toUInt32 &&& Int32.toUInt32 31)).toInt32) &&& 1431655765)) &&& 858993459) + ((((a0 - (((a0.toUInt32 >>> ((1 : Int32).toUInt32 &&& Int32.toUInt32 31)).toInt32) &&& 1431655765)).toUInt32 >>> ((2 : Int32).toUInt32 &&& Int32.toUInt32 31)).toInt32) &&& 858993459)) + (((((a0 - (((a0.toUInt32 >>> ((1 : Int32).toUInt32 &&& Int32.toUInt32 31)).toInt32) &&& 1431655765)) &&& 858993459) + ((((a0 - (((a0.toUInt32 >>> ((1 : Int32).toUInt32 &&& Int32.toUInt32 31)).toInt32) &&& 1431655765)).toUInt32 >>> ((2 : Int32).toUInt32 &&& Int32.toUInt32 31)).toInt32) &&& 858993459)).toUInt32 >>> ((4 : Int32).toUInt32 &&& Int32.toUInt32 31)).toInt32)) &&& 252645135)]) dJ6_bitCount_0f7a4_33 34 rfl rfl (by decide) rfl rfl ?_
  refine pv_iload_n (M := mJ6_bitCount_0f7a4) 0 dJ6_bitCount_0f7a4_34 35 rfl rfl rfl ?_
  refine pv_iload_n (M := mJ6_bitCount_0f7a4) 0 dJ6_bitCount_0f7a4_35 36 rfl rfl rfl ?_
  refine pv_bipush (M := mJ6_bitCount_0f7a4) (v := 8) dJ6_bitCount_0f7a4_36 38 rfl (by decide) ?_
  refine pv_iushr (M := mJ6_bitCount_0f7a4) dJ6_bitCount_0f7a4_38 39 rfl rfl ?_
  refine pv_iadd (M := mJ6_bitCount_0f7a4) (v := (((((a0 - (((a0.toUInt32 >>> ((1 : Int32).toUInt32 &&& Int32.toUInt32 31)).toInt32) &&& 1431655765)) &&& 858993459) + ((((a0 - (((a0.toUInt32 >>> ((1 : Int32).toUInt32 &&& Int32.toUInt32 31)).toInt32) &&& 1431655765)).toUInt32 >>> ((2 : Int32).toUInt32 &&& Int32.toUInt32 31)).toInt32) &&& 858993459)) + (((((a0 - (((a0.toUInt32 >>> ((1 : Int32).toUInt32 &&& Int32.toUInt32 31)).toInt32) &&& 1431655765)) &&& 858993459) + ((((a0 - (((a0.toUInt32 >>> ((1 : Int32).toUInt32 &&& Int32.toUInt32 31)).toInt32) &&& 1431655765)).toUInt32 >>> ((2 : Int32).toUInt32 &&& Int32.toUInt32 31)).toInt32) &&& 858993459)).toUInt32 >>> ((4 : Int32).toUInt32 &&& Int32.toUInt32 31)).toInt32)) &&& 252645135) + (((((((a0 - (((a0.toUInt32 >>> ((1 : Int32).toUInt32 &&& Int32.toUInt32 31)).toInt32) &&& 1431655765)) &&& 858993459) + ((((a0 - (((a0.toUInt32 >>> ((1 : Int32).toUInt32 &&& Int32.toUInt32 31)).toInt32) &&& 1431655765)).toUInt32 >>> ((2 : Int32).toUInt32 &&& Int32.toUInt32 31)).toInt32) &&& 858993459)) + (((((a0 - (((a0.toUInt32 >>> ((1 : Int32).toUInt32 &&& Int32.toUInt32 31)).toInt32) &&& 1431655765)) &&& 858993459) + ((((a0 - (((a0.toUInt32 >>> ((1 : Int32).toUInt32 &&& Int32.toUInt32 31)).toInt32) &&& 1431655765)).toUInt32 >>> ((2 : Int32).toUInt32 &&& Int32.toUInt32 31)).toInt32) &&& 858993459)).toUInt32 >>> ((4 : Int32).toUInt32 &&& Int32.toUInt32 31)).toInt32)) &&& 252645135).toUInt32 >>> ((8 : Int32).toUInt32 &&& Int32.toUInt32 31)).toInt32)) dJ6_bitCount_0f7a4_39 40 rfl rfl ?_
  refine pv_istore_n (M := mJ6_bitCount_0f7a4) 0 (lo2 := [.int ((((((a0 - (((a0.toUInt32 >>> ((1 : Int32).toUInt32 &&& Int32.toUInt32 31)).toInt32) &&& 1431655765)) &&& 858993459) + ((((a0 - (((a0.toUInt32 >>> ((1 : Int32).toUInt32 &&& Int32.toUInt32 31)).toInt32) &&& 1431655765)).toUInt32 >>> ((2 : Int32).toUInt32 &&& Int32.toUInt32 31)).toInt32) &&& 858993459)) + (((((a0 - (((a0.toUInt32 >>> ((1 : Int32).toUInt32 &&& Int32.toUInt32 31)).toInt32) &&& 1431655765)) &&& 858993459) + ((((a0 - (((a0.toUInt32 >>> ((1 : Int32).toUInt32 &&& Int32.toUInt32 31)).toInt32) &&& 1431655765)).toUInt32 >>> ((2 : Int32).toUInt32 &&& Int32.toUInt32 31)).toInt32) &&& 858993459)).toUInt32 >>> ((4 : Int32).toUInt32 &&& Int32.toUInt32 31)).toInt32)) &&& 252645135) + (((((((a0 - (((a0.toUInt32 >>> ((1 : Int32).toUInt32 &&& Int32.toUInt32 31)).toInt32) &&& 1431655765)) &&& 858993459) + ((((a0 - (((a0.toUInt32 >>> ((1 : Int32).toUInt32 &&& Int32.toUInt32 31)).toInt32) &&& 1431655765)).toUInt32 >>> ((2 : Int32).toUInt32 &&& Int32.toUInt32 31)).toInt32) &&& 858993459)) + (((((a0 - (((a0.toUInt32 >>> ((1 : Int32).toUInt32 &&& Int32.toUInt32 31)).toInt32) &&& 1431655765)) &&& 858993459) + ((((a0 - (((a0.toUInt32 >>> ((1 : Int32).toUInt32 &&& Int32.toUInt32 31)).toInt32) &&& 1431655765)).toUInt32 >>> ((2 : Int32).toUInt32 &&& Int32.toUInt32 31)).toInt32) &&& 858993459)).toUInt32 >>> ((4 : Int32).toUInt32 &&& Int32.toUInt32 31)).toInt32)) &&& 252645135).toUInt32 >>> ((8 : Int32).toUInt32 &&& Int32.toUInt32 31)).toInt32))]) dJ6_bitCount_0f7a4_40 41 rfl rfl (by decide) rfl rfl ?_
  refine pv_iload_n (M := mJ6_bitCount_0f7a4) 0 dJ6_bitCount_0f7a4_41 42 rfl rfl rfl ?_
  refine pv_iload_n (M := mJ6_bitCount_0f7a4) 0 dJ6_bitCount_0f7a4_42 43 rfl rfl rfl ?_
  refine pv_bipush (M := mJ6_bitCount_0f7a4) (v := 16) dJ6_bitCount_0f7a4_43 45 rfl (by decide) ?_
  refine pv_iushr (M := mJ6_bitCount_0f7a4) dJ6_bitCount_0f7a4_45 46 rfl rfl ?_
  refine pv_iadd (M := mJ6_bitCount_0f7a4) (v := ((((((a0 - (((a0.toUInt32 >>> ((1 : Int32).toUInt32 &&& Int32.toUInt32 31)).toInt32) &&& 1431655765)) &&& 858993459) + ((((a0 - (((a0.toUInt32 >>> ((1 : Int32).toUInt32 &&& Int32.toUInt32 31)).toInt32) &&& 1431655765)).toUInt32 >>> ((2 : Int32).toUInt32 &&& Int32.toUInt32 31)).toInt32) &&& 858993459)) + (((((a0 - (((a0.toUInt32 >>> ((1 : Int32).toUInt32 &&& Int32.toUInt32 31)).toInt32) &&& 1431655765)) &&& 858993459) + ((((a0 - (((a0.toUInt32 >>> ((1 : Int32).toUInt32 &&& Int32.toUInt32 31)).toInt32) &&& 1431655765)).toUInt32 >>> ((2 : Int32).toUInt32 &&& Int32.toUInt32 31)).toInt32) &&& 858993459)).toUInt32 >>> ((4 : Int32).toUInt32 &&& Int32.toUInt32 31)).toInt32)) &&& 252645135) + (((((((a0 - (((a0.toUInt32 >>> ((1 : Int32).toUInt32 &&& Int32.toUInt32 31)).toInt32) &&& 1431655765)) &&& 858993459) + ((((a0 - (((a0.toUInt32 >>> ((1 : Int32).toUInt32 &&& Int32.toUInt32 31)).toInt32) &&& 1431655765)).toUInt32 >>> ((2 : Int32).toUInt32 &&& Int32.toUInt32 31)).toInt32) &&& 858993459)) + (((((a0 - (((a0.toUInt32 >>> ((1 : Int32).toUInt32 &&& Int32.toUInt32 31)).toInt32) &&& 1431655765)) &&& 858993459) + ((((a0 - (((a0.toUInt32 >>> ((1 : Int32).toUInt32 &&& Int32.toUInt32 31)).toInt32) &&& 1431655765)).toUInt32 >>> ((2 : Int32).toUInt32 &&& Int32.toUInt32 31)).toInt32) &&& 858993459)).toUInt32 >>> ((4 : Int32).toUInt32 &&& Int32.toUInt32 31)).toInt32)) &&& 252645135).toUInt32 >>> ((8 : Int32).toUInt32 &&& Int32.toUInt32 31)).toInt32)) + ((((((((a0 - (((a0.toUInt32 >>> ((1 : Int32).toUInt32 &&& Int32.toUInt32 31)).toInt32) &&& 1431655765)) &&& 858993459) + ((((a0 - (((a0.toUInt32 >>> ((1 : Int32).toUInt32 &&& Int32.toUInt32 31)).toInt32) &&& 1431655765)).toUInt32 >>> ((2 : Int32).toUInt32 &&& Int32.toUInt32 31)).toInt32) &&& 858993459)) + (((((a0 - (((a0.toUInt32 >>> ((1 : Int32).toUInt32 &&& Int32.toUInt32 31)).toInt32) &&& 1431655765)) &&& 858993459) + ((((a0 - (((a0.toUInt32 >>> ((1 : Int32).toUInt32 &&& Int32.toUInt32 31)).toInt32) &&& 1431655765)).toUInt32 >>> ((2 : Int32).toUInt32 &&& Int32.toUInt32 31)).toInt32) &&& 858993459)).toUInt32 >>> ((4 : Int32).toUInt32 &&& Int32.toUInt32 31)).toInt32)) &&& 252645135) + (((((((a0 - (((a0.toUInt32 >>> ((1 : Int32).toUInt32 &&& Int32.toUInt32 31)).toInt32) &&& 1431655765)) &&& 858993459) + ((((a0 - (((a0.toUInt32 >>> ((1 : Int32).toUInt32 &&& Int32.toUInt32 31)).toInt32) &&& 1431655765)).toUInt32 >>> ((2 : Int32).toUInt32 &&& Int32.toUInt32 31)).toInt32) &&& 858993459)) + (((((a0 - (((a0.toUInt32 >>> ((1 : Int32).toUInt32 &&& Int32.toUInt32 31)).toInt32) &&& 1431655765)) &&& 858993459) + ((((a0 - (((a0.toUInt32 >>> ((1 : Int32).toUInt32 &&& Int32.toUInt32 31)).toInt32) &&& 1431655765)).toUInt32 >>> ((2 : Int32).toUInt32 &&& Int32.toUInt32 31)).toInt32) &&& 858993459)).toUInt32 >>> ((4 : Int32).toUInt32 &&& Int32.toUInt32 31)).toInt32)) &&& 252645135).toUInt32 >>> ((8 : Int32).toUInt32 &&& Int32.toUInt32 31)).toInt32)).toUInt32 >>> ((16 : Int32).toUInt32 &&& Int32.toUInt32 31)).toInt32)) dJ6_bitCount_0f7a4_46 47 rfl rfl ?_
  refine pv_istore_n (M := mJ6_bitCount_0f7a4) 0 (lo2 := [.int (((((((a0 - (((a0.toUInt32 >>> ((1 : Int32).toUInt32 &&& Int32.toUInt32 31)).toInt32) &&& 1431655765)) &&& 858993459) + ((((a0 - (((a0.toUInt32 >>> ((1 : Int32).toUInt32 &&& Int32.toUInt32 31)).toInt32) &&& 1431655765)).toUInt32 >>> ((2 : Int32).toUInt32 &&& Int32.toUInt32 31)).toInt32) &&& 858993459)) + (((((a0 - (((a0.toUInt32 >>> ((1 : Int32).toUInt32 &&& Int32.toUInt32 31)).toInt32) &&& 1431655765)) &&& 858993459) + ((((a0 - (((a0.toUInt32 >>> ((1 : Int32).toUInt32 &&& Int32.toUInt32 31)).toInt32) &&& 1431655765)).toUInt32 >>> ((2 : Int32).toUInt32 &&& Int32.toUInt32 31)).toInt32) &&& 858993459)).toUInt32 >>> ((4 : Int32).toUInt32 &&& Int32.toUInt32 31)).toInt32)) &&& 252645135) + (((((((a0 - (((a0.toUInt32 >>> ((1 : Int32).toUInt32 &&& Int32.toUInt32 31)).toInt32) &&& 1431655765)) &&& 858993459) + ((((a0 - (((a0.toUInt32 >>> ((1 : Int32).toUInt32 &&& Int32.toUInt32 31)).toInt32) &&& 1431655765)).toUInt32 >>> ((2 : Int32).toUInt32 &&& Int32.toUInt32 31)).toInt32) &&& 858993459)) + (((((a0 - (((a0.toUInt32 >>> ((1 : Int32).toUInt32 &&& Int32.toUInt32 31)).toInt32) &&& 1431655765)) &&& 858993459) + ((((a0 - (((a0.toUInt32 >>> ((1 : Int32).toUInt32 &&& Int32.toUInt32 31)).toInt32) &&& 1431655765)).toUInt32 >>> ((2 : Int32).toUInt32 &&& Int32.toUInt32 31)).toInt32) &&& 858993459)).toUInt32 >>> ((4 : Int32).toUInt32 &&& Int32.toUInt32 31)).toInt32)) &&& 252645135).toUInt32 >>> ((8 : Int32).toUInt32 &&& Int32.toUInt32 31)).toInt32)) + ((((((((a0 - (((a0.toUInt32 >>> ((1 : Int32).toUInt32 &&& Int32.toUInt32 31)).toInt32) &&& 1431655765)) &&& 858993459) + ((((a0 - (((a0.toUInt32 >>> ((1 : Int32).toUInt32 &&& Int32.toUInt32 31)).toInt32) &&& 1431655765)).toUInt32 >>> ((2 : Int32).toUInt32 &&& Int32.toUInt32 31)).toInt32) &&& 858993459)) + (((((a0 - (((a0.toUInt32 >>> ((1 : Int32).toUInt32 &&& Int32.toUInt32 31)).toInt32) &&& 1431655765)) &&& 858993459) + ((((a0 - (((a0.toUInt32 >>> ((1 : Int32).toUInt32 &&& Int32.toUInt32 31)).toInt32) &&& 1431655765)).toUInt32 >>> ((2 : Int32).toUInt32 &&& Int32.toUInt32 31)).toInt32) &&& 858993459)).toUInt32 >>> ((4 : Int32).toUInt32 &&& Int32.toUInt32 31)).toInt32)) &&& 252645135) + (((((((a0 - (((a0.toUInt32 >>> ((1 : Int32).toUInt32 &&& Int32.toUInt32 31)).toInt32) &&& 1431655765)) &&& 858993459) + ((((a0 - (((a0.toUInt32 >>> ((1 : Int32).toUInt32 &&& Int32.toUInt32 31)).toInt32) &&& 1431655765)).toUInt32 >>> ((2 : Int32).toUInt32 &&& Int32.toUInt32 31)).toInt32) &&& 858993459)) + (((((a0 - (((a0.toUInt32 >>> ((1 : Int32).toUInt32 &&& Int32.toUInt32 31)).toInt32) &&& 1431655765)) &&& 858993459) + ((((a0 - (((a0.toUInt32 >>> ((1 : Int32).toUInt32 &&& Int32.toUInt32 31)).toInt32) &&& 1431655765)).toUInt32 >>> ((2 : Int32).toUInt32 &&& Int32.toUInt32 31)).toInt32) &&& 858993459)).toUInt32 >>> ((4 : Int32).toUInt32 &&& Int32.toUInt32 31)).toInt32)) &&& 252645135).toUInt32 >>> ((8 : Int32).toUInt32 &&& Int32.toUInt32 31)).toInt32)).toUInt32 >>> ((16 : Int32).toUInt32 &&& Int32.toUInt32 31)).toInt32))]) dJ6_bitCount_0f7a4_47 48 rfl rfl (by decide) rfl rfl ?_
  refine pv_iload_n (M := mJ6_bitCount_0f7a4) 0 dJ6_bitCount_0f7a4_48 49 rfl rfl rfl ?_
  refine pv_bipush (M := mJ6_bitCount_0f7a4) (v := 63) dJ6_bitCount_0f7a4_49 51 rfl (by decide) ?_
  refine pv_iand (M := mJ6_bitCount_0f7a4) (v := (((((((a0 - (((a0.toUInt32 >>> ((1 : Int32).toUInt32 &&& Int32.toUInt32 31)).toInt32) &&& 1431655765)) &&& 858993459) + ((((a0 - (((a0.toUInt32 >>> ((1 : Int32).toUInt32 &&& Int32.toUInt32 31)).toInt32) &&& 1431655765)).toUInt32 >>> ((2 : Int32).toUInt32 &&& Int32.toUInt32 31)).toInt32) &&& 858993459)) + (((((a0 - (((a0.toUInt32 >>> ((1 : Int32).toUInt32 &&& Int32.toUInt32 31)).toInt32) &&& 1431655765)) &&& 858993459) + ((((a0 - (((a0.toUInt32 >>> ((1 : Int32).toUInt32 &&& Int32.toUInt32 31)).toInt32) &&& 1431655765)).toUInt32 >>> ((2 : Int32).toUInt32 &&& Int32.toUInt32 31)).toInt32) &&& 858993459)).toUInt32 >>> ((4 : Int32).toUInt32 &&& Int32.toUInt32 31)).toInt32)) &&& 252645135) + (((((((a0 - (((a0.toUInt32 >>> ((1 : Int32).toUInt32 &&& Int32.toUInt32 31)).toInt32) &&& 1431655765)) &&& 858993459) + ((((a0 - (((a0.toUInt32 >>> ((1 : Int32).toUInt32 &&& Int32.toUInt32 31)).toInt32) &&& 1431655765)).toUInt32 >>> ((2 : Int32).toUInt32 &&& Int32.toUInt32 31)).toInt32) &&& 858993459)) + (((((a0 - (((a0.toUInt32 >>> ((1 : Int32).toUInt32 &&& Int32.toUInt32 31)).toInt32) &&& 1431655765)) &&& 858993459) + ((((a0 - (((a0.toUInt32 >>> ((1 : Int32).toUInt32 &&& Int32.toUInt32 31)).toInt32) &&& 1431655765)).toUInt32 >>> ((2 : Int32).toUInt32 &&& Int32.toUInt32 31)).toInt32) &&& 858993459)).toUInt32 >>> ((4 : Int32).toUInt32 &&& Int32.toUInt32 31)).toInt32)) &&& 252645135).toUInt32 >>> ((8 : Int32).toUInt32 &&& Int32.toUInt32 31)).toInt32)) + ((((((((a0 - (((a0.toUInt32 >>> ((1 : Int32).toUInt32 &&& Int32.toUInt32 31)).toInt32) &&& 1431655765)) &&& 858993459) + ((((a0 - (((a0.toUInt32 >>> ((1 : Int32).toUInt32 &&& Int32.toUInt32 31)).toInt32) &&& 1431655765)).toUInt32 >>> ((2 : Int32).toUInt32 &&& Int32.toUInt32 31)).toInt32) &&& 858993459)) + (((((a0 - (((a0.toUInt32 >>> ((1 : Int32).toUInt32 &&& Int32.toUInt32 31)).toInt32) &&& 1431655765)) &&& 858993459) + ((((a0 - (((a0.toUInt32 >>> ((1 : Int32).toUInt32 &&& Int32.toUInt32 31)).toInt32) &&& 1431655765)).toUInt32 >>> ((2 : Int32).toUInt32 &&& Int32.toUInt32 31)).toInt32) &&& 858993459)).toUInt32 >>> ((4 : Int32).toUInt32 &&& Int32.toUInt32 31)).toInt32)) &&& 252645135) + (((((((a0 - (((a0.toUInt32 >>> ((1 : Int32).toUInt32 &&& Int32.toUInt32 31)).toInt32) &&& 1431655765)) &&& 858993459) + ((((a0 - (((a0.toUInt32 >>> ((1 : Int32).toUInt32 &&& Int32.toUInt32 31)).toInt32) &&& 1431655765)).toUInt32 >>> ((2 : Int32).toUInt32 &&& Int32.toUInt32 31)).toInt32) &&& 858993459)) + (((((a0 - (((a0.toUInt32 >>> ((1 : Int32).toUInt32 &&& Int32.toUInt32 31)).toInt32) &&& 1431655765)) &&& 858993459) + ((((a0 - (((a0.toUInt32 >>> ((1 : Int32).toUInt32 &&& Int32.toUInt32 31)).toInt32) &&& 1431655765)).toUInt32 >>> ((2 : Int32).toUInt32 &&& Int32.toUInt32 31)).toInt32) &&& 858993459)).toUInt32 >>> ((4 : Int32).toUInt32 &&& Int32.toUInt32 31)).toInt32)) &&& 252645135).toUInt32 >>> ((8 : Int32).toUInt32 &&& Int32.toUInt32 31)).toInt32)).toUInt32 >>> ((16 : Int32).toUInt32 &&& Int32.toUInt32 31)).toInt32)) &&& 63) dJ6_bitCount_0f7a4_51 52 rfl rfl ?_
  exact pv_iret (M := mJ6_bitCount_0f7a4) dJ6_bitCount_0f7a4_52 rfl rfl ⟨rfl, rfl⟩

set_option maxHeartbeats 400000 in
set_option maxRecDepth 20000 in
theorem k_X11_isDeed (g : pv_G) {h : List pv_C} (e0 : h[0]? = some (pv_o 11 [.ref 1, .ref 3, .int 0, .ref 60, .ref 77, .ref 86, .ref 97, .int 0, .int 1, .ref 104, .ref 107, .ref 112, .null, .ref 116, .ref 120, .ref 121, .ref 122])) (e60 : h[60]? = some (pv_q 5 8 (va_up (va_up (va_up (va_up (va_up (va_up (va_up (va_up (fun _ => none) 0 (some (61))) 1 (some (63))) 2 (some (65))) 3 (some (67))) 4 (some (69))) 5 (some (71))) 6 (some (73))) 7 (some (75))))) (e61 : h[61]? = some (pv_o 8 [.ref 62, .int 0])) : PM g mX11_isDeed yX11_isDeed (pv_is (some (.int 0)) (h)) 1 0 0 [.ref 0, .int 0] h := by
  refine PM.of 0 (lo := [.ref 0, .int 0]) rfl (by decide) rfl rfl (Nat.le_of_ble_eq_true rfl) ?_
  refine pv_iload_n (M := mX11_isDeed) 1 dX11_isDeed_0 1 rfl rfl rfl ?_
  refine pv_if_lt (M := mX11_isDeed) (tgt := 26) dX11_isDeed_1 4 rfl (by decide) (fun q => absurd q (by decide)) (fun _ => ?_)
  refine pv_iload_n (M := mX11_isDeed) 1 dX11_isDeed_4 5 rfl rfl rfl ?_
  refine pv_bipush (M := mX11_isDeed) (v := 8) dX11_isDeed_5 7 rfl (by decide) ?_
  refine pv_icmp_ge (M := mX11_isDeed) (tgt := 26) dX11_isDeed_7 10 rfl (by decide) (fun q => absurd q (by decide)) (fun _ => ?_)
  refine pv_aload_n (M := mX11_isDeed) 0 dX11_isDeed_10 11 rfl rfl rfl ?_
  refine pv_get (M := mX11_isDeed) dX11_isDeed_11 FX11 3 wd410 (by decide) e0 rfl 14 rfl ?_
  refine pv_iload_n (M := mX11_isDeed) 1 dX11_isDeed_14 15 rfl rfl rfl ?_
  refine pv_aald (M := mX11_isDeed) dX11_isDeed_15 e60 (fun _ => rfl) (pv_in0 (by decide)) (v := .ref 61) rfl 16 rfl ?_
  refine pv_get (M := mX11_isDeed) dX11_isDeed_16 FX8 1 wd200 (by decide) e61 rfl 19 rfl ?_
  refine pv_if_le (M := mX11_isDeed) (tgt := 26) dX11_isDeed_19 22 rfl (by decide) (fun _ => ?_) (fun q => absurd (by decide) q)
  refine pv_iconst (M := mX11_isDeed) (v := 0) dX11_isDeed_26 27 rfl (by decide) ?_
  exact pv_iret (M := mX11_isDeed) dX11_isDeed_27 rfl rfl ⟨rfl, rfl⟩

set_option maxHeartbeats 400000 in
set_option maxRecDepth 20000 in
theorem k_X11_isDeed_2 (g : pv_G) {h : List pv_C} (e0 : h[0]? = some (pv_o 11 [.ref 1, .ref 3, .int 0, .ref 60, .ref 77, .ref 86, .ref 97, .int 0, .int 1, .ref 104, .ref 107, .ref 112, .null, .ref 116, .ref 120, .ref 121, .ref 122])) (e60 : h[60]? = some (pv_q 5 8 (va_up (va_up (va_up (va_up (va_up (va_up (va_up (va_up (fun _ => none) 0 (some (61))) 1 (some (63))) 2 (some (65))) 3 (some (67))) 4 (some (69))) 5 (some (71))) 6 (some (73))) 7 (some (75))))) (e63 : h[63]? = some (pv_o 8 [.ref 64, .int 0])) : PM g mX11_isDeed yX11_isDeed (pv_is (some (.int 0)) (h)) 1 0 0 [.ref 0, .int 1] h := by
  refine PM.of 0 (lo := [.ref 0, .int 1]) rfl (by decide) rfl rfl (Nat.le_of_ble_eq_true rfl) ?_
  refine pv_iload_n (M := mX11_isDeed) 1 dX11_isDeed_0 1 rfl rfl rfl ?_
  refine pv_if_lt (M := mX11_isDeed) (tgt := 26) dX11_isDeed_1 4 rfl (by decide) (fun q => absurd q (by decide)) (fun _ => ?_)
  refine pv_iload_n (M := mX11_isDeed) 1 dX11_isDeed_4 5 rfl rfl rfl ?_
  refine pv_bipush (M := mX11_isDeed) (v := 8) dX11_isDeed_5 7 rfl (by decide) ?_
  refine pv_icmp_ge (M := mX11_isDeed) (tgt := 26) dX11_isDeed_7 10 rfl (by decide) (fun q => absurd q (by decide)) (fun _ => ?_)
  refine pv_aload_n (M := mX11_isDeed) 0 dX11_isDeed_10 11 rfl rfl rfl ?_
  refine pv_get (M := mX11_isDeed) dX11_isDeed_11 FX11 3 wd410 (by decide) e0 rfl 14 rfl ?_
  refine pv_iload_n (M := mX11_isDeed) 1 dX11_isDeed_14 15 rfl rfl rfl ?_
  refine pv_aald (M := mX11_isDeed) dX11_isDeed_15 e60 (fun _ => rfl) (pv_in0 (by decide)) (v := .ref 63) rfl 16 rfl ?_
  refine pv_get (M := mX11_isDeed) dX11_isDeed_16 FX8 1 wd200 (by decide) e63 rfl 19 rfl ?_
  refine pv_if_le (M := mX11_isDeed) (tgt := 26) dX11_isDeed_19 22 rfl (by decide) (fun _ => ?_) (fun q => absurd (by decide) q)
  refine pv_iconst (M := mX11_isDeed) (v := 0) dX11_isDeed_26 27 rfl (by decide) ?_
  exact pv_iret (M := mX11_isDeed) dX11_isDeed_27 rfl rfl ⟨rfl, rfl⟩

set_option maxHeartbeats 400000 in
set_option maxRecDepth 20000 in
theorem k_X11_isDeed_3 (g : pv_G) {h : List pv_C} (e0 : h[0]? = some (pv_o 11 [.ref 1, .ref 3, .int 0, .ref 60, .ref 77, .ref 86, .ref 97, .int 0, .int 1, .ref 104, .ref 107, .ref 112, .null, .ref 116, .ref 120, .ref 121, .ref 122])) (e60 : h[60]? = some (pv_q 5 8 (va_up (va_up (va_up (va_up (va_up (va_up (va_up (va_up (fun _ => none) 0 (some (61))) 1 (some (63))) 2 (some (65))) 3 (some (67))) 4 (some (69))) 5 (some (71))) 6 (some (73))) 7 (some (75))))) (e65 : h[65]? = some (pv_o 8 [.ref 66, .int 0])) : PM g mX11_isDeed yX11_isDeed (pv_is (some (.int 0)) (h)) 1 0 0 [.ref 0, .int 2] h := by
  refine PM.of 0 (lo := [.ref 0, .int 2]) rfl (by decide) rfl rfl (Nat.le_of_ble_eq_true rfl) ?_
  refine pv_iload_n (M := mX11_isDeed) 1 dX11_isDeed_0 1 rfl rfl rfl ?_
  refine pv_if_lt (M := mX11_isDeed) (tgt := 26) dX11_isDeed_1 4 rfl (by decide) (fun q => absurd q (by decide)) (fun _ => ?_)
  refine pv_iload_n (M := mX11_isDeed) 1 dX11_isDeed_4 5 rfl rfl rfl ?_
  refine pv_bipush (M := mX11_isDeed) (v := 8) dX11_isDeed_5 7 rfl (by decide) ?_
  refine pv_icmp_ge (M := mX11_isDeed) (tgt := 26) dX11_isDeed_7 10 rfl (by decide) (fun q => absurd q (by decide)) (fun _ => ?_)
  refine pv_aload_n (M := mX11_isDeed) 0 dX11_isDeed_10 11 rfl rfl rfl ?_
  refine pv_get (M := mX11_isDeed) dX11_isDeed_11 FX11 3 wd410 (by decide) e0 rfl 14 rfl ?_
  refine pv_iload_n (M := mX11_isDeed) 1 dX11_isDeed_14 15 rfl rfl rfl ?_
  refine pv_aald (M := mX11_isDeed) dX11_isDeed_15 e60 (fun _ => rfl) (pv_in0 (by decide)) (v := .ref 65) rfl 16 rfl ?_
  refine pv_get (M := mX11_isDeed) dX11_isDeed_16 FX8 1 wd200 (by decide) e65 rfl 19 rfl ?_
  refine pv_if_le (M := mX11_isDeed) (tgt := 26) dX11_isDeed_19 22 rfl (by decide) (fun _ => ?_) (fun q => absurd (by decide) q)
  refine pv_iconst (M := mX11_isDeed) (v := 0) dX11_isDeed_26 27 rfl (by decide) ?_
  exact pv_iret (M := mX11_isDeed) dX11_isDeed_27 rfl rfl ⟨rfl, rfl⟩

set_option maxHeartbeats 400000 in
set_option maxRecDepth 20000 in
theorem k_X11_isDeed_4 (g : pv_G) {h : List pv_C} (e0 : h[0]? = some (pv_o 11 [.ref 1, .ref 3, .int 0, .ref 60, .ref 77, .ref 86, .ref 97, .int 0, .int 1, .ref 104, .ref 107, .ref 112, .null, .ref 116, .ref 120, .ref 121, .ref 122])) (e60 : h[60]? = some (pv_q 5 8 (va_up (va_up (va_up (va_up (va_up (va_up (va_up (va_up (fun _ => none) 0 (some (61))) 1 (some (63))) 2 (some (65))) 3 (some (67))) 4 (some (69))) 5 (some (71))) 6 (some (73))) 7 (some (75))))) (e67 : h[67]? = some (pv_o 8 [.ref 68, .int 0])) : PM g mX11_isDeed yX11_isDeed (pv_is (some (.int 0)) (h)) 1 0 0 [.ref 0, .int 3] h := by
  refine PM.of 0 (lo := [.ref 0, .int 3]) rfl (by decide) rfl rfl (Nat.le_of_ble_eq_true rfl) ?_
  refine pv_iload_n (M := mX11_isDeed) 1 dX11_isDeed_0 1 rfl rfl rfl ?_
  refine pv_if_lt (M := mX11_isDeed) (tgt := 26) dX11_isDeed_1 4 rfl (by decide) (fun q => absurd q (by decide)) (fun _ => ?_)
  refine pv_iload_n (M := mX11_isDeed) 1 dX11_isDeed_4 5 rfl rfl rfl ?_
  refine pv_bipush (M := mX11_isDeed) (v := 8) dX11_isDeed_5 7 rfl (by decide) ?_
  refine pv_icmp_ge (M := mX11_isDeed) (tgt := 26) dX11_isDeed_7 10 rfl (by decide) (fun q => absurd q (by decide)) (fun _ => ?_)
  refine pv_aload_n (M := mX11_isDeed) 0 dX11_isDeed_10 11 rfl rfl rfl ?_
  refine pv_get (M := mX11_isDeed) dX11_isDeed_11 FX11 3 wd410 (by decide) e0 rfl 14 rfl ?_
  refine pv_iload_n (M := mX11_isDeed) 1 dX11_isDeed_14 15 rfl rfl rfl ?_
  refine pv_aald (M := mX11_isDeed) dX11_isDeed_15 e60 (fun _ => rfl) (pv_in0 (by decide)) (v := .ref 67) rfl 16 rfl ?_
  refine pv_get (M := mX11_isDeed) dX11_isDeed_16 FX8 1 wd200 (by decide) e67 rfl 19 rfl ?_
  refine pv_if_le (M := mX11_isDeed) (tgt := 26) dX11_isDeed_19 22 rfl (by decide) (fun _ => ?_) (fun q => absurd (by decide) q)
  refine pv_iconst (M := mX11_isDeed) (v := 0) dX11_isDeed_26 27 rfl (by decide) ?_
  exact pv_iret (M := mX11_isDeed) dX11_isDeed_27 rfl rfl ⟨rfl, rfl⟩

set_option maxHeartbeats 400000 in
set_option maxRecDepth 20000 in
theorem k_X11_isDeed_5 (g : pv_G) {h : List pv_C} (e0 : h[0]? = some (pv_o 11 [.ref 1, .ref 3, .int 0, .ref 60, .ref 77, .ref 86, .ref 97, .int 0, .int 1, .ref 104, .ref 107, .ref 112, .null, .ref 116, .ref 120, .ref 121, .ref 122])) (e60 : h[60]? = some (pv_q 5 8 (va_up (va_up (va_up (va_up (va_up (va_up (va_up (va_up (fun _ => none) 0 (some (61))) 1 (some (63))) 2 (some (65))) 3 (some (67))) 4 (some (69))) 5 (some (71))) 6 (some (73))) 7 (some (75))))) (e69 : h[69]? = some (pv_o 8 [.ref 70, .int 0])) : PM g mX11_isDeed yX11_isDeed (pv_is (some (.int 0)) (h)) 1 0 0 [.ref 0, .int 4] h := by
  refine PM.of 0 (lo := [.ref 0, .int 4]) rfl (by decide) rfl rfl (Nat.le_of_ble_eq_true rfl) ?_
  refine pv_iload_n (M := mX11_isDeed) 1 dX11_isDeed_0 1 rfl rfl rfl ?_
  refine pv_if_lt (M := mX11_isDeed) (tgt := 26) dX11_isDeed_1 4 rfl (by decide) (fun q => absurd q (by decide)) (fun _ => ?_)
  refine pv_iload_n (M := mX11_isDeed) 1 dX11_isDeed_4 5 rfl rfl rfl ?_
  refine pv_bipush (M := mX11_isDeed) (v := 8) dX11_isDeed_5 7 rfl (by decide) ?_
  refine pv_icmp_ge (M := mX11_isDeed) (tgt := 26) dX11_isDeed_7 10 rfl (by decide) (fun q => absurd q (by decide)) (fun _ => ?_)
  refine pv_aload_n (M := mX11_isDeed) 0 dX11_isDeed_10 11 rfl rfl rfl ?_
  refine pv_get (M := mX11_isDeed) dX11_isDeed_11 FX11 3 wd410 (by decide) e0 rfl 14 rfl ?_
  refine pv_iload_n (M := mX11_isDeed) 1 dX11_isDeed_14 15 rfl rfl rfl ?_
  refine pv_aald (M := mX11_isDeed) dX11_isDeed_15 e60 (fun _ => rfl) (pv_in0 (by decide)) (v := .ref 69) rfl 16 rfl ?_
  refine pv_get (M := mX11_isDeed) dX11_isDeed_16 FX8 1 wd200 (by decide) e69 rfl 19 rfl ?_
  refine pv_if_le (M := mX11_isDeed) (tgt := 26) dX11_isDeed_19 22 rfl (by decide) (fun _ => ?_) (fun q => absurd (by decide) q)
  refine pv_iconst (M := mX11_isDeed) (v := 0) dX11_isDeed_26 27 rfl (by decide) ?_
  exact pv_iret (M := mX11_isDeed) dX11_isDeed_27 rfl rfl ⟨rfl, rfl⟩

set_option maxHeartbeats 400000 in
set_option maxRecDepth 20000 in
theorem k_X11_isDeed_6 (g : pv_G) {h : List pv_C} (e0 : h[0]? = some (pv_o 11 [.ref 1, .ref 3, .int 0, .ref 60, .ref 77, .ref 86, .ref 97, .int 0, .int 1, .ref 104, .ref 107, .ref 112, .null, .ref 116, .ref 120, .ref 121, .ref 122])) (e60 : h[60]? = some (pv_q 5 8 (va_up (va_up (va_up (va_up (va_up (va_up (va_up (va_up (fun _ => none) 0 (some (61))) 1 (some (63))) 2 (some (65))) 3 (some (67))) 4 (some (69))) 5 (some (71))) 6 (some (73))) 7 (some (75))))) (e71 : h[71]? = some (pv_o 8 [.ref 72, .int 0])) : PM g mX11_isDeed yX11_isDeed (pv_is (some (.int 0)) (h)) 1 0 0 [.ref 0, .int 5] h := by
  refine PM.of 0 (lo := [.ref 0, .int 5]) rfl (by decide) rfl rfl (Nat.le_of_ble_eq_true rfl) ?_
  refine pv_iload_n (M := mX11_isDeed) 1 dX11_isDeed_0 1 rfl rfl rfl ?_
  refine pv_if_lt (M := mX11_isDeed) (tgt := 26) dX11_isDeed_1 4 rfl (by decide) (fun q => absurd q (by decide)) (fun _ => ?_)
  refine pv_iload_n (M := mX11_isDeed) 1 dX11_isDeed_4 5 rfl rfl rfl ?_
  refine pv_bipush (M := mX11_isDeed) (v := 8) dX11_isDeed_5 7 rfl (by decide) ?_
  refine pv_icmp_ge (M := mX11_isDeed) (tgt := 26) dX11_isDeed_7 10 rfl (by decide) (fun q => absurd q (by decide)) (fun _ => ?_)
  refine pv_aload_n (M := mX11_isDeed) 0 dX11_isDeed_10 11 rfl rfl rfl ?_
  refine pv_get (M := mX11_isDeed) dX11_isDeed_11 FX11 3 wd410 (by decide) e0 rfl 14 rfl ?_
  refine pv_iload_n (M := mX11_isDeed) 1 dX11_isDeed_14 15 rfl rfl rfl ?_
  refine pv_aald (M := mX11_isDeed) dX11_isDeed_15 e60 (fun _ => rfl) (pv_in0 (by decide)) (v := .ref 71) rfl 16 rfl ?_
  refine pv_get (M := mX11_isDeed) dX11_isDeed_16 FX8 1 wd200 (by decide) e71 rfl 19 rfl ?_
  refine pv_if_le (M := mX11_isDeed) (tgt := 26) dX11_isDeed_19 22 rfl (by decide) (fun _ => ?_) (fun q => absurd (by decide) q)
  refine pv_iconst (M := mX11_isDeed) (v := 0) dX11_isDeed_26 27 rfl (by decide) ?_
  exact pv_iret (M := mX11_isDeed) dX11_isDeed_27 rfl rfl ⟨rfl, rfl⟩

set_option maxHeartbeats 400000 in
set_option maxRecDepth 20000 in
theorem k_X11_isDeed_7 (g : pv_G) {h : List pv_C} (e0 : h[0]? = some (pv_o 11 [.ref 1, .ref 3, .int 0, .ref 60, .ref 77, .ref 86, .ref 97, .int 0, .int 1, .ref 104, .ref 107, .ref 112, .null, .ref 116, .ref 120, .ref 121, .ref 122])) (e60 : h[60]? = some (pv_q 5 8 (va_up (va_up (va_up (va_up (va_up (va_up (va_up (va_up (fun _ => none) 0 (some (61))) 1 (some (63))) 2 (some (65))) 3 (some (67))) 4 (some (69))) 5 (some (71))) 6 (some (73))) 7 (some (75))))) (e73 : h[73]? = some (pv_o 8 [.ref 74, .int 0])) : PM g mX11_isDeed yX11_isDeed (pv_is (some (.int 0)) (h)) 1 0 0 [.ref 0, .int 6] h := by
  refine PM.of 0 (lo := [.ref 0, .int 6]) rfl (by decide) rfl rfl (Nat.le_of_ble_eq_true rfl) ?_
  refine pv_iload_n (M := mX11_isDeed) 1 dX11_isDeed_0 1 rfl rfl rfl ?_
  refine pv_if_lt (M := mX11_isDeed) (tgt := 26) dX11_isDeed_1 4 rfl (by decide) (fun q => absurd q (by decide)) (fun _ => ?_)
  refine pv_iload_n (M := mX11_isDeed) 1 dX11_isDeed_4 5 rfl rfl rfl ?_
  refine pv_bipush (M := mX11_isDeed) (v := 8) dX11_isDeed_5 7 rfl (by decide) ?_
  refine pv_icmp_ge (M := mX11_isDeed) (tgt := 26) dX11_isDeed_7 10 rfl (by decide) (fun q => absurd q (by decide)) (fun _ => ?_)
  refine pv_aload_n (M := mX11_isDeed) 0 dX11_isDeed_10 11 rfl rfl rfl ?_
  refine pv_get (M := mX11_isDeed) dX11_isDeed_11 FX11 3 wd410 (by decide) e0 rfl 14 rfl ?_
  refine pv_iload_n (M := mX11_isDeed) 1 dX11_isDeed_14 15 rfl rfl rfl ?_
  refine pv_aald (M := mX11_isDeed) dX11_isDeed_15 e60 (fun _ => rfl) (pv_in0 (by decide)) (v := .ref 73) rfl 16 rfl ?_
  refine pv_get (M := mX11_isDeed) dX11_isDeed_16 FX8 1 wd200 (by decide) e73 rfl 19 rfl ?_
  refine pv_if_le (M := mX11_isDeed) (tgt := 26) dX11_isDeed_19 22 rfl (by decide) (fun _ => ?_) (fun q => absurd (by decide) q)
  refine pv_iconst (M := mX11_isDeed) (v := 0) dX11_isDeed_26 27 rfl (by decide) ?_
  exact pv_iret (M := mX11_isDeed) dX11_isDeed_27 rfl rfl ⟨rfl, rfl⟩

set_option maxHeartbeats 400000 in
set_option maxRecDepth 20000 in
theorem k_X11_isDeed_8 (g : pv_G) {h : List pv_C} (e0 : h[0]? = some (pv_o 11 [.ref 1, .ref 3, .int 0, .ref 60, .ref 77, .ref 86, .ref 97, .int 0, .int 1, .ref 104, .ref 107, .ref 112, .null, .ref 116, .ref 120, .ref 121, .ref 122])) (e60 : h[60]? = some (pv_q 5 8 (va_up (va_up (va_up (va_up (va_up (va_up (va_up (va_up (fun _ => none) 0 (some (61))) 1 (some (63))) 2 (some (65))) 3 (some (67))) 4 (some (69))) 5 (some (71))) 6 (some (73))) 7 (some (75))))) (e75 : h[75]? = some (pv_o 8 [.ref 76, .int 0])) : PM g mX11_isDeed yX11_isDeed (pv_is (some (.int 0)) (h)) 1 0 0 [.ref 0, .int 7] h := by
  refine PM.of 0 (lo := [.ref 0, .int 7]) rfl (by decide) rfl rfl (Nat.le_of_ble_eq_true rfl) ?_
  refine pv_iload_n (M := mX11_isDeed) 1 dX11_isDeed_0 1 rfl rfl rfl ?_
  refine pv_if_lt (M := mX11_isDeed) (tgt := 26) dX11_isDeed_1 4 rfl (by decide) (fun q => absurd q (by decide)) (fun _ => ?_)
  refine pv_iload_n (M := mX11_isDeed) 1 dX11_isDeed_4 5 rfl rfl rfl ?_
  refine pv_bipush (M := mX11_isDeed) (v := 8) dX11_isDeed_5 7 rfl (by decide) ?_
  refine pv_icmp_ge (M := mX11_isDeed) (tgt := 26) dX11_isDeed_7 10 rfl (by decide) (fun q => absurd q (by decide)) (fun _ => ?_)
  refine pv_aload_n (M := mX11_isDeed) 0 dX11_isDeed_10 11 rfl rfl rfl ?_
  refine pv_get (M := mX11_isDeed) dX11_isDeed_11 FX11 3 wd410 (by decide) e0 rfl 14 rfl ?_
  refine pv_iload_n (M := mX11_isDeed) 1 dX11_isDeed_14 15 rfl rfl rfl ?_
  refine pv_aald (M := mX11_isDeed) dX11_isDeed_15 e60 (fun _ => rfl) (pv_in0 (by decide)) (v := .ref 75) rfl 16 rfl ?_
  refine pv_get (M := mX11_isDeed) dX11_isDeed_16 FX8 1 wd200 (by decide) e75 rfl 19 rfl ?_
  refine pv_if_le (M := mX11_isDeed) (tgt := 26) dX11_isDeed_19 22 rfl (by decide) (fun _ => ?_) (fun q => absurd (by decide) q)
  refine pv_iconst (M := mX11_isDeed) (v := 0) dX11_isDeed_26 27 rfl (by decide) ?_
  exact pv_iret (M := mX11_isDeed) dX11_isDeed_27 rfl rfl ⟨rfl, rfl⟩

set_option maxHeartbeats 400000 in
set_option maxRecDepth 20000 in
theorem k_X11_toldDeeds (g : pv_G) {h : List pv_C} (e0 : h[0]? = some (pv_o 11 [.ref 1, .ref 3, .int 0, .ref 60, .ref 77, .ref 86, .ref 97, .int 0, .int 1, .ref 104, .ref 107, .ref 112, .null, .ref 116, .ref 120, .ref 121, .ref 122])) (e60 : h[60]? = some (pv_q 5 8 (va_up (va_up (va_up (va_up (va_up (va_up (va_up (va_up (fun _ => none) 0 (some (61))) 1 (some (63))) 2 (some (65))) 3 (some (67))) 4 (some (69))) 5 (some (71))) 6 (some (73))) 7 (some (75))))) (e61 : h[61]? = some (pv_o 8 [.ref 62, .int 0])) (e63 : h[63]? = some (pv_o 8 [.ref 64, .int 0])) (e65 : h[65]? = some (pv_o 8 [.ref 66, .int 0])) (e67 : h[67]? = some (pv_o 8 [.ref 68, .int 0])) (e69 : h[69]? = some (pv_o 8 [.ref 70, .int 0])) (e71 : h[71]? = some (pv_o 8 [.ref 72, .int 0])) (e73 : h[73]? = some (pv_o 8 [.ref 74, .int 0])) (e75 : h[75]? = some (pv_o 8 [.ref 76, .int 0])) : PM g mX11_toldDeeds yX11_toldDeeds (pv_is (some (.int 0)) (h)) 2 0 0 [.ref 0] h := by
  refine PM.of 2 (lo := [.ref 0, pv_U, pv_U]) rfl (by decide) rfl rfl (Nat.le_of_ble_eq_true rfl) ?_
  refine pv_iconst (M := mX11_toldDeeds) (v := 0) dX11_toldDeeds_0 1 rfl (by decide) ?_
  refine pv_istore_n (M := mX11_toldDeeds) 1 (lo2 := [.ref 0, .int 0, pv_U]) dX11_toldDeeds_1 2 rfl rfl (by decide) rfl rfl ?_
  refine pv_iconst (M := mX11_toldDeeds) (v := 0) dX11_toldDeeds_2 3 rfl (by decide) ?_
  refine pv_istore_n (M := mX11_toldDeeds) 2 (lo2 := [.ref 0, .int 0, .int 0]) dX11_toldDeeds_3 4 rfl rfl (by decide) rfl rfl ?_
  refine pv_iload_n (M := mX11_toldDeeds) 2 dX11_toldDeeds_4 5 rfl rfl rfl ?_
  refine pv_bipush (M := mX11_toldDeeds) (v := 8) dX11_toldDeeds_5 7 rfl (by decide) ?_
  refine pv_icmp_ge (M := mX11_toldDeeds) (tgt := 30) dX11_toldDeeds_7 10 rfl (by decide) (fun q => absurd q (by decide)) (fun _ => ?_)
  refine pv_aload_n (M := mX11_toldDeeds) 0 dX11_toldDeeds_10 11 rfl rfl rfl ?_
  refine pv_iload_n (M := mX11_toldDeeds) 2 dX11_toldDeeds_11 12 rfl rfl rfl ?_
  refine pv_callv (M := mX11_toldDeeds) (as := [.int 0]) (st := []) (kc2 := 0) (ks2 := 0) dX11_toldDeeds_12 wd828 YX11_isDeed ⟨wd830, wd25⟩ e0 rfl rfl (k_X11_isDeed g e0 e60 e61) rfl rfl (Nat.le_of_ble_eq_true rfl) (by decide) rfl rfl 15 rfl (pv_k1 ?_)
  refine pv_if_eq (M := mX11_toldDeeds) (tgt := 24) dX11_toldDeeds_15 18 rfl (by decide) (fun _ => ?_) (fun q => absurd (by decide) q)
  refine pv_iinc (M := mX11_toldDeeds) (v := 1) (lo2 := [.ref 0, .int 0, .int 1]) dX11_toldDeeds_24 27 rfl rfl (by decide) (by decide) rfl rfl ?_
  refine pv_goto (M := mX11_toldDeeds) (tgt := 4) dX11_toldDeeds_27 (by decide) ?_
  refine pv_iload_n (M := mX11_toldDeeds) 2 dX11_toldDeeds_4 5 rfl rfl rfl ?_
  refine pv_bipush (M := mX11_toldDeeds) (v := 8) dX11_toldDeeds_5 7 rfl (by decide) ?_
  refine pv_icmp_ge (M := mX11_toldDeeds) (tgt := 30) dX11_toldDeeds_7 10 rfl (by decide) (fun q => absurd q (by decide)) (fun _ => ?_)
  refine pv_aload_n (M := mX11_toldDeeds) 0 dX11_toldDeeds_10 11 rfl rfl rfl ?_
  refine pv_iload_n (M := mX11_toldDeeds) 2 dX11_toldDeeds_11 12 rfl rfl rfl ?_
  refine pv_callv (M := mX11_toldDeeds) (as := [.int 1]) (st := []) (kc2 := 0) (ks2 := 0) dX11_toldDeeds_12 wd828 YX11_isDeed ⟨wd830, wd25⟩ e0 rfl rfl (k_X11_isDeed_2 g e0 e60 e63) rfl rfl (Nat.le_of_ble_eq_true rfl) (by decide) rfl rfl 15 rfl (pv_k1 ?_)
  refine pv_if_eq (M := mX11_toldDeeds) (tgt := 24) dX11_toldDeeds_15 18 rfl (by decide) (fun _ => ?_) (fun q => absurd (by decide) q)
  refine pv_iinc (M := mX11_toldDeeds) (v := 2) (lo2 := [.ref 0, .int 0, .int 2]) dX11_toldDeeds_24 27 rfl rfl (by decide) (by decide) rfl rfl ?_
  refine pv_goto (M := mX11_toldDeeds) (tgt := 4) dX11_toldDeeds_27 (by decide) ?_
  refine pv_iload_n (M := mX11_toldDeeds) 2 dX11_toldDeeds_4 5 rfl rfl rfl ?_
  refine pv_bipush (M := mX11_toldDeeds) (v := 8) dX11_toldDeeds_5 7 rfl (by decide) ?_
  refine pv_icmp_ge (M := mX11_toldDeeds) (tgt := 30) dX11_toldDeeds_7 10 rfl (by decide) (fun q => absurd q (by decide)) (fun _ => ?_)
  refine pv_aload_n (M := mX11_toldDeeds) 0 dX11_toldDeeds_10 11 rfl rfl rfl ?_
  refine pv_iload_n (M := mX11_toldDeeds) 2 dX11_toldDeeds_11 12 rfl rfl rfl ?_
  refine pv_callv (M := mX11_toldDeeds) (as := [.int 2]) (st := []) (kc2 := 0) (ks2 := 0) dX11_toldDeeds_12 wd828 YX11_isDeed ⟨wd830, wd25⟩ e0 rfl rfl (k_X11_isDeed_3 g e0 e60 e65) rfl rfl (Nat.le_of_ble_eq_true rfl) (by decide) rfl rfl 15 rfl (pv_k1 ?_)
  refine pv_if_eq (M := mX11_toldDeeds) (tgt := 24) dX11_toldDeeds_15 18 rfl (by decide) (fun _ => ?_) (fun q => absurd (by decide) q)
  refine pv_iinc (M := mX11_toldDeeds) (v := 3) (lo2 := [.ref 0, .int 0, .int 3]) dX11_toldDeeds_24 27 rfl rfl (by decide) (by decide) rfl rfl ?_
  refine pv_goto (M := mX11_toldDeeds) (tgt := 4) dX11_toldDeeds_27 (by decide) ?_
  refine pv_iload_n (M := mX11_toldDeeds) 2 dX11_toldDeeds_4 5 rfl rfl rfl ?_
  refine pv_bipush (M := mX11_toldDeeds) (v := 8) dX11_toldDeeds_5 7 rfl (by decide) ?_
  refine pv_icmp_ge (M := mX11_toldDeeds) (tgt := 30) dX11_toldDeeds_7 10 rfl (by decide) (fun q => absurd q (by decide)) (fun _ => ?_)
  refine pv_aload_n (M := mX11_toldDeeds) 0 dX11_toldDeeds_10 11 rfl rfl rfl ?_
  refine pv_iload_n (M := mX11_toldDeeds) 2 dX11_toldDeeds_11 12 rfl rfl rfl ?_
  refine pv_callv (M := mX11_toldDeeds) (as := [.int 3]) (st := []) (kc2 := 0) (ks2 := 0) dX11_toldDeeds_12 wd828 YX11_isDeed ⟨wd830, wd25⟩ e0 rfl rfl (k_X11_isDeed_4 g e0 e60 e67) rfl rfl (Nat.le_of_ble_eq_true rfl) (by decide) rfl rfl 15 rfl (pv_k1 ?_)
  refine pv_if_eq (M := mX11_toldDeeds) (tgt := 24) dX11_toldDeeds_15 18 rfl (by decide) (fun _ => ?_) (fun q => absurd (by decide) q)
  refine pv_iinc (M := mX11_toldDeeds) (v := 4) (lo2 := [.ref 0, .int 0, .int 4]) dX11_toldDeeds_24 27 rfl rfl (by decide) (by decide) rfl rfl ?_
  refine pv_goto (M := mX11_toldDeeds) (tgt := 4) dX11_toldDeeds_27 (by decide) ?_
  refine pv_iload_n (M := mX11_toldDeeds) 2 dX11_toldDeeds_4 5 rfl rfl rfl ?_
  refine pv_bipush (M := mX11_toldDeeds) (v := 8) dX11_toldDeeds_5 7 rfl (by decide) ?_
  refine pv_icmp_ge (M := mX11_toldDeeds) (tgt := 30) dX11_toldDeeds_7 10 rfl (by decide) (fun q => absurd q (by decide)) (fun _ => ?_)
  refine pv_aload_n (M := mX11_toldDeeds) 0 dX11_toldDeeds_10 11 rfl rfl rfl ?_
  refine pv_iload_n (M := mX11_toldDeeds) 2 dX11_toldDeeds_11 12 rfl rfl rfl ?_
  refine pv_callv (M := mX11_toldDeeds) (as := [.int 4]) (st := []) (kc2 := 0) (ks2 := 0) dX11_toldDeeds_12 wd828 YX11_isDeed ⟨wd830, wd25⟩ e0 rfl rfl (k_X11_isDeed_5 g e0 e60 e69) rfl rfl (Nat.le_of_ble_eq_true rfl) (by decide) rfl rfl 15 rfl (pv_k1 ?_)
  refine pv_if_eq (M := mX11_toldDeeds) (tgt := 24) dX11_toldDeeds_15 18 rfl (by decide) (fun _ => ?_) (fun q => absurd (by decide) q)
  refine pv_iinc (M := mX11_toldDeeds) (v := 5) (lo2 := [.ref 0, .int 0, .int 5]) dX11_toldDeeds_24 27 rfl rfl (by decide) (by decide) rfl rfl ?_
  refine pv_goto (M := mX11_toldDeeds) (tgt := 4) dX11_toldDeeds_27 (by decide) ?_
  refine pv_iload_n (M := mX11_toldDeeds) 2 dX11_toldDeeds_4 5 rfl rfl rfl ?_
  refine pv_bipush (M := mX11_toldDeeds) (v := 8) dX11_toldDeeds_5 7 rfl (by decide) ?_
  refine pv_icmp_ge (M := mX11_toldDeeds) (tgt := 30) dX11_toldDeeds_7 10 rfl (by decide) (fun q => absurd q (by decide)) (fun _ => ?_)
  refine pv_aload_n (M := mX11_toldDeeds) 0 dX11_toldDeeds_10 11 rfl rfl rfl ?_
  refine pv_iload_n (M := mX11_toldDeeds) 2 dX11_toldDeeds_11 12 rfl rfl rfl ?_
  refine pv_callv (M := mX11_toldDeeds) (as := [.int 5]) (st := []) (kc2 := 0) (ks2 := 0) dX11_toldDeeds_12 wd828 YX11_isDeed ⟨wd830, wd25⟩ e0 rfl rfl (k_X11_isDeed_6 g e0 e60 e71) rfl rfl (Nat.le_of_ble_eq_true rfl) (by decide) rfl rfl 15 rfl (pv_k1 ?_)
  refine pv_if_eq (M := mX11_toldDeeds) (tgt := 24) dX11_toldDeeds_15 18 rfl (by decide) (fun _ => ?_) (fun q => absurd (by decide) q)
  refine pv_iinc (M := mX11_toldDeeds) (v := 6) (lo2 := [.ref 0, .int 0, .int 6]) dX11_toldDeeds_24 27 rfl rfl (by decide) (by decide) rfl rfl ?_
  refine pv_goto (M := mX11_toldDeeds) (tgt := 4) dX11_toldDeeds_27 (by decide) ?_
  refine pv_iload_n (M := mX11_toldDeeds) 2 dX11_toldDeeds_4 5 rfl rfl rfl ?_
  refine pv_bipush (M := mX11_toldDeeds) (v := 8) dX11_toldDeeds_5 7 rfl (by decide) ?_
  refine pv_icmp_ge (M := mX11_toldDeeds) (tgt := 30) dX11_toldDeeds_7 10 rfl (by decide) (fun q => absurd q (by decide)) (fun _ => ?_)
  refine pv_aload_n (M := mX11_toldDeeds) 0 dX11_toldDeeds_10 11 rfl rfl rfl ?_
  refine pv_iload_n (M := mX11_toldDeeds) 2 dX11_toldDeeds_11 12 rfl rfl rfl ?_
  refine pv_callv (M := mX11_toldDeeds) (as := [.int 6]) (st := []) (kc2 := 0) (ks2 := 0) dX11_toldDeeds_12 wd828 YX11_isDeed ⟨wd830, wd25⟩ e0 rfl rfl (k_X11_isDeed_7 g e0 e60 e73) rfl rfl (Nat.le_of_ble_eq_true rfl) (by decide) rfl rfl 15 rfl (pv_k1 ?_)
  refine pv_if_eq (M := mX11_toldDeeds) (tgt := 24) dX11_toldDeeds_15 18 rfl (by decide) (fun _ => ?_) (fun q => absurd (by decide) q)
  refine pv_iinc (M := mX11_toldDeeds) (v := 7) (lo2 := [.ref 0, .int 0, .int 7]) dX11_toldDeeds_24 27 rfl rfl (by decide) (by decide) rfl rfl ?_
  refine pv_goto (M := mX11_toldDeeds) (tgt := 4) dX11_toldDeeds_27 (by decide) ?_
  refine pv_iload_n (M := mX11_toldDeeds) 2 dX11_toldDeeds_4 5 rfl rfl rfl ?_
  refine pv_bipush (M := mX11_toldDeeds) (v := 8) dX11_toldDeeds_5 7 rfl (by decide) ?_
  refine pv_icmp_ge (M := mX11_toldDeeds) (tgt := 30) dX11_toldDeeds_7 10 rfl (by decide) (fun q => absurd q (by decide)) (fun _ => ?_)
  refine pv_aload_n (M := mX11_toldDeeds) 0 dX11_toldDeeds_10 11 rfl rfl rfl ?_
  refine pv_iload_n (M := mX11_toldDeeds) 2 dX11_toldDeeds_11 12 rfl rfl rfl ?_
  refine pv_callv (M := mX11_toldDeeds) (as := [.int 7]) (st := []) (kc2 := 0) (ks2 := 0) dX11_toldDeeds_12 wd828 YX11_isDeed ⟨wd830, wd25⟩ e0 rfl rfl (k_X11_isDeed_8 g e0 e60 e75) rfl rfl (Nat.le_of_ble_eq_true rfl) (by decide) rfl rfl 15 rfl (pv_k1 ?_)
  refine pv_if_eq (M := mX11_toldDeeds) (tgt := 24) dX11_toldDeeds_15 18 rfl (by decide) (fun _ => ?_) (fun q => absurd (by decide) q)
  refine pv_iinc (M := mX11_toldDeeds) (v := 8) (lo2 := [.ref 0, .int 0, .int 8]) dX11_toldDeeds_24 27 rfl rfl (by decide) (by decide) rfl rfl ?_
  refine pv_goto (M := mX11_toldDeeds) (tgt := 4) dX11_toldDeeds_27 (by decide) ?_
  refine pv_iload_n (M := mX11_toldDeeds) 2 dX11_toldDeeds_4 5 rfl rfl rfl ?_
  refine pv_bipush (M := mX11_toldDeeds) (v := 8) dX11_toldDeeds_5 7 rfl (by decide) ?_
  refine pv_icmp_ge (M := mX11_toldDeeds) (tgt := 30) dX11_toldDeeds_7 10 rfl (by decide) (fun _ => ?_) (fun q => absurd (by decide) q)
  refine pv_iload_n (M := mX11_toldDeeds) 1 dX11_toldDeeds_30 31 rfl rfl rfl ?_
  exact pv_iret (M := mX11_toldDeeds) dX11_toldDeeds_31 rfl rfl ⟨rfl, rfl⟩

set_option maxHeartbeats 400000 in
set_option maxRecDepth 20000 in
theorem k_X11_areDeeds (g : pv_G) {h : List pv_C} (a1 : Int32) (e0 : h[0]? = some (pv_o 11 [.ref 1, .ref 3, .int 0, .ref 60, .ref 77, .ref 86, .ref 97, .int 0, .int 1, .ref 104, .ref 107, .ref 112, .null, .ref 116, .ref 120, .ref 121, .ref 122])) (e60 : h[60]? = some (pv_q 5 8 (va_up (va_up (va_up (va_up (va_up (va_up (va_up (va_up (fun _ => none) 0 (some (61))) 1 (some (63))) 2 (some (65))) 3 (some (67))) 4 (some (69))) 5 (some (71))) 6 (some (73))) 7 (some (75))))) (e61 : h[61]? = some (pv_o 8 [.ref 62, .int 0])) (e63 : h[63]? = some (pv_o 8 [.ref 64, .int 0])) (e65 : h[65]? = some (pv_o 8 [.ref 66, .int 0])) (e67 : h[67]? = some (pv_o 8 [.ref 68, .int 0])) (e69 : h[69]? = some (pv_o 8 [.ref 70, .int 0])) (e71 : h[71]? = some (pv_o 8 [.ref 72, .int 0])) (e73 : h[73]? = some (pv_o 8 [.ref 74, .int 0])) (e75 : h[75]? = some (pv_o 8 [.ref 76, .int 0])) : PM g mX11_areDeeds yX11_areDeeds (pv_is (some (.int (if a1 = 0 then 1 else 0))) (h)) 3 0 0 [.ref 0, .int a1] h := by
  refine PM.of 0 (lo := [.ref 0, .int a1]) rfl (by decide) rfl rfl (Nat.le_of_ble_eq_true rfl) ?_
  refine pv_iload_n (M := mX11_areDeeds) 1 dX11_areDeeds_0 1 rfl rfl rfl ?_
  refine pv_aload_n (M := mX11_areDeeds) 0 dX11_areDeeds_1 2 rfl rfl rfl ?_
  refine pv_callv (M := mX11_areDeeds) (as := []) (st := [.int a1]) (kc2 := 0) (ks2 := 0) dX11_areDeeds_2 wd923 YX11_toldDeeds ⟨wd925, wd34⟩ e0 rfl rfl (k_X11_toldDeeds g e0 e60 e61 e63 e65 e67 e69 e71 e73 e75) rfl rfl (Nat.le_of_ble_eq_true rfl) (by decide) rfl rfl 5 rfl (pv_k1 ?_)
  refine pv_iconst (M := mX11_areDeeds) (v := (-1)) dX11_areDeeds_5 6 rfl (by decide) ?_
  refine pv_ixor (M := mX11_areDeeds) (v := (-1)) dX11_areDeeds_6 7 rfl (by decide) ?_
  refine pv_iand (M := mX11_areDeeds) (v := a1) dX11_areDeeds_7 8 rfl (pv_z4 _) ?_
  refine pv_if_ne (M := mX11_areDeeds) (tgt := 15) dX11_areDeeds_8 11 rfl (by decide) (fun c1 => ?_) (fun c1 => ?_)
  · refine pv_iconst (M := mX11_areDeeds) (v := 0) dX11_areDeeds_15 16 rfl (by decide) ?_
    exact pv_iret (M := mX11_areDeeds) dX11_areDeeds_16 rfl rfl ⟨(by rw [if_neg c1] <;> rfl), rfl⟩
  · subst c1
    refine pv_iconst (M := mX11_areDeeds) (v := 1) dX11_areDeeds_11 12 rfl (by decide) ?_
    refine pv_goto (M := mX11_areDeeds) (tgt := 16) dX11_areDeeds_12 (by decide) ?_
    exact pv_iret (M := mX11_areDeeds) dX11_areDeeds_16 rfl rfl ⟨(by rw [if_pos rfl] <;> rfl), rfl⟩

set_option maxHeartbeats 400000 in
set_option maxRecDepth 20000 in
theorem k_X11_hidden (g : pv_G) {h : List pv_C} (a1 : Int32) (a2 : Int32) (e0 : h[0]? = some (pv_o 11 [.ref 1, .ref 3, .int 0, .ref 60, .ref 77, .ref 86, .ref 97, .int 0, .int 1, .ref 104, .ref 107, .ref 112, .null, .ref 116, .ref 120, .ref 121, .ref 122])) (e60 : h[60]? = some (pv_q 5 8 (va_up (va_up (va_up (va_up (va_up (va_up (va_up (va_up (fun _ => none) 0 (some (61))) 1 (some (63))) 2 (some (65))) 3 (some (67))) 4 (some (69))) 5 (some (71))) 6 (some (73))) 7 (some (75))))) (e61 : h[61]? = some (pv_o 8 [.ref 62, .int 0])) (e63 : h[63]? = some (pv_o 8 [.ref 64, .int 0])) (e65 : h[65]? = some (pv_o 8 [.ref 66, .int 0])) (e67 : h[67]? = some (pv_o 8 [.ref 68, .int 0])) (e69 : h[69]? = some (pv_o 8 [.ref 70, .int 0])) (e71 : h[71]? = some (pv_o 8 [.ref 72, .int 0])) (e73 : h[73]? = some (pv_o 8 [.ref 74, .int 0])) (e75 : h[75]? = some (pv_o 8 [.ref 76, .int 0])) : PM g mX11_hidden yX11_hidden (pv_is (some (.int (-1))) (h)) 4 0 0 [.ref 0, .int a1, .int a2] h := by
  refine PM.of 2 (lo := [.ref 0, .int a1, .int a2, pv_U, pv_U]) rfl (by decide) rfl rfl (Nat.le_of_ble_eq_true rfl) ?_
  refine pv_iload_n (M := mX11_hidden) 1 dX11_hidden_0 1 rfl rfl rfl ?_
  refine pv_calls (M := mX11_hidden) (as := [.int a1]) (st := []) (kc2 := 0) (ks2 := 0) dX11_hidden_1 wd913 YJ6_bitCount_0f7a4 wd914 (k_J6_bitCount_0f7a4 g a1) rfl rfl (Nat.le_of_ble_eq_true rfl) (by decide) rfl rfl 4 rfl (pv_k1 ?_)
  refine pv_istore_n (M := mX11_hidden) 3 (lo2 := [.ref 0, .int a1, .int a2, .int (bcnt a1), pv_U]) dX11_hidden_4 5 rfl rfl (by decide) rfl rfl ?_
  refine pv_aload_n (M := mX11_hidden) 0 dX11_hidden_5 6 rfl rfl rfl ?_
  refine pv_iload_n (M := mX11_hidden) 1 dX11_hidden_6 7 rfl rfl rfl ?_
  refine pv_callv (M := mX11_hidden) (as := [.int a1]) (st := []) (kc2 := 0) (ks2 := 0) dX11_hidden_7 wd919 YX11_areDeeds ⟨wd921, wd33⟩ e0 rfl rfl (k_X11_areDeeds g a1 e0 e60 e61 e63 e65 e67 e69 e71 e73 e75) rfl rfl (Nat.le_of_ble_eq_true rfl) (by decide) rfl rfl 10 rfl (pv_k1 ?_)
  by_cases c1 : a1 = 0
  · subst c1
    refine pv_top (M := mX11_hidden) (if_pos rfl) ?_
    refine pv_if_eq (M := mX11_hidden) (tgt := 28) dX11_hidden_10 13 rfl (by decide) (fun q => absurd q (by decide)) (fun _ => ?_)
    refine pv_iload_n (M := mX11_hidden) 3 dX11_hidden_13 14 rfl rfl rfl ?_
    refine pv_iconst (M := mX11_hidden) (v := 2) dX11_hidden_14 15 rfl (by decide) ?_
    refine pv_icmp_lt (M := mX11_hidden) (tgt := 28) dX11_hidden_15 18 rfl (by decide) (fun _ => ?_) (fun q => absurd (by decide) q)
    refine pv_iconst (M := mX11_hidden) (v := (-1)) dX11_hidden_28 29 rfl (by decide) ?_
    exact pv_iret (M := mX11_hidden) dX11_hidden_29 rfl rfl ⟨rfl, rfl⟩
  · refine pv_top (M := mX11_hidden) (if_neg c1) ?_
    refine pv_if_eq (M := mX11_hidden) (tgt := 28) dX11_hidden_10 13 rfl (by decide) (fun _ => ?_) (fun q => absurd (by decide) q)
    refine pv_iconst (M := mX11_hidden) (v := (-1)) dX11_hidden_28 29 rfl (by decide) ?_
    exact pv_iret (M := mX11_hidden) dX11_hidden_29 rfl rfl ⟨rfl, rfl⟩

set_option maxHeartbeats 400000 in
set_option maxRecDepth 20000 in
theorem k_X11_refuseCover (g : pv_G) {h : List pv_C} (a1 : Int32) (e0 : h[0]? = some (pv_o 11 [.ref 1, .ref 3, .int 0, .ref 60, .ref 77, .ref 86, .ref 97, .int 0, .int 1, .ref 104, .ref 107, .ref 112, .null, .ref 116, .ref 120, .ref 121, .ref 122])) (e60 : h[60]? = some (pv_q 5 8 (va_up (va_up (va_up (va_up (va_up (va_up (va_up (va_up (fun _ => none) 0 (some (61))) 1 (some (63))) 2 (some (65))) 3 (some (67))) 4 (some (69))) 5 (some (71))) 6 (some (73))) 7 (some (75))))) (e61 : h[61]? = some (pv_o 8 [.ref 62, .int 0])) (e63 : h[63]? = some (pv_o 8 [.ref 64, .int 0])) (e65 : h[65]? = some (pv_o 8 [.ref 66, .int 0])) (e67 : h[67]? = some (pv_o 8 [.ref 68, .int 0])) (e69 : h[69]? = some (pv_o 8 [.ref 70, .int 0])) (e71 : h[71]? = some (pv_o 8 [.ref 72, .int 0])) (e73 : h[73]? = some (pv_o 8 [.ref 74, .int 0])) (e75 : h[75]? = some (pv_o 8 [.ref 76, .int 0])) : PM g mX11_refuseCover yX11_refuseCover (pv_is (some (.int (-1))) (h)) 4 0 0 [.ref 0, .int a1] h := by
  refine PM.of 2 (lo := [.ref 0, .int a1, pv_U, pv_U]) rfl (by decide) rfl rfl (Nat.le_of_ble_eq_true rfl) ?_
  refine pv_iload_n (M := mX11_refuseCover) 1 dX11_refuseCover_0 1 rfl rfl rfl ?_
  refine pv_calls (M := mX11_refuseCover) (as := [.int a1]) (st := []) (kc2 := 0) (ks2 := 0) dX11_refuseCover_1 wd913 YJ6_bitCount_0f7a4 wd914 (k_J6_bitCount_0f7a4 g a1) rfl rfl (Nat.le_of_ble_eq_true rfl) (by decide) rfl rfl 4 rfl (pv_k1 ?_)
  refine pv_istore_n (M := mX11_refuseCover) 2 (lo2 := [.ref 0, .int a1, .int (bcnt a1), pv_U]) dX11_refuseCover_4 5 rfl rfl (by decide) rfl rfl ?_
  refine pv_aload_n (M := mX11_refuseCover) 0 dX11_refuseCover_5 6 rfl rfl rfl ?_
  refine pv_iload_n (M := mX11_refuseCover) 1 dX11_refuseCover_6 7 rfl rfl rfl ?_
  refine pv_callv (M := mX11_refuseCover) (as := [.int a1]) (st := []) (kc2 := 0) (ks2 := 0) dX11_refuseCover_7 wd919 YX11_areDeeds ⟨wd921, wd33⟩ e0 rfl rfl (k_X11_areDeeds g a1 e0 e60 e61 e63 e65 e67 e69 e71 e73 e75) rfl rfl (Nat.le_of_ble_eq_true rfl) (by decide) rfl rfl 10 rfl (pv_k1 ?_)
  by_cases c1 : a1 = 0
  · subst c1
    refine pv_top (M := mX11_refuseCover) (if_pos rfl) ?_
    refine pv_if_eq (M := mX11_refuseCover) (tgt := 23) dX11_refuseCover_10 13 rfl (by decide) (fun q => absurd q (by decide)) (fun _ => ?_)
    refine pv_iload_n (M := mX11_refuseCover) 2 dX11_refuseCover_13 14 rfl rfl rfl ?_
    refine pv_iconst (M := mX11_refuseCover) (v := 2) dX11_refuseCover_14 15 rfl (by decide) ?_
    refine pv_icmp_lt (M := mX11_refuseCover) (tgt := 23) dX11_refuseCover_15 18 rfl (by decide) (fun _ => ?_) (fun q => absurd (by decide) q)
    refine pv_iconst (M := mX11_refuseCover) (v := (-1)) dX11_refuseCover_23 24 rfl (by decide) ?_
    exact pv_iret (M := mX11_refuseCover) dX11_refuseCover_24 rfl rfl ⟨rfl, rfl⟩
  · refine pv_top (M := mX11_refuseCover) (if_neg c1) ?_
    refine pv_if_eq (M := mX11_refuseCover) (tgt := 23) dX11_refuseCover_10 13 rfl (by decide) (fun _ => ?_) (fun q => absurd (by decide) q)
    refine pv_iconst (M := mX11_refuseCover) (v := (-1)) dX11_refuseCover_23 24 rfl (by decide) ?_
    exact pv_iret (M := mX11_refuseCover) dX11_refuseCover_24 rfl rfl ⟨rfl, rfl⟩

set_option maxHeartbeats 400000 in
set_option maxRecDepth 20000 in
theorem k_X11_shortest (g : pv_G) {h : List pv_C} (a1 : Int32) (a2 : Int32) (e0 : h[0]? = some (pv_o 11 [.ref 1, .ref 3, .int 0, .ref 60, .ref 77, .ref 86, .ref 97, .int 0, .int 1, .ref 104, .ref 107, .ref 112, .null, .ref 116, .ref 120, .ref 121, .ref 122])) (e60 : h[60]? = some (pv_q 5 8 (va_up (va_up (va_up (va_up (va_up (va_up (va_up (va_up (fun _ => none) 0 (some (61))) 1 (some (63))) 2 (some (65))) 3 (some (67))) 4 (some (69))) 5 (some (71))) 6 (some (73))) 7 (some (75))))) (e61 : h[61]? = some (pv_o 8 [.ref 62, .int 0])) (e63 : h[63]? = some (pv_o 8 [.ref 64, .int 0])) (e65 : h[65]? = some (pv_o 8 [.ref 66, .int 0])) (e67 : h[67]? = some (pv_o 8 [.ref 68, .int 0])) (e69 : h[69]? = some (pv_o 8 [.ref 70, .int 0])) (e71 : h[71]? = some (pv_o 8 [.ref 72, .int 0])) (e73 : h[73]? = some (pv_o 8 [.ref 74, .int 0])) (e75 : h[75]? = some (pv_o 8 [.ref 76, .int 0])) : PM g mX11_shortest yX11_shortest (pv_is (some (.int (-1))) (h)) 5 0 0 [.ref 0, .int a1, .int a2] h := by
  refine PM.of 2 (lo := [.ref 0, .int a1, .int a2, pv_U, pv_U]) rfl (by decide) rfl rfl (Nat.le_of_ble_eq_true rfl) ?_
  refine pv_iload_n (M := mX11_shortest) 2 dX11_shortest_0 1 rfl rfl rfl ?_
  refine pv_iconst (M := mX11_shortest) (v := (-1)) dX11_shortest_1 2 rfl (by decide) ?_
  refine pv_icmp_ge (M := mX11_shortest) (tgt := 7) dX11_shortest_2 5 rfl (by decide) (fun c1 => ?_) (fun c1 => ?_)
  · refine pv_aload_n (M := mX11_shortest) 0 dX11_shortest_7 8 rfl rfl rfl ?_
    refine pv_iload_n (M := mX11_shortest) 1 dX11_shortest_8 9 rfl rfl rfl ?_
    refine pv_callv (M := mX11_shortest) (as := [.int a1]) (st := []) (kc2 := 0) (ks2 := 0) dX11_shortest_9 wd959 YX11_refuseCover ⟨wd961, wd38⟩ e0 rfl rfl (k_X11_refuseCover g a1 e0 e60 e61 e63 e65 e67 e69 e71 e73 e75) rfl rfl (Nat.le_of_ble_eq_true rfl) (by decide) rfl rfl 12 rfl (pv_k1 ?_)
    refine pv_istore_n (M := mX11_shortest) 3 (lo2 := [.ref 0, .int a1, .int a2, .int (-1), pv_U]) dX11_shortest_12 13 rfl rfl (by decide) rfl rfl ?_
    refine pv_iload_n (M := mX11_shortest) 3 dX11_shortest_13 14 rfl rfl rfl ?_
    refine pv_if_eq (M := mX11_shortest) (tgt := 19) dX11_shortest_14 17 rfl (by decide) (fun q => absurd q (by decide)) (fun _ => ?_)
    refine pv_iload_n (M := mX11_shortest) 3 dX11_shortest_17 18 rfl rfl rfl ?_
    exact pv_iret (M := mX11_shortest) dX11_shortest_18 rfl rfl ⟨rfl, rfl⟩
  · refine pv_iconst (M := mX11_shortest) (v := (-1)) dX11_shortest_5 6 rfl (by decide) ?_
    exact pv_iret (M := mX11_shortest) dX11_shortest_6 rfl rfl ⟨rfl, rfl⟩

set_option maxHeartbeats 400000 in
set_option maxRecDepth 20000 in
theorem k_X11_shortestMany (g : pv_G) {h : List pv_C} (a1 : Int32) (e0 : h[0]? = some (pv_o 11 [.ref 1, .ref 3, .int 0, .ref 60, .ref 77, .ref 86, .ref 97, .int 0, .int 1, .ref 104, .ref 107, .ref 112, .null, .ref 116, .ref 120, .ref 121, .ref 122])) (e60 : h[60]? = some (pv_q 5 8 (va_up (va_up (va_up (va_up (va_up (va_up (va_up (va_up (fun _ => none) 0 (some (61))) 1 (some (63))) 2 (some (65))) 3 (some (67))) 4 (some (69))) 5 (some (71))) 6 (some (73))) 7 (some (75))))) (e61 : h[61]? = some (pv_o 8 [.ref 62, .int 0])) (e63 : h[63]? = some (pv_o 8 [.ref 64, .int 0])) (e65 : h[65]? = some (pv_o 8 [.ref 66, .int 0])) (e67 : h[67]? = some (pv_o 8 [.ref 68, .int 0])) (e69 : h[69]? = some (pv_o 8 [.ref 70, .int 0])) (e71 : h[71]? = some (pv_o 8 [.ref 72, .int 0])) (e73 : h[73]? = some (pv_o 8 [.ref 74, .int 0])) (e75 : h[75]? = some (pv_o 8 [.ref 76, .int 0])) : PM g mX11_shortestMany yX11_shortestMany (pv_is (some (.long (-1))) (h)) 5 0 0 [.ref 0, .int a1] h := by
  refine PM.of 1 (lo := [.ref 0, .int a1, pv_U]) rfl (by decide) rfl rfl (Nat.le_of_ble_eq_true rfl) ?_
  refine pv_aload_n (M := mX11_shortestMany) 0 dX11_shortestMany_0 1 rfl rfl rfl ?_
  refine pv_iload_n (M := mX11_shortestMany) 1 dX11_shortestMany_1 2 rfl rfl rfl ?_
  refine pv_callv (M := mX11_shortestMany) (as := [.int a1]) (st := []) (kc2 := 0) (ks2 := 0) dX11_shortestMany_2 wd959 YX11_refuseCover ⟨wd961, wd38⟩ e0 rfl rfl (k_X11_refuseCover g a1 e0 e60 e61 e63 e65 e67 e69 e71 e73 e75) rfl rfl (Nat.le_of_ble_eq_true rfl) (by decide) rfl rfl 5 rfl (pv_k1 ?_)
  refine pv_istore_n (M := mX11_shortestMany) 2 (lo2 := [.ref 0, .int a1, .int (-1)]) dX11_shortestMany_5 6 rfl rfl (by decide) rfl rfl ?_
  refine pv_iload_n (M := mX11_shortestMany) 2 dX11_shortestMany_6 7 rfl rfl rfl ?_
  refine pv_if_eq (M := mX11_shortestMany) (tgt := 13) dX11_shortestMany_7 10 rfl (by decide) (fun q => absurd q (by decide)) (fun _ => ?_)
  refine pv_iload_n (M := mX11_shortestMany) 2 dX11_shortestMany_10 11 rfl rfl rfl ?_
  refine pv_i2l (M := mX11_shortestMany) (v := (-1)) dX11_shortestMany_11 12 rfl (by decide) ?_
  exact pv_lret (M := mX11_shortestMany) dX11_shortestMany_12 rfl ⟨rfl, rfl⟩

set_option maxHeartbeats 400000 in
set_option maxRecDepth 20000 in
theorem k_X11_bound (g : pv_G) {h : List pv_C} (a1 : Int32) (e0 : h[0]? = some (pv_o 11 [.ref 1, .ref 3, .int 0, .ref 60, .ref 77, .ref 86, .ref 97, .int 0, .int 1, .ref 104, .ref 107, .ref 112, .null, .ref 116, .ref 120, .ref 121, .ref 122])) (e60 : h[60]? = some (pv_q 5 8 (va_up (va_up (va_up (va_up (va_up (va_up (va_up (va_up (fun _ => none) 0 (some (61))) 1 (some (63))) 2 (some (65))) 3 (some (67))) 4 (some (69))) 5 (some (71))) 6 (some (73))) 7 (some (75))))) (e61 : h[61]? = some (pv_o 8 [.ref 62, .int 0])) (e63 : h[63]? = some (pv_o 8 [.ref 64, .int 0])) (e65 : h[65]? = some (pv_o 8 [.ref 66, .int 0])) (e67 : h[67]? = some (pv_o 8 [.ref 68, .int 0])) (e69 : h[69]? = some (pv_o 8 [.ref 70, .int 0])) (e71 : h[71]? = some (pv_o 8 [.ref 72, .int 0])) (e73 : h[73]? = some (pv_o 8 [.ref 74, .int 0])) (e75 : h[75]? = some (pv_o 8 [.ref 76, .int 0])) : PM g mX11_bound yX11_bound (pv_is (some (.int (-1))) (h)) 5 0 0 [.ref 0, .int a1] h := by
  refine PM.of 4 (lo := [.ref 0, .int a1, pv_U, pv_U, pv_U, pv_U]) rfl (by decide) rfl rfl (Nat.le_of_ble_eq_true rfl) ?_
  refine pv_aload_n (M := mX11_bound) 0 dX11_bound_0 1 rfl rfl rfl ?_
  refine pv_iload_n (M := mX11_bound) 1 dX11_bound_1 2 rfl rfl rfl ?_
  refine pv_callv (M := mX11_bound) (as := [.int a1]) (st := []) (kc2 := 0) (ks2 := 0) dX11_bound_2 wd959 YX11_refuseCover ⟨wd961, wd38⟩ e0 rfl rfl (k_X11_refuseCover g a1 e0 e60 e61 e63 e65 e67 e69 e71 e73 e75) rfl rfl (Nat.le_of_ble_eq_true rfl) (by decide) rfl rfl 5 rfl (pv_k1 ?_)
  refine pv_istore_n (M := mX11_bound) 2 (lo2 := [.ref 0, .int a1, .int (-1), pv_U, pv_U, pv_U]) dX11_bound_5 6 rfl rfl (by decide) rfl rfl ?_
  refine pv_iload_n (M := mX11_bound) 2 dX11_bound_6 7 rfl rfl rfl ?_
  refine pv_if_eq (M := mX11_bound) (tgt := 12) dX11_bound_7 10 rfl (by decide) (fun q => absurd q (by decide)) (fun _ => ?_)
  refine pv_iload_n (M := mX11_bound) 2 dX11_bound_10 11 rfl rfl rfl ?_
  exact pv_iret (M := mX11_bound) dX11_bound_11 rfl rfl ⟨rfl, rfl⟩

set_option maxHeartbeats 400000 in
set_option maxRecDepth 20000 in
theorem k_X11_isDeed_9 (g : pv_G) {h : List pv_C} (a1 : Int32) (e0 : h[0]? = some (pv_o 11 [.ref 1, .ref 3, .int 0, .ref 60, .ref 77, .ref 86, .ref 97, .int 0, .int 1, .ref 104, .ref 107, .ref 112, .null, .ref 116, .ref 120, .ref 121, .ref 122])) (e60 : h[60]? = some (pv_q 5 8 (va_up (va_up (va_up (va_up (va_up (va_up (va_up (va_up (fun _ => none) 0 (some (61))) 1 (some (63))) 2 (some (65))) 3 (some (67))) 4 (some (69))) 5 (some (71))) 6 (some (73))) 7 (some (75))))) (e61 : h[61]? = some (pv_o 8 [.ref 62, .int 0])) (e63 : h[63]? = some (pv_o 8 [.ref 64, .int 0])) (e65 : h[65]? = some (pv_o 8 [.ref 66, .int 0])) (e67 : h[67]? = some (pv_o 8 [.ref 68, .int 0])) (e69 : h[69]? = some (pv_o 8 [.ref 70, .int 0])) (e71 : h[71]? = some (pv_o 8 [.ref 72, .int 0])) (e73 : h[73]? = some (pv_o 8 [.ref 74, .int 0])) (e75 : h[75]? = some (pv_o 8 [.ref 76, .int 0])) : PM g mX11_isDeed yX11_isDeed (pv_is (some (.int 0)) (h)) 1 0 0 [.ref 0, .int a1] h := by
  refine PM.of 0 (lo := [.ref 0, .int a1]) rfl (by decide) rfl rfl (Nat.le_of_ble_eq_true rfl) ?_
  refine pv_iload_n (M := mX11_isDeed) 1 dX11_isDeed_0 1 rfl rfl rfl ?_
  refine pv_if_lt (M := mX11_isDeed) (tgt := 26) dX11_isDeed_1 4 rfl (by decide) (fun c1 => ?_) (fun c1 => ?_)
  · refine pv_iconst (M := mX11_isDeed) (v := 0) dX11_isDeed_26 27 rfl (by decide) ?_
    exact pv_iret (M := mX11_isDeed) dX11_isDeed_27 rfl rfl ⟨rfl, rfl⟩
  · refine pv_iload_n (M := mX11_isDeed) 1 dX11_isDeed_4 5 rfl rfl rfl ?_
    refine pv_bipush (M := mX11_isDeed) (v := 8) dX11_isDeed_5 7 rfl (by decide) ?_
    refine pv_icmp_ge (M := mX11_isDeed) (tgt := 26) dX11_isDeed_7 10 rfl (by decide) (fun c2 => ?_) (fun c2 => ?_)
    · refine pv_iconst (M := mX11_isDeed) (v := 0) dX11_isDeed_26 27 rfl (by decide) ?_
      exact pv_iret (M := mX11_isDeed) dX11_isDeed_27 rfl rfl ⟨rfl, rfl⟩
    · refine pv_aload_n (M := mX11_isDeed) 0 dX11_isDeed_10 11 rfl rfl rfl ?_
      refine pv_get (M := mX11_isDeed) dX11_isDeed_11 FX11 3 wd410 (by decide) e0 rfl 14 rfl ?_
      refine pv_iload_n (M := mX11_isDeed) 1 dX11_isDeed_14 15 rfl rfl rfl ?_
      by_cases c3 : a1 = 0
      · subst c3
        refine pv_aald (M := mX11_isDeed) dX11_isDeed_15 e60 (fun _ => rfl) (pv_in0 (by decide)) (v := .ref 61) rfl 16 rfl ?_
        refine pv_get (M := mX11_isDeed) dX11_isDeed_16 FX8 1 wd200 (by decide) e61 rfl 19 rfl ?_
        refine pv_if_le (M := mX11_isDeed) (tgt := 26) dX11_isDeed_19 22 rfl (by decide) (fun _ => ?_) (fun q => absurd (by decide) q)
        refine pv_iconst (M := mX11_isDeed) (v := 0) dX11_isDeed_26 27 rfl (by decide) ?_
        exact pv_iret (M := mX11_isDeed) dX11_isDeed_27 rfl rfl ⟨rfl, rfl⟩
      by_cases c4 : a1 = 1
      · subst c4
        refine pv_aald (M := mX11_isDeed) dX11_isDeed_15 e60 (fun _ => rfl) (pv_in0 (by decide)) (v := .ref 63) rfl 16 rfl ?_
        refine pv_get (M := mX11_isDeed) dX11_isDeed_16 FX8 1 wd200 (by decide) e63 rfl 19 rfl ?_
        refine pv_if_le (M := mX11_isDeed) (tgt := 26) dX11_isDeed_19 22 rfl (by decide) (fun _ => ?_) (fun q => absurd (by decide) q)
        refine pv_iconst (M := mX11_isDeed) (v := 0) dX11_isDeed_26 27 rfl (by decide) ?_
        exact pv_iret (M := mX11_isDeed) dX11_isDeed_27 rfl rfl ⟨rfl, rfl⟩
      by_cases c5 : a1 = 2
      · subst c5
        refine pv_aald (M := mX11_isDeed) dX11_isDeed_15 e60 (fun _ => rfl) (pv_in0 (by decide)) (v := .ref 65) rfl 16 rfl ?_
        refine pv_get (M := mX11_isDeed) dX11_isDeed_16 FX8 1 wd200 (by decide) e65 rfl 19 rfl ?_
        refine pv_if_le (M := mX11_isDeed) (tgt := 26) dX11_isDeed_19 22 rfl (by decide) (fun _ => ?_) (fun q => absurd (by decide) q)
        refine pv_iconst (M := mX11_isDeed) (v := 0) dX11_isDeed_26 27 rfl (by decide) ?_
        exact pv_iret (M := mX11_isDeed) dX11_isDeed_27 rfl rfl ⟨rfl, rfl⟩
      by_cases c6 : a1 = 3
      · subst c6
        refine pv_aald (M := mX11_isDeed) dX11_isDeed_15 e60 (fun _ => rfl) (pv_in0 (by decide)) (v := .ref 67) rfl 16 rfl ?_
        refine pv_get (M := mX11_isDeed) dX11_isDeed_16 FX8 1 wd200 (by decide) e67 rfl 19 rfl ?_
        refine pv_if_le (M := mX11_isDeed) (tgt := 26) dX11_isDeed_19 22 rfl (by decide) (fun _ => ?_) (fun q => absurd (by decide) q)
        refine pv_iconst (M := mX11_isDeed) (v := 0) dX11_isDeed_26 27 rfl (by decide) ?_
        exact pv_iret (M := mX11_isDeed) dX11_isDeed_27 rfl rfl ⟨rfl, rfl⟩
      by_cases c7 : a1 = 4
      · subst c7
        refine pv_aald (M := mX11_isDeed) dX11_isDeed_15 e60 (fun _ => rfl) (pv_in0 (by decide)) (v := .ref 69) rfl 16 rfl ?_
        refine pv_get (M := mX11_isDeed) dX11_isDeed_16 FX8 1 wd200 (by decide) e69 rfl 19 rfl ?_
        refine pv_if_le (M := mX11_isDeed) (tgt := 26) dX11_isDeed_19 22 rfl (by decide) (fun _ => ?_) (fun q => absurd (by decide) q)
        refine pv_iconst (M := mX11_isDeed) (v := 0) dX11_isDeed_26 27 rfl (by decide) ?_
        exact pv_iret (M := mX11_isDeed) dX11_isDeed_27 rfl rfl ⟨rfl, rfl⟩
      by_cases c8 : a1 = 5
      · subst c8
        refine pv_aald (M := mX11_isDeed) dX11_isDeed_15 e60 (fun _ => rfl) (pv_in0 (by decide)) (v := .ref 71) rfl 16 rfl ?_
        refine pv_get (M := mX11_isDeed) dX11_isDeed_16 FX8 1 wd200 (by decide) e71 rfl 19 rfl ?_
        refine pv_if_le (M := mX11_isDeed) (tgt := 26) dX11_isDeed_19 22 rfl (by decide) (fun _ => ?_) (fun q => absurd (by decide) q)
        refine pv_iconst (M := mX11_isDeed) (v := 0) dX11_isDeed_26 27 rfl (by decide) ?_
        exact pv_iret (M := mX11_isDeed) dX11_isDeed_27 rfl rfl ⟨rfl, rfl⟩
      by_cases c9 : a1 = 6
      · subst c9
        refine pv_aald (M := mX11_isDeed) dX11_isDeed_15 e60 (fun _ => rfl) (pv_in0 (by decide)) (v := .ref 73) rfl 16 rfl ?_
        refine pv_get (M := mX11_isDeed) dX11_isDeed_16 FX8 1 wd200 (by decide) e73 rfl 19 rfl ?_
        refine pv_if_le (M := mX11_isDeed) (tgt := 26) dX11_isDeed_19 22 rfl (by decide) (fun _ => ?_) (fun q => absurd (by decide) q)
        refine pv_iconst (M := mX11_isDeed) (v := 0) dX11_isDeed_26 27 rfl (by decide) ?_
        exact pv_iret (M := mX11_isDeed) dX11_isDeed_27 rfl rfl ⟨rfl, rfl⟩
      by_cases c10 : a1 = 7
      · subst c10
        refine pv_aald (M := mX11_isDeed) dX11_isDeed_15 e60 (fun _ => rfl) (pv_in0 (by decide)) (v := .ref 75) rfl 16 rfl ?_
        refine pv_get (M := mX11_isDeed) dX11_isDeed_16 FX8 1 wd200 (by decide) e75 rfl 19 rfl ?_
        refine pv_if_le (M := mX11_isDeed) (tgt := 26) dX11_isDeed_19 22 rfl (by decide) (fun _ => ?_) (fun q => absurd (by decide) q)
        refine pv_iconst (M := mX11_isDeed) (v := 0) dX11_isDeed_26 27 rfl (by decide) ?_
        exact pv_iret (M := mX11_isDeed) dX11_isDeed_27 rfl rfl ⟨rfl, rfl⟩
      have b1 : (0 : Int) ≤ a1.toInt := (pv_b2 c1)
      have b2 : a1.toInt ≤ (7 : Int) := (pv_b8 c2)
      have d0 : a1.toInt ≠ 0 := fun e => c3 (Int32.toInt_inj.mp e)
      have d1 : a1.toInt ≠ 1 := fun e => c4 (Int32.toInt_inj.mp e)
      have d2 : a1.toInt ≠ 2 := fun e => c5 (Int32.toInt_inj.mp e)
      have d3 : a1.toInt ≠ 3 := fun e => c6 (Int32.toInt_inj.mp e)
      have d4 : a1.toInt ≠ 4 := fun e => c7 (Int32.toInt_inj.mp e)
      have d5 : a1.toInt ≠ 5 := fun e => c8 (Int32.toInt_inj.mp e)
      have d6 : a1.toInt ≠ 6 := fun e => c9 (Int32.toInt_inj.mp e)
      have d7 : a1.toInt ≠ 7 := fun e => c10 (Int32.toInt_inj.mp e)
      omega

set_option maxHeartbeats 400000 in
set_option maxRecDepth 20000 in
theorem k_X11_forged (g : pv_G) {h : List pv_C} (a1 : Int32) (e0 : h[0]? = some (pv_o 11 [.ref 1, .ref 3, .int 0, .ref 60, .ref 77, .ref 86, .ref 97, .int 0, .int 1, .ref 104, .ref 107, .ref 112, .null, .ref 116, .ref 120, .ref 121, .ref 122])) (e60 : h[60]? = some (pv_q 5 8 (va_up (va_up (va_up (va_up (va_up (va_up (va_up (va_up (fun _ => none) 0 (some (61))) 1 (some (63))) 2 (some (65))) 3 (some (67))) 4 (some (69))) 5 (some (71))) 6 (some (73))) 7 (some (75))))) (e61 : h[61]? = some (pv_o 8 [.ref 62, .int 0])) (e63 : h[63]? = some (pv_o 8 [.ref 64, .int 0])) (e65 : h[65]? = some (pv_o 8 [.ref 66, .int 0])) (e67 : h[67]? = some (pv_o 8 [.ref 68, .int 0])) (e69 : h[69]? = some (pv_o 8 [.ref 70, .int 0])) (e71 : h[71]? = some (pv_o 8 [.ref 72, .int 0])) (e73 : h[73]? = some (pv_o 8 [.ref 74, .int 0])) (e75 : h[75]? = some (pv_o 8 [.ref 76, .int 0])) : PM g mX11_forged yX11_forged (pv_is (some (.int (-1))) (h)) 2 0 0 [.ref 0, .int a1] h := by
  refine PM.of 1 (lo := [.ref 0, .int a1, pv_U]) rfl (by decide) rfl rfl (Nat.le_of_ble_eq_true rfl) ?_
  refine pv_aload_n (M := mX11_forged) 0 dX11_forged_0 1 rfl rfl rfl ?_
  refine pv_iload_n (M := mX11_forged) 1 dX11_forged_1 2 rfl rfl rfl ?_
  refine pv_callv (M := mX11_forged) (as := [.int a1]) (st := []) (kc2 := 0) (ks2 := 0) dX11_forged_2 wd828 YX11_isDeed ⟨wd830, wd25⟩ e0 rfl rfl (k_X11_isDeed_9 g a1 e0 e60 e61 e63 e65 e67 e69 e71 e73 e75) rfl rfl (Nat.le_of_ble_eq_true rfl) (by decide) rfl rfl 5 rfl (pv_k1 ?_)
  refine pv_if_ne (M := mX11_forged) (tgt := 10) dX11_forged_5 8 rfl (by decide) (fun q => absurd (by decide) q) (fun _ => ?_)
  refine pv_iconst (M := mX11_forged) (v := (-1)) dX11_forged_8 9 rfl (by decide) ?_
  exact pv_iret (M := mX11_forged) dX11_forged_9 rfl rfl ⟨rfl, rfl⟩

set_option maxHeartbeats 400000 in
set_option maxRecDepth 20000 in
theorem k_X11_spare (g : pv_G) {h : List pv_C} (a1 : Int32) (a2 : Int32) (e0 : h[0]? = some (pv_o 11 [.ref 1, .ref 3, .int 0, .ref 60, .ref 77, .ref 86, .ref 97, .int 0, .int 1, .ref 104, .ref 107, .ref 112, .null, .ref 116, .ref 120, .ref 121, .ref 122])) : PM g mX11_spare yX11_spare (pv_is (some (.long (-1))) (h)) 2 0 0 [.ref 0, .int a1, .int a2] h := by
  refine PM.of 4 (lo := [.ref 0, .int a1, .int a2, pv_U, pv_U, pv_U, pv_U]) rfl (by decide) rfl rfl (Nat.le_of_ble_eq_true rfl) ?_
  refine pv_aload_n (M := mX11_spare) 0 dX11_spare_0 1 rfl rfl rfl ?_
  refine pv_iload_n (M := mX11_spare) 1 dX11_spare_1 2 rfl rfl rfl ?_
  refine pv_callv (M := mX11_spare) (as := [.int a1]) (st := []) (kc2 := 0) (ks2 := 0) dX11_spare_2 wd700 YX11_isBlank ⟨wd702, wd16⟩ e0 rfl rfl (k_X11_isBlank g a1 e0) rfl rfl (Nat.le_of_ble_eq_true rfl) (by decide) rfl rfl 5 rfl (pv_k1 ?_)
  refine pv_if_eq (M := mX11_spare) (tgt := 16) dX11_spare_5 8 rfl (by decide) (fun _ => ?_) (fun q => absurd (by decide) q)
  refine pv_ldc2 (M := mX11_spare) (v := (-1)) dX11_spare_16 19 rfl wd832 ?_
  exact pv_lret (M := mX11_spare) dX11_spare_19 rfl ⟨rfl, rfl⟩

set_option maxHeartbeats 400000 in
set_option maxRecDepth 20000 in
theorem k_X11_dayEnd (g : pv_G) {h : List pv_C} (a1 : Int32) (a2 : Int32) (e0 : h[0]? = some (pv_o 11 [.ref 1, .ref 3, .int 0, .ref 60, .ref 77, .ref 86, .ref 97, .int 0, .int 1, .ref 104, .ref 107, .ref 112, .null, .ref 116, .ref 120, .ref 121, .ref 122])) (e60 : h[60]? = some (pv_q 5 8 (va_up (va_up (va_up (va_up (va_up (va_up (va_up (va_up (fun _ => none) 0 (some (61))) 1 (some (63))) 2 (some (65))) 3 (some (67))) 4 (some (69))) 5 (some (71))) 6 (some (73))) 7 (some (75))))) (e61 : h[61]? = some (pv_o 8 [.ref 62, .int 0])) (e63 : h[63]? = some (pv_o 8 [.ref 64, .int 0])) (e65 : h[65]? = some (pv_o 8 [.ref 66, .int 0])) (e67 : h[67]? = some (pv_o 8 [.ref 68, .int 0])) (e69 : h[69]? = some (pv_o 8 [.ref 70, .int 0])) (e71 : h[71]? = some (pv_o 8 [.ref 72, .int 0])) (e73 : h[73]? = some (pv_o 8 [.ref 74, .int 0])) (e75 : h[75]? = some (pv_o 8 [.ref 76, .int 0])) : PM g mX11_dayEnd yX11_dayEnd (pv_is (some (.int (-1))) (h)) 4 0 0 [.ref 0, .int a1, .int a2] h := by
  refine PM.of 0 (lo := [.ref 0, .int a1, .int a2]) rfl (by decide) rfl rfl (Nat.le_of_ble_eq_true rfl) ?_
  refine pv_aload_n (M := mX11_dayEnd) 0 dX11_dayEnd_0 1 rfl rfl rfl ?_
  refine pv_iload_n (M := mX11_dayEnd) 1 dX11_dayEnd_1 2 rfl rfl rfl ?_
  refine pv_callv (M := mX11_dayEnd) (as := [.int a1]) (st := []) (kc2 := 0) (ks2 := 0) dX11_dayEnd_2 wd919 YX11_areDeeds ⟨wd921, wd33⟩ e0 rfl rfl (k_X11_areDeeds g a1 e0 e60 e61 e63 e65 e67 e69 e71 e73 e75) rfl rfl (Nat.le_of_ble_eq_true rfl) (by decide) rfl rfl 5 rfl (pv_k1 ?_)
  by_cases c1 : a1 = 0
  · subst c1
    refine pv_top (M := mX11_dayEnd) (if_pos rfl) ?_
    refine pv_if_eq (M := mX11_dayEnd) (tgt := 12) dX11_dayEnd_5 8 rfl (by decide) (fun q => absurd q (by decide)) (fun _ => ?_)
    refine pv_iload_n (M := mX11_dayEnd) 1 dX11_dayEnd_8 9 rfl rfl rfl ?_
    refine pv_if_ne (M := mX11_dayEnd) (tgt := 14) dX11_dayEnd_9 12 rfl (by decide) (fun q => absurd (by decide) q) (fun _ => ?_)
    refine pv_iconst (M := mX11_dayEnd) (v := (-1)) dX11_dayEnd_12 13 rfl (by decide) ?_
    exact pv_iret (M := mX11_dayEnd) dX11_dayEnd_13 rfl rfl ⟨rfl, rfl⟩
  · refine pv_top (M := mX11_dayEnd) (if_neg c1) ?_
    refine pv_if_eq (M := mX11_dayEnd) (tgt := 12) dX11_dayEnd_5 8 rfl (by decide) (fun _ => ?_) (fun q => absurd (by decide) q)
    refine pv_iconst (M := mX11_dayEnd) (v := (-1)) dX11_dayEnd_12 13 rfl (by decide) ?_
    exact pv_iret (M := mX11_dayEnd) dX11_dayEnd_13 rfl rfl ⟨rfl, rfl⟩

set_option maxHeartbeats 400000 in
set_option maxRecDepth 20000 in
theorem k_X11_worth (g : pv_G) {h : List pv_C} (a1 : Int32) (a2 : Int32) (a3 : Int32) (e0 : h[0]? = some (pv_o 11 [.ref 1, .ref 3, .int 0, .ref 60, .ref 77, .ref 86, .ref 97, .int 0, .int 1, .ref 104, .ref 107, .ref 112, .null, .ref 116, .ref 120, .ref 121, .ref 122])) : PM g mX11_worth yX11_worth (pv_is (some (.int (-1000))) (h)) 2 0 0 [.ref 0, .int a1, .int a2, .int a3] h := by
  refine PM.of 2 (lo := [.ref 0, .int a1, .int a2, .int a3, pv_U, pv_U]) rfl (by decide) rfl rfl (Nat.le_of_ble_eq_true rfl) ?_
  refine pv_aload_n (M := mX11_worth) 0 dX11_worth_0 1 rfl rfl rfl ?_
  refine pv_iload_n (M := mX11_worth) 1 dX11_worth_1 2 rfl rfl rfl ?_
  refine pv_callv (M := mX11_worth) (as := [.int a1]) (st := []) (kc2 := 0) (ks2 := 0) dX11_worth_2 wd700 YX11_isBlank ⟨wd702, wd16⟩ e0 rfl rfl (k_X11_isBlank g a1 e0) rfl rfl (Nat.le_of_ble_eq_true rfl) (by decide) rfl rfl 5 rfl (pv_k1 ?_)
  refine pv_if_eq (M := mX11_worth) (tgt := 25) dX11_worth_5 8 rfl (by decide) (fun _ => ?_) (fun q => absurd (by decide) q)
  refine pv_sipush (M := mX11_worth) (v := (-1000)) dX11_worth_25 28 rfl (by decide) ?_
  exact pv_iret (M := mX11_worth) dX11_worth_28 rfl rfl ⟨rfl, rfl⟩

set_option maxHeartbeats 400000 in
set_option maxRecDepth 20000 in
theorem k_X11_family (g : pv_G) {h : List pv_C} (a1 : Int32) (a2 : Int32) (a3 : Int32) (a4 : Int32) (e0 : h[0]? = some (pv_o 11 [.ref 1, .ref 3, .int 0, .ref 60, .ref 77, .ref 86, .ref 97, .int 0, .int 1, .ref 104, .ref 107, .ref 112, .null, .ref 116, .ref 120, .ref 121, .ref 122])) : PM g mX11_family yX11_family (pv_is (some (.int (-1))) (h)) 2 0 0 [.ref 0, .int a1, .int a2, .int a3, .int a4] h := by
  refine PM.of 2 (lo := [.ref 0, .int a1, .int a2, .int a3, .int a4, pv_U, pv_U]) rfl (by decide) rfl rfl (Nat.le_of_ble_eq_true rfl) ?_
  refine pv_aload_n (M := mX11_family) 0 dX11_family_0 1 rfl rfl rfl ?_
  refine pv_iload_n (M := mX11_family) 1 dX11_family_1 2 rfl rfl rfl ?_
  refine pv_callv (M := mX11_family) (as := [.int a1]) (st := []) (kc2 := 0) (ks2 := 0) dX11_family_2 wd700 YX11_isBlank ⟨wd702, wd16⟩ e0 rfl rfl (k_X11_isBlank g a1 e0) rfl rfl (Nat.le_of_ble_eq_true rfl) (by decide) rfl rfl 5 rfl (pv_k1 ?_)
  refine pv_if_eq (M := mX11_family) (tgt := 23) dX11_family_5 8 rfl (by decide) (fun _ => ?_) (fun q => absurd (by decide) q)
  refine pv_iconst (M := mX11_family) (v := (-1)) dX11_family_23 24 rfl (by decide) ?_
  exact pv_iret (M := mX11_family) dX11_family_24 rfl rfl ⟨rfl, rfl⟩

set_option maxHeartbeats 400000 in
set_option maxRecDepth 20000 in
theorem k_X11_chain (g : pv_G) {h : List pv_C} (a1 : Int32) (a2 : Int32) (e0 : h[0]? = some (pv_o 11 [.ref 1, .ref 3, .int 0, .ref 60, .ref 77, .ref 86, .ref 97, .int 0, .int 1, .ref 104, .ref 107, .ref 112, .null, .ref 116, .ref 120, .ref 121, .ref 122])) : PM g mX11_chain yX11_chain (pv_is (some (.int (-1))) (h)) 2 0 0 [.ref 0, .int a1, .int a2] h := by
  refine PM.of 1 (lo := [.ref 0, .int a1, .int a2, pv_U]) rfl (by decide) rfl rfl (Nat.le_of_ble_eq_true rfl) ?_
  refine pv_aload_n (M := mX11_chain) 0 dX11_chain_0 1 rfl rfl rfl ?_
  refine pv_iload_n (M := mX11_chain) 1 dX11_chain_1 2 rfl rfl rfl ?_
  refine pv_callv (M := mX11_chain) (as := [.int a1]) (st := []) (kc2 := 0) (ks2 := 0) dX11_chain_2 wd700 YX11_isBlank ⟨wd702, wd16⟩ e0 rfl rfl (k_X11_isBlank g a1 e0) rfl rfl (Nat.le_of_ble_eq_true rfl) (by decide) rfl rfl 5 rfl (pv_k1 ?_)
  refine pv_if_eq (M := mX11_chain) (tgt := 13) dX11_chain_5 8 rfl (by decide) (fun _ => ?_) (fun q => absurd (by decide) q)
  refine pv_iconst (M := mX11_chain) (v := (-1)) dX11_chain_13 14 rfl (by decide) ?_
  exact pv_iret (M := mX11_chain) dX11_chain_14 rfl rfl ⟨rfl, rfl⟩

set_option maxHeartbeats 400000 in
set_option maxRecDepth 20000 in
theorem k_X11_seed (g : pv_G) {h : List pv_C} (a1 : Int32) (e0 : h[0]? = some (pv_o 11 [.ref 1, .ref 3, .int 0, .ref 60, .ref 77, .ref 86, .ref 97, .int 0, .int 1, .ref 104, .ref 107, .ref 112, .null, .ref 116, .ref 120, .ref 121, .ref 122])) : PM g mX11_seed yX11_seed (pv_is (some (.int (if a1 < 0 then 0 else (if a1 < 65536 then 1 else 0)))) ((if a1 < 0 then h else (if a1 < 65536 then (h.set 0 (pv_o 11 [.ref 1, .ref 3, .int 0, .ref 60, .ref 77, .ref 86, .ref 97, .int 0, .int a1, .ref 104, .ref 107, .ref 112, .null, .ref 116, .ref 120, .ref 121, .ref 122])) else h)))) 1 0 0 [.ref 0, .int a1] h := by
  refine PM.of 0 (lo := [.ref 0, .int a1]) rfl (by decide) rfl rfl (Nat.le_of_ble_eq_true rfl) ?_
  refine pv_iload_n (M := mX11_seed) 1 dX11_seed_0 1 rfl rfl rfl ?_
  refine pv_if_lt (M := mX11_seed) (tgt := 11) dX11_seed_1 4 rfl (by decide) (fun c1 => ?_) (fun c1 => ?_)
  · refine pv_iconst (M := mX11_seed) (v := 0) dX11_seed_11 12 rfl (by decide) ?_
    exact pv_iret (M := mX11_seed) dX11_seed_12 rfl rfl ⟨(by rw [if_pos c1] <;> rfl), (by rw [if_pos c1] <;> rfl)⟩
  · refine pv_iload_n (M := mX11_seed) 1 dX11_seed_4 5 rfl rfl rfl ?_
    refine pv_ldcw (M := mX11_seed) (v := 65536) dX11_seed_5 8 rfl wd1145 ?_
    refine pv_icmp_lt (M := mX11_seed) (tgt := 13) dX11_seed_8 11 rfl (by decide) (fun c2 => ?_) (fun c2 => ?_)
    · refine pv_aload_n (M := mX11_seed) 0 dX11_seed_13 14 rfl rfl rfl ?_
      refine pv_iload_n (M := mX11_seed) 1 dX11_seed_14 15 rfl rfl rfl ?_
      refine pv_put (M := mX11_seed) (fs2 := [.ref 1, .ref 3, .int 0, .ref 60, .ref 77, .ref 86, .ref 97, .int 0, .int a1, .ref 104, .ref 107, .ref 112, .null, .ref 116, .ref 120, .ref 121, .ref 122]) dX11_seed_15 FX11 8 wd415 (by decide) rfl e0 (Nat.le_of_ble_eq_true rfl) (fun _ => rfl) (fun _ => rfl) rfl rfl 18 rfl ?_
      refine pv_iconst (M := mX11_seed) (v := 1) dX11_seed_18 19 rfl (by decide) ?_
      exact pv_iret (M := mX11_seed) dX11_seed_19 rfl rfl ⟨(by rw [if_neg c1, if_pos c2] <;> rfl), (by rw [if_neg c1, if_pos c2] <;> rfl)⟩
    · refine pv_iconst (M := mX11_seed) (v := 0) dX11_seed_11 12 rfl (by decide) ?_
      exact pv_iret (M := mX11_seed) dX11_seed_12 rfl rfl ⟨(by rw [if_neg c1, if_neg c2] <;> rfl), (by rw [if_neg c1, if_neg c2] <;> rfl)⟩

set_option maxHeartbeats 400000 in
set_option maxRecDepth 20000 in
theorem k_X11_draw (g : pv_G) {h : List pv_C} (a1 : Int32) (a2 : Int32) (e0 : h[0]? = some (pv_o 11 [.ref 1, .ref 3, .int 0, .ref 60, .ref 77, .ref 86, .ref 97, .int 0, .int 1, .ref 104, .ref 107, .ref 112, .null, .ref 116, .ref 120, .ref 121, .ref 122])) : PM g mX11_draw yX11_draw (pv_is (some (.int (-1))) (h)) 2 0 0 [.ref 0, .int a1, .int a2] h := by
  refine PM.of 4 (lo := [.ref 0, .int a1, .int a2, pv_U, pv_U, pv_U, pv_U]) rfl (by decide) rfl rfl (Nat.le_of_ble_eq_true rfl) ?_
  refine pv_aload_n (M := mX11_draw) 0 dX11_draw_0 1 rfl rfl rfl ?_
  refine pv_iload_n (M := mX11_draw) 1 dX11_draw_1 2 rfl rfl rfl ?_
  refine pv_callv (M := mX11_draw) (as := [.int a1]) (st := []) (kc2 := 0) (ks2 := 0) dX11_draw_2 wd700 YX11_isBlank ⟨wd702, wd16⟩ e0 rfl rfl (k_X11_isBlank g a1 e0) rfl rfl (Nat.le_of_ble_eq_true rfl) (by decide) rfl rfl 5 rfl (pv_k1 ?_)
  refine pv_if_eq (M := mX11_draw) (tgt := 19) dX11_draw_5 8 rfl (by decide) (fun _ => ?_) (fun q => absurd (by decide) q)
  refine pv_iconst (M := mX11_draw) (v := (-1)) dX11_draw_19 20 rfl (by decide) ?_
  exact pv_iret (M := mX11_draw) dX11_draw_20 rfl rfl ⟨rfl, rfl⟩

set_option maxHeartbeats 400000 in
set_option maxRecDepth 20000 in
theorem k_X11_check (g : pv_G) {h : List pv_C} (a1 : Int32) (a2 : Int32) (e0 : h[0]? = some (pv_o 11 [.ref 1, .ref 3, .int 0, .ref 60, .ref 77, .ref 86, .ref 97, .int 0, .int 1, .ref 104, .ref 107, .ref 112, .null, .ref 116, .ref 120, .ref 121, .ref 122])) : PM g mX11_check yX11_check (pv_is (some (.int (-2))) (h)) 2 0 0 [.ref 0, .int a1, .int a2] h := by
  refine PM.of 2 (lo := [.ref 0, .int a1, .int a2, pv_U, pv_U]) rfl (by decide) rfl rfl (Nat.le_of_ble_eq_true rfl) ?_
  refine pv_aload_n (M := mX11_check) 0 dX11_check_0 1 rfl rfl rfl ?_
  refine pv_iload_n (M := mX11_check) 1 dX11_check_1 2 rfl rfl rfl ?_
  refine pv_callv (M := mX11_check) (as := [.int a1]) (st := []) (kc2 := 0) (ks2 := 0) dX11_check_2 wd700 YX11_isBlank ⟨wd702, wd16⟩ e0 rfl rfl (k_X11_isBlank g a1 e0) rfl rfl (Nat.le_of_ble_eq_true rfl) (by decide) rfl rfl 5 rfl (pv_k1 ?_)
  refine pv_if_eq (M := mX11_check) (tgt := 25) dX11_check_5 8 rfl (by decide) (fun _ => ?_) (fun q => absurd (by decide) q)
  refine pv_bipush (M := mX11_check) (v := (-2)) dX11_check_25 27 rfl (by decide) ?_
  exact pv_iret (M := mX11_check) dX11_check_27 rfl rfl ⟨rfl, rfl⟩

set_option maxHeartbeats 400000 in
set_option maxRecDepth 20000 in
theorem k_X1_costOfAll (g : pv_G) {h : List pv_C} (e97 : h[97]? = some (pv_o 1 [.ref 98, .ref 99, .ref 100, .ref 101, .ref 102, .ref 103, .int 0])) : PM g mX1_costOfAll yX1_costOfAll (pv_is (some (.int 0)) (h)) 1 0 0 [.ref 97] h := by
  refine PM.of 2 (lo := [.ref 97, pv_U, pv_U]) rfl (by decide) rfl rfl (Nat.le_of_ble_eq_true rfl) ?_
  refine pv_iconst (M := mX1_costOfAll) (v := 0) dX1_costOfAll_0 1 rfl (by decide) ?_
  refine pv_istore_n (M := mX1_costOfAll) 1 (lo2 := [.ref 97, .int 0, pv_U]) dX1_costOfAll_1 2 rfl rfl (by decide) rfl rfl ?_
  refine pv_iconst (M := mX1_costOfAll) (v := 0) dX1_costOfAll_2 3 rfl (by decide) ?_
  refine pv_istore_n (M := mX1_costOfAll) 2 (lo2 := [.ref 97, .int 0, .int 0]) dX1_costOfAll_3 4 rfl rfl (by decide) rfl rfl ?_
  refine pv_iload_n (M := mX1_costOfAll) 2 dX1_costOfAll_4 5 rfl rfl rfl ?_
  refine pv_aload_n (M := mX1_costOfAll) 0 dX1_costOfAll_5 6 rfl rfl rfl ?_
  refine pv_get (M := mX1_costOfAll) dX1_costOfAll_6 FX1 6 wd309 (by decide) e97 rfl 9 rfl ?_
  refine pv_icmp_ge (M := mX1_costOfAll) (tgt := 27) dX1_costOfAll_9 12 rfl (by decide) (fun _ => ?_) (fun q => absurd (by decide) q)
  refine pv_iload_n (M := mX1_costOfAll) 1 dX1_costOfAll_27 28 rfl rfl rfl ?_
  exact pv_iret (M := mX1_costOfAll) dX1_costOfAll_28 rfl rfl ⟨rfl, rfl⟩

set_option maxHeartbeats 400000 in
set_option maxRecDepth 20000 in
theorem k_X11_count (g : pv_G) {h : List pv_C} (a1 : Int32) (e0 : h[0]? = some (pv_o 11 [.ref 1, .ref 3, .int 0, .ref 60, .ref 77, .ref 86, .ref 97, .int 0, .int 1, .ref 104, .ref 107, .ref 112, .null, .ref 116, .ref 120, .ref 121, .ref 122])) (e1 : h[1]? = some (pv_o 10 [.ref 2, .int 0])) (e60 : h[60]? = some (pv_q 5 8 (va_up (va_up (va_up (va_up (va_up (va_up (va_up (va_up (fun _ => none) 0 (some (61))) 1 (some (63))) 2 (some (65))) 3 (some (67))) 4 (some (69))) 5 (some (71))) 6 (some (73))) 7 (some (75))))) (e61 : h[61]? = some (pv_o 8 [.ref 62, .int 0])) (e63 : h[63]? = some (pv_o 8 [.ref 64, .int 0])) (e65 : h[65]? = some (pv_o 8 [.ref 66, .int 0])) (e67 : h[67]? = some (pv_o 8 [.ref 68, .int 0])) (e69 : h[69]? = some (pv_o 8 [.ref 70, .int 0])) (e71 : h[71]? = some (pv_o 8 [.ref 72, .int 0])) (e73 : h[73]? = some (pv_o 8 [.ref 74, .int 0])) (e75 : h[75]? = some (pv_o 8 [.ref 76, .int 0])) (e77 : h[77]? = some (pv_o 6 [.ref 78, .ref 79, .int 0, .ref 80, .ref 81, .ref 82, .ref 83, .int 0, .ref 84, .ref 85, .int 0, .int 0])) (e97 : h[97]? = some (pv_o 1 [.ref 98, .ref 99, .ref 100, .ref 101, .ref 102, .ref 103, .int 0])) : PM g mX11_count yX11_count (pv_is (some (.int (if a1 < 10 then (if a1 = 0 then 0 else (if a1 = 1 then 0 else (if a1 = 2 then 0 else (if a1 = 3 then 0 else (if a1 = 4 then 0 else (if a1 = 5 then 0 else (if a1 = 6 then 1 else (if a1 = 7 then 0 else (-1))))))))) else (if 18 ≤ a1 then (if a1 < 20 then (if a1 = 0 then 0 else (if a1 = 1 then 0 else (if a1 = 2 then 0 else (if a1 = 3 then 0 else (if a1 = 4 then 0 else (if a1 = 5 then 0 else (if a1 = 6 then 1 else (if a1 = 7 then 0 else (-1))))))))) else (if 28 ≤ a1 then (if a1 = 0 then 0 else (if a1 = 1 then 0 else (if a1 = 2 then 0 else (if a1 = 3 then 0 else (if a1 = 4 then 0 else (if a1 = 5 then 0 else (if a1 = 6 then 1 else (if a1 = 7 then 0 else (-1))))))))) else 0)) else (-1))))) (h)) 3 0 0 [.ref 0, .int a1] h := by
  refine PM.of 0 (lo := [.ref 0, .int a1]) rfl (by decide) rfl rfl (Nat.le_of_ble_eq_true rfl) ?_
  refine pv_iload_n (M := mX11_count) 1 dX11_count_0 1 rfl rfl rfl ?_
  refine pv_bipush (M := mX11_count) (v := 10) dX11_count_1 3 rfl (by decide) ?_
  refine pv_icmp_lt (M := mX11_count) (tgt := 43) dX11_count_3 6 rfl (by decide) (fun c1 => ?_) (fun c1 => ?_)
  · refine pv_iload_n (M := mX11_count) 1 dX11_count_43 44 rfl rfl rfl ?_
    refine pv_bipush (M := mX11_count) (v := 20) dX11_count_44 46 rfl (by decide) ?_
    refine pv_icmp_lt (M := mX11_count) (tgt := 68) dX11_count_46 49 rfl (by decide) (fun c2 => ?_) (fun c2 => ?_)
    · refine pv_iload_n (M := mX11_count) 1 dX11_count_68 69 rfl rfl rfl ?_
      by_cases c3 : a1 = 0
      · subst c3
        refine pv_tableIn (M := mX11_count) (tgt := 116) (off := 47) dX11_count_69 (by decide) (by decide) rfl (by decide) ?_
        refine pv_aload_n (M := mX11_count) 0 dX11_count_116 117 rfl rfl rfl ?_
        refine pv_get (M := mX11_count) dX11_count_117 FX11 2 wd409 (by decide) e0 rfl 120 rfl ?_
        exact pv_iret (M := mX11_count) dX11_count_120 rfl rfl ⟨(by rw [if_pos c1, if_pos rfl] <;> rfl), rfl⟩
      by_cases c4 : a1 = 1
      · subst c4
        refine pv_tableIn (M := mX11_count) (tgt := 121) (off := 52) dX11_count_69 (by decide) (by decide) rfl (by decide) ?_
        refine pv_aload_n (M := mX11_count) 0 dX11_count_121 122 rfl rfl rfl ?_
        refine pv_callv (M := mX11_count) (as := []) (st := []) (kc2 := 0) (ks2 := 0) dX11_count_122 wd923 YX11_toldDeeds ⟨wd925, wd34⟩ e0 rfl rfl (k_X11_toldDeeds g e0 e60 e61 e63 e65 e67 e69 e71 e73 e75) rfl rfl (Nat.le_of_ble_eq_true rfl) (by decide) rfl rfl 125 rfl (pv_k1 ?_)
        exact pv_iret (M := mX11_count) dX11_count_125 rfl rfl ⟨(by rw [if_pos c1, if_neg (by decide), if_pos rfl] <;> rfl), rfl⟩
      by_cases c5 : a1 = 2
      · subst c5
        refine pv_tableIn (M := mX11_count) (tgt := 126) (off := 57) dX11_count_69 (by decide) (by decide) rfl (by decide) ?_
        refine pv_aload_n (M := mX11_count) 0 dX11_count_126 127 rfl rfl rfl ?_
        refine pv_get (M := mX11_count) dX11_count_127 FX11 4 wd411 (by decide) e0 rfl 130 rfl ?_
        refine pv_get (M := mX11_count) dX11_count_130 FX6 7 wd242 (by decide) e77 rfl 133 rfl ?_
        exact pv_iret (M := mX11_count) dX11_count_133 rfl rfl ⟨(by rw [if_pos c1, if_neg (by decide), if_neg (by decide), if_pos rfl] <;> rfl), rfl⟩
      by_cases c6 : a1 = 3
      · subst c6
        refine pv_tableIn (M := mX11_count) (tgt := 134) (off := 65) dX11_count_69 (by decide) (by decide) rfl (by decide) ?_
        refine pv_aload_n (M := mX11_count) 0 dX11_count_134 135 rfl rfl rfl ?_
        refine pv_get (M := mX11_count) dX11_count_135 FX11 0 wd407 (by decide) e0 rfl 138 rfl ?_
        refine pv_get (M := mX11_count) dX11_count_138 FX10 1 wd164 (by decide) e1 rfl 141 rfl ?_
        exact pv_iret (M := mX11_count) dX11_count_141 rfl rfl ⟨(by rw [if_pos c1, if_neg (by decide), if_neg (by decide), if_neg (by decide), if_pos rfl] <;> rfl), rfl⟩
      by_cases c7 : a1 = 4
      · subst c7
        refine pv_tableIn (M := mX11_count) (tgt := 142) (off := 73) dX11_count_69 (by decide) (by decide) rfl (by decide) ?_
        refine pv_aload_n (M := mX11_count) 0 dX11_count_142 143 rfl rfl rfl ?_
        refine pv_get (M := mX11_count) dX11_count_143 FX11 7 wd414 (by decide) e0 rfl 146 rfl ?_
        exact pv_iret (M := mX11_count) dX11_count_146 rfl rfl ⟨(by rw [if_pos c1, if_neg (by decide), if_neg (by decide), if_neg (by decide), if_neg (by decide), if_pos rfl] <;> rfl), rfl⟩
      by_cases c8 : a1 = 5
      · subst c8
        refine pv_tableIn (M := mX11_count) (tgt := 147) (off := 78) dX11_count_69 (by decide) (by decide) rfl (by decide) ?_
        refine pv_aload_n (M := mX11_count) 0 dX11_count_147 148 rfl rfl rfl ?_
        refine pv_get (M := mX11_count) dX11_count_148 FX11 6 wd413 (by decide) e0 rfl 151 rfl ?_
        refine pv_get (M := mX11_count) dX11_count_151 FX1 6 wd310 (by decide) e97 rfl 154 rfl ?_
        exact pv_iret (M := mX11_count) dX11_count_154 rfl rfl ⟨(by rw [if_pos c1, if_neg (by decide), if_neg (by decide), if_neg (by decide), if_neg (by decide), if_neg (by decide), if_pos rfl] <;> rfl), rfl⟩
      by_cases c9 : a1 = 6
      · subst c9
        refine pv_tableIn (M := mX11_count) (tgt := 155) (off := 86) dX11_count_69 (by decide) (by decide) rfl (by decide) ?_
        refine pv_aload_n (M := mX11_count) 0 dX11_count_155 156 rfl rfl rfl ?_
        refine pv_get (M := mX11_count) dX11_count_156 FX11 8 wd415 (by decide) e0 rfl 159 rfl ?_
        exact pv_iret (M := mX11_count) dX11_count_159 rfl rfl ⟨(by rw [if_pos c1, if_neg (by decide), if_neg (by decide), if_neg (by decide), if_neg (by decide), if_neg (by decide), if_neg (by decide), if_pos rfl] <;> rfl), rfl⟩
      by_cases c10 : a1 = 7
      · subst c10
        refine pv_tableIn (M := mX11_count) (tgt := 160) (off := 91) dX11_count_69 (by decide) (by decide) rfl (by decide) ?_
        refine pv_aload_n (M := mX11_count) 0 dX11_count_160 161 rfl rfl rfl ?_
        refine pv_get (M := mX11_count) dX11_count_161 FX11 6 wd413 (by decide) e0 rfl 164 rfl ?_
        refine pv_callv (M := mX11_count) (as := []) (st := []) (kc2 := 0) (ks2 := 0) dX11_count_164 wd1163 YX1_costOfAll ⟨wd1164, wd1165⟩ e97 rfl rfl (k_X1_costOfAll g e97) rfl rfl (Nat.le_of_ble_eq_true rfl) (by decide) rfl rfl 167 rfl (pv_k1 ?_)
        exact pv_iret (M := mX11_count) dX11_count_167 rfl rfl ⟨(by rw [if_pos c1, if_neg (by decide), if_neg (by decide), if_neg (by decide), if_neg (by decide), if_neg (by decide), if_neg (by decide), if_neg (by decide), if_pos rfl] <;> rfl), rfl⟩
      refine pv_tableOut (M := mX11_count) (tgt := 168) dX11_count_69 (pv_out8 c3 c4 c5 c6 c7 c8 c9 c10) (by decide) ?_
      refine pv_iconst (M := mX11_count) (v := (-1)) dX11_count_168 169 rfl (by decide) ?_
      exact pv_iret (M := mX11_count) dX11_count_169 rfl rfl ⟨(by rw [if_pos c1, if_neg c3, if_neg c4, if_neg c5, if_neg c6, if_neg c7, if_neg c8, if_neg c9, if_neg c10] <;> rfl), rfl⟩
    · exact absurd (Int.le_trans (pv_b2 c2) (pv_b1 c1)) (by decide)
  · refine pv_iload_n (M := mX11_count) 1 dX11_count_6 7 rfl rfl rfl ?_
    refine pv_bipush (M := mX11_count) (v := 18) dX11_count_7 9 rfl (by decide) ?_
    refine pv_icmp_ge (M := mX11_count) (tgt := 43) dX11_count_9 12 rfl (by decide) (fun c11 => ?_) (fun c11 => ?_)
    · refine pv_iload_n (M := mX11_count) 1 dX11_count_43 44 rfl rfl rfl ?_
      refine pv_bipush (M := mX11_count) (v := 20) dX11_count_44 46 rfl (by decide) ?_
      refine pv_icmp_lt (M := mX11_count) (tgt := 68) dX11_count_46 49 rfl (by decide) (fun c12 => ?_) (fun c12 => ?_)
      · refine pv_iload_n (M := mX11_count) 1 dX11_count_68 69 rfl rfl rfl ?_
        by_cases c13 : a1 = 0
        · subst c13
          refine pv_tableIn (M := mX11_count) (tgt := 116) (off := 47) dX11_count_69 (by decide) (by decide) rfl (by decide) ?_
          refine pv_aload_n (M := mX11_count) 0 dX11_count_116 117 rfl rfl rfl ?_
          refine pv_get (M := mX11_count) dX11_count_117 FX11 2 wd409 (by decide) e0 rfl 120 rfl ?_
          exact pv_iret (M := mX11_count) dX11_count_120 rfl rfl ⟨(by rw [if_neg c1, if_pos c11, if_pos c12, if_pos rfl] <;> rfl), rfl⟩
        by_cases c14 : a1 = 1
        · subst c14
          refine pv_tableIn (M := mX11_count) (tgt := 121) (off := 52) dX11_count_69 (by decide) (by decide) rfl (by decide) ?_
          refine pv_aload_n (M := mX11_count) 0 dX11_count_121 122 rfl rfl rfl ?_
          refine pv_callv (M := mX11_count) (as := []) (st := []) (kc2 := 0) (ks2 := 0) dX11_count_122 wd923 YX11_toldDeeds ⟨wd925, wd34⟩ e0 rfl rfl (k_X11_toldDeeds g e0 e60 e61 e63 e65 e67 e69 e71 e73 e75) rfl rfl (Nat.le_of_ble_eq_true rfl) (by decide) rfl rfl 125 rfl (pv_k1 ?_)
          exact pv_iret (M := mX11_count) dX11_count_125 rfl rfl ⟨(by rw [if_neg c1, if_pos c11, if_pos c12, if_neg (by decide), if_pos rfl] <;> rfl), rfl⟩
        by_cases c15 : a1 = 2
        · subst c15
          refine pv_tableIn (M := mX11_count) (tgt := 126) (off := 57) dX11_count_69 (by decide) (by decide) rfl (by decide) ?_
          refine pv_aload_n (M := mX11_count) 0 dX11_count_126 127 rfl rfl rfl ?_
          refine pv_get (M := mX11_count) dX11_count_127 FX11 4 wd411 (by decide) e0 rfl 130 rfl ?_
          refine pv_get (M := mX11_count) dX11_count_130 FX6 7 wd242 (by decide) e77 rfl 133 rfl ?_
          exact pv_iret (M := mX11_count) dX11_count_133 rfl rfl ⟨(by rw [if_neg c1, if_pos c11, if_pos c12, if_neg (by decide), if_neg (by decide), if_pos rfl] <;> rfl), rfl⟩
        by_cases c16 : a1 = 3
        · subst c16
          refine pv_tableIn (M := mX11_count) (tgt := 134) (off := 65) dX11_count_69 (by decide) (by decide) rfl (by decide) ?_
          refine pv_aload_n (M := mX11_count) 0 dX11_count_134 135 rfl rfl rfl ?_
          refine pv_get (M := mX11_count) dX11_count_135 FX11 0 wd407 (by decide) e0 rfl 138 rfl ?_
          refine pv_get (M := mX11_count) dX11_count_138 FX10 1 wd164 (by decide) e1 rfl 141 rfl ?_
          exact pv_iret (M := mX11_count) dX11_count_141 rfl rfl ⟨(by rw [if_neg c1, if_pos c11, if_pos c12, if_neg (by decide), if_neg (by decide), if_neg (by decide), if_pos rfl] <;> rfl), rfl⟩
        by_cases c17 : a1 = 4
        · subst c17
          refine pv_tableIn (M := mX11_count) (tgt := 142) (off := 73) dX11_count_69 (by decide) (by decide) rfl (by decide) ?_
          refine pv_aload_n (M := mX11_count) 0 dX11_count_142 143 rfl rfl rfl ?_
          refine pv_get (M := mX11_count) dX11_count_143 FX11 7 wd414 (by decide) e0 rfl 146 rfl ?_
          exact pv_iret (M := mX11_count) dX11_count_146 rfl rfl ⟨(by rw [if_neg c1, if_pos c11, if_pos c12, if_neg (by decide), if_neg (by decide), if_neg (by decide), if_neg (by decide), if_pos rfl] <;> rfl), rfl⟩
        by_cases c18 : a1 = 5
        · subst c18
          refine pv_tableIn (M := mX11_count) (tgt := 147) (off := 78) dX11_count_69 (by decide) (by decide) rfl (by decide) ?_
          refine pv_aload_n (M := mX11_count) 0 dX11_count_147 148 rfl rfl rfl ?_
          refine pv_get (M := mX11_count) dX11_count_148 FX11 6 wd413 (by decide) e0 rfl 151 rfl ?_
          refine pv_get (M := mX11_count) dX11_count_151 FX1 6 wd310 (by decide) e97 rfl 154 rfl ?_
          exact pv_iret (M := mX11_count) dX11_count_154 rfl rfl ⟨(by rw [if_neg c1, if_pos c11, if_pos c12, if_neg (by decide), if_neg (by decide), if_neg (by decide), if_neg (by decide), if_neg (by decide), if_pos rfl] <;> rfl), rfl⟩
        by_cases c19 : a1 = 6
        · subst c19
          refine pv_tableIn (M := mX11_count) (tgt := 155) (off := 86) dX11_count_69 (by decide) (by decide) rfl (by decide) ?_
          refine pv_aload_n (M := mX11_count) 0 dX11_count_155 156 rfl rfl rfl ?_
          refine pv_get (M := mX11_count) dX11_count_156 FX11 8 wd415 (by decide) e0 rfl 159 rfl ?_
          exact pv_iret (M := mX11_count) dX11_count_159 rfl rfl ⟨(by rw [if_neg c1, if_pos c11, if_pos c12, if_neg (by decide), if_neg (by decide), if_neg (by decide), if_neg (by decide), if_neg (by decide), if_neg (by decide), if_pos rfl] <;> rfl), rfl⟩
        by_cases c20 : a1 = 7
        · subst c20
          refine pv_tableIn (M := mX11_count) (tgt := 160) (off := 91) dX11_count_69 (by decide) (by decide) rfl (by decide) ?_
          refine pv_aload_n (M := mX11_count) 0 dX11_count_160 161 rfl rfl rfl ?_
          refine pv_get (M := mX11_count) dX11_count_161 FX11 6 wd413 (by decide) e0 rfl 164 rfl ?_
          refine pv_callv (M := mX11_count) (as := []) (st := []) (kc2 := 0) (ks2 := 0) dX11_count_164 wd1163 YX1_costOfAll ⟨wd1164, wd1165⟩ e97 rfl rfl (k_X1_costOfAll g e97) rfl rfl (Nat.le_of_ble_eq_true rfl) (by decide) rfl rfl 167 rfl (pv_k1 ?_)
          exact pv_iret (M := mX11_count) dX11_count_167 rfl rfl ⟨(by rw [if_neg c1, if_pos c11, if_pos c12, if_neg (by decide), if_neg (by decide), if_neg (by decide), if_neg (by decide), if_neg (by decide), if_neg (by decide), if_neg (by decide), if_pos rfl] <;> rfl), rfl⟩
        refine pv_tableOut (M := mX11_count) (tgt := 168) dX11_count_69 (pv_out8 c13 c14 c15 c16 c17 c18 c19 c20) (by decide) ?_
        refine pv_iconst (M := mX11_count) (v := (-1)) dX11_count_168 169 rfl (by decide) ?_
        exact pv_iret (M := mX11_count) dX11_count_169 rfl rfl ⟨(by rw [if_neg c1, if_pos c11, if_pos c12, if_neg c13, if_neg c14, if_neg c15, if_neg c16, if_neg c17, if_neg c18, if_neg c19, if_neg c20] <;> rfl), rfl⟩
      · refine pv_iload_n (M := mX11_count) 1 dX11_count_49 50 rfl rfl rfl ?_
        refine pv_bipush (M := mX11_count) (v := 28) dX11_count_50 52 rfl (by decide) ?_
        refine pv_icmp_ge (M := mX11_count) (tgt := 68) dX11_count_52 55 rfl (by decide) (fun c21 => ?_) (fun c21 => ?_)
        · refine pv_iload_n (M := mX11_count) 1 dX11_count_68 69 rfl rfl rfl ?_
          by_cases c22 : a1 = 0
          · subst c22
            refine pv_tableIn (M := mX11_count) (tgt := 116) (off := 47) dX11_count_69 (by decide) (by decide) rfl (by decide) ?_
            refine pv_aload_n (M := mX11_count) 0 dX11_count_116 117 rfl rfl rfl ?_
            refine pv_get (M := mX11_count) dX11_count_117 FX11 2 wd409 (by decide) e0 rfl 120 rfl ?_
            exact pv_iret (M := mX11_count) dX11_count_120 rfl rfl ⟨(by rw [if_neg c1, if_pos c11, if_neg c12, if_pos c21, if_pos rfl] <;> rfl), rfl⟩
          by_cases c23 : a1 = 1
          · subst c23
            refine pv_tableIn (M := mX11_count) (tgt := 121) (off := 52) dX11_count_69 (by decide) (by decide) rfl (by decide) ?_
            refine pv_aload_n (M := mX11_count) 0 dX11_count_121 122 rfl rfl rfl ?_
            refine pv_callv (M := mX11_count) (as := []) (st := []) (kc2 := 0) (ks2 := 0) dX11_count_122 wd923 YX11_toldDeeds ⟨wd925, wd34⟩ e0 rfl rfl (k_X11_toldDeeds g e0 e60 e61 e63 e65 e67 e69 e71 e73 e75) rfl rfl (Nat.le_of_ble_eq_true rfl) (by decide) rfl rfl 125 rfl (pv_k1 ?_)
            exact pv_iret (M := mX11_count) dX11_count_125 rfl rfl ⟨(by rw [if_neg c1, if_pos c11, if_neg c12, if_pos c21, if_neg (by decide), if_pos rfl] <;> rfl), rfl⟩
          by_cases c24 : a1 = 2
          · subst c24
            refine pv_tableIn (M := mX11_count) (tgt := 126) (off := 57) dX11_count_69 (by decide) (by decide) rfl (by decide) ?_
            refine pv_aload_n (M := mX11_count) 0 dX11_count_126 127 rfl rfl rfl ?_
            refine pv_get (M := mX11_count) dX11_count_127 FX11 4 wd411 (by decide) e0 rfl 130 rfl ?_
            refine pv_get (M := mX11_count) dX11_count_130 FX6 7 wd242 (by decide) e77 rfl 133 rfl ?_
            exact pv_iret (M := mX11_count) dX11_count_133 rfl rfl ⟨(by rw [if_neg c1, if_pos c11, if_neg c12, if_pos c21, if_neg (by decide), if_neg (by decide), if_pos rfl] <;> rfl), rfl⟩
          by_cases c25 : a1 = 3
          · subst c25
            refine pv_tableIn (M := mX11_count) (tgt := 134) (off := 65) dX11_count_69 (by decide) (by decide) rfl (by decide) ?_
            refine pv_aload_n (M := mX11_count) 0 dX11_count_134 135 rfl rfl rfl ?_
            refine pv_get (M := mX11_count) dX11_count_135 FX11 0 wd407 (by decide) e0 rfl 138 rfl ?_
            refine pv_get (M := mX11_count) dX11_count_138 FX10 1 wd164 (by decide) e1 rfl 141 rfl ?_
            exact pv_iret (M := mX11_count) dX11_count_141 rfl rfl ⟨(by rw [if_neg c1, if_pos c11, if_neg c12, if_pos c21, if_neg (by decide), if_neg (by decide), if_neg (by decide), if_pos rfl] <;> rfl), rfl⟩
          by_cases c26 : a1 = 4
          · subst c26
            refine pv_tableIn (M := mX11_count) (tgt := 142) (off := 73) dX11_count_69 (by decide) (by decide) rfl (by decide) ?_
            refine pv_aload_n (M := mX11_count) 0 dX11_count_142 143 rfl rfl rfl ?_
            refine pv_get (M := mX11_count) dX11_count_143 FX11 7 wd414 (by decide) e0 rfl 146 rfl ?_
            exact pv_iret (M := mX11_count) dX11_count_146 rfl rfl ⟨(by rw [if_neg c1, if_pos c11, if_neg c12, if_pos c21, if_neg (by decide), if_neg (by decide), if_neg (by decide), if_neg (by decide), if_pos rfl] <;> rfl), rfl⟩
          by_cases c27 : a1 = 5
          · subst c27
            refine pv_tableIn (M := mX11_count) (tgt := 147) (off := 78) dX11_count_69 (by decide) (by decide) rfl (by decide) ?_
            refine pv_aload_n (M := mX11_count) 0 dX11_count_147 148 rfl rfl rfl ?_
            refine pv_get (M := mX11_count) dX11_count_148 FX11 6 wd413 (by decide) e0 rfl 151 rfl ?_
            refine pv_get (M := mX11_count) dX11_count_151 FX1 6 wd310 (by decide) e97 rfl 154 rfl ?_
            exact pv_iret (M := mX11_count) dX11_count_154 rfl rfl ⟨(by rw [if_neg c1, if_pos c11, if_neg c12, if_pos c21, if_neg (by decide), if_neg (by decide), if_neg (by decide), if_neg (by decide), if_neg (by decide), if_pos rfl] <;> rfl), rfl⟩
          by_cases c28 : a1 = 6
          · subst c28
            refine pv_tableIn (M := mX11_count) (tgt := 155) (off := 86) dX11_count_69 (by decide) (by decide) rfl (by decide) ?_
            refine pv_aload_n (M := mX11_count) 0 dX11_count_155 156 rfl rfl rfl ?_
            refine pv_get (M := mX11_count) dX11_count_156 FX11 8 wd415 (by decide) e0 rfl 159 rfl ?_
            exact pv_iret (M := mX11_count) dX11_count_159 rfl rfl ⟨(by rw [if_neg c1, if_pos c11, if_neg c12, if_pos c21, if_neg (by decide), if_neg (by decide), if_neg (by decide), if_neg (by decide), if_neg (by decide), if_neg (by decide), if_pos rfl] <;> rfl), rfl⟩
          by_cases c29 : a1 = 7
          · subst c29
            refine pv_tableIn (M := mX11_count) (tgt := 160) (off := 91) dX11_count_69 (by decide) (by decide) rfl (by decide) ?_
            refine pv_aload_n (M := mX11_count) 0 dX11_count_160 161 rfl rfl rfl ?_
            refine pv_get (M := mX11_count) dX11_count_161 FX11 6 wd413 (by decide) e0 rfl 164 rfl ?_
            refine pv_callv (M := mX11_count) (as := []) (st := []) (kc2 := 0) (ks2 := 0) dX11_count_164 wd1163 YX1_costOfAll ⟨wd1164, wd1165⟩ e97 rfl rfl (k_X1_costOfAll g e97) rfl rfl (Nat.le_of_ble_eq_true rfl) (by decide) rfl rfl 167 rfl (pv_k1 ?_)
            exact pv_iret (M := mX11_count) dX11_count_167 rfl rfl ⟨(by rw [if_neg c1, if_pos c11, if_neg c12, if_pos c21, if_neg (by decide), if_neg (by decide), if_neg (by decide), if_neg (by decide), if_neg (by decide), if_neg (by decide), if_neg (by decide), if_pos rfl] <;> rfl), rfl⟩
          refine pv_tableOut (M := mX11_count) (tgt := 168) dX11_count_69 (pv_out8 c22 c23 c24 c25 c26 c27 c28 c29) (by decide) ?_
          refine pv_iconst (M := mX11_count) (v := (-1)) dX11_count_168 169 rfl (by decide) ?_
          exact pv_iret (M := mX11_count) dX11_count_169 rfl rfl ⟨(by rw [if_neg c1, if_pos c11, if_neg c12, if_pos c21, if_neg c22, if_neg c23, if_neg c24, if_neg c25, if_neg c26, if_neg c27, if_neg c28, if_neg c29] <;> rfl), rfl⟩
        · refine pv_aload_n (M := mX11_count) 0 dX11_count_55 56 rfl rfl rfl ?_
          refine pv_get (M := mX11_count) dX11_count_56 FX11 3 wd410 (by decide) e0 rfl 59 rfl ?_
          refine pv_iload_n (M := mX11_count) 1 dX11_count_59 60 rfl rfl rfl ?_
          refine pv_bipush (M := mX11_count) (v := 20) dX11_count_60 62 rfl (by decide) ?_
          refine pv_isub (M := mX11_count) (v := a1 - 20) dX11_count_62 63 rfl rfl ?_
          by_cases c30 : a1 = 20
          · subst c30
            refine pv_top (M := mX11_count) (y := 0) (by decide) ?_
            refine pv_aald (M := mX11_count) dX11_count_63 e60 (fun _ => rfl) (pv_in0 (by decide)) (v := .ref 61) rfl 64 rfl ?_
            refine pv_get (M := mX11_count) dX11_count_64 FX8 1 wd200 (by decide) e61 rfl 67 rfl ?_
            exact pv_iret (M := mX11_count) dX11_count_67 rfl rfl ⟨(by rw [if_neg c1, if_pos c11, if_neg c12, if_neg c21] <;> rfl), rfl⟩
          by_cases c31 : a1 = 21
          · subst c31
            refine pv_top (M := mX11_count) (y := 1) (by decide) ?_
            refine pv_aald (M := mX11_count) dX11_count_63 e60 (fun _ => rfl) (pv_in0 (by decide)) (v := .ref 63) rfl 64 rfl ?_
            refine pv_get (M := mX11_count) dX11_count_64 FX8 1 wd200 (by decide) e63 rfl 67 rfl ?_
            exact pv_iret (M := mX11_count) dX11_count_67 rfl rfl ⟨(by rw [if_neg c1, if_pos c11, if_neg c12, if_neg c21] <;> rfl), rfl⟩
          by_cases c32 : a1 = 22
          · subst c32
            refine pv_top (M := mX11_count) (y := 2) (by decide) ?_
            refine pv_aald (M := mX11_count) dX11_count_63 e60 (fun _ => rfl) (pv_in0 (by decide)) (v := .ref 65) rfl 64 rfl ?_
            refine pv_get (M := mX11_count) dX11_count_64 FX8 1 wd200 (by decide) e65 rfl 67 rfl ?_
            exact pv_iret (M := mX11_count) dX11_count_67 rfl rfl ⟨(by rw [if_neg c1, if_pos c11, if_neg c12, if_neg c21] <;> rfl), rfl⟩
          by_cases c33 : a1 = 23
          · subst c33
            refine pv_top (M := mX11_count) (y := 3) (by decide) ?_
            refine pv_aald (M := mX11_count) dX11_count_63 e60 (fun _ => rfl) (pv_in0 (by decide)) (v := .ref 67) rfl 64 rfl ?_
            refine pv_get (M := mX11_count) dX11_count_64 FX8 1 wd200 (by decide) e67 rfl 67 rfl ?_
            exact pv_iret (M := mX11_count) dX11_count_67 rfl rfl ⟨(by rw [if_neg c1, if_pos c11, if_neg c12, if_neg c21] <;> rfl), rfl⟩
          by_cases c34 : a1 = 24
          · subst c34
            refine pv_top (M := mX11_count) (y := 4) (by decide) ?_
            refine pv_aald (M := mX11_count) dX11_count_63 e60 (fun _ => rfl) (pv_in0 (by decide)) (v := .ref 69) rfl 64 rfl ?_
            refine pv_get (M := mX11_count) dX11_count_64 FX8 1 wd200 (by decide) e69 rfl 67 rfl ?_
            exact pv_iret (M := mX11_count) dX11_count_67 rfl rfl ⟨(by rw [if_neg c1, if_pos c11, if_neg c12, if_neg c21] <;> rfl), rfl⟩
          by_cases c35 : a1 = 25
          · subst c35
            refine pv_top (M := mX11_count) (y := 5) (by decide) ?_
            refine pv_aald (M := mX11_count) dX11_count_63 e60 (fun _ => rfl) (pv_in0 (by decide)) (v := .ref 71) rfl 64 rfl ?_
            refine pv_get (M := mX11_count) dX11_count_64 FX8 1 wd200 (by decide) e71 rfl 67 rfl ?_
            exact pv_iret (M := mX11_count) dX11_count_67 rfl rfl ⟨(by rw [if_neg c1, if_pos c11, if_neg c12, if_neg c21] <;> rfl), rfl⟩
          by_cases c36 : a1 = 26
          · subst c36
            refine pv_top (M := mX11_count) (y := 6) (by decide) ?_
            refine pv_aald (M := mX11_count) dX11_count_63 e60 (fun _ => rfl) (pv_in0 (by decide)) (v := .ref 73) rfl 64 rfl ?_
            refine pv_get (M := mX11_count) dX11_count_64 FX8 1 wd200 (by decide) e73 rfl 67 rfl ?_
            exact pv_iret (M := mX11_count) dX11_count_67 rfl rfl ⟨(by rw [if_neg c1, if_pos c11, if_neg c12, if_neg c21] <;> rfl), rfl⟩
          by_cases c37 : a1 = 27
          · subst c37
            refine pv_top (M := mX11_count) (y := 7) (by decide) ?_
            refine pv_aald (M := mX11_count) dX11_count_63 e60 (fun _ => rfl) (pv_in0 (by decide)) (v := .ref 75) rfl 64 rfl ?_
            refine pv_get (M := mX11_count) dX11_count_64 FX8 1 wd200 (by decide) e75 rfl 67 rfl ?_
            exact pv_iret (M := mX11_count) dX11_count_67 rfl rfl ⟨(by rw [if_neg c1, if_pos c11, if_neg c12, if_neg c21] <;> rfl), rfl⟩
          have b1 : (20 : Int) ≤ a1.toInt := (pv_b2 c12)
          have b2 : a1.toInt ≤ (27 : Int) := (pv_b8 c21)
          have d0 : a1.toInt ≠ 20 := fun e => c30 (Int32.toInt_inj.mp e)
          have d1 : a1.toInt ≠ 21 := fun e => c31 (Int32.toInt_inj.mp e)
          have d2 : a1.toInt ≠ 22 := fun e => c32 (Int32.toInt_inj.mp e)
          have d3 : a1.toInt ≠ 23 := fun e => c33 (Int32.toInt_inj.mp e)
          have d4 : a1.toInt ≠ 24 := fun e => c34 (Int32.toInt_inj.mp e)
          have d5 : a1.toInt ≠ 25 := fun e => c35 (Int32.toInt_inj.mp e)
          have d6 : a1.toInt ≠ 26 := fun e => c36 (Int32.toInt_inj.mp e)
          have d7 : a1.toInt ≠ 27 := fun e => c37 (Int32.toInt_inj.mp e)
          omega
    · refine pv_aload_n (M := mX11_count) 0 dX11_count_12 13 rfl rfl rfl ?_
      refine pv_iload_n (M := mX11_count) 1 dX11_count_13 14 rfl rfl rfl ?_
      refine pv_bipush (M := mX11_count) (v := 10) dX11_count_14 16 rfl (by decide) ?_
      refine pv_isub (M := mX11_count) (v := a1 - 10) dX11_count_16 17 rfl rfl ?_
      refine pv_callv (M := mX11_count) (as := [.int (a1 - 10)]) (st := []) (kc2 := 0) (ks2 := 0) dX11_count_17 wd700 YX11_isBlank ⟨wd702, wd16⟩ e0 rfl rfl (k_X11_isBlank g (a1 - 10) e0) rfl rfl (Nat.le_of_ble_eq_true rfl) (by decide) rfl rfl 20 rfl (pv_k1 ?_)
      refine pv_if_eq (M := mX11_count) (tgt := 41) dX11_count_20 23 rfl (by decide) (fun _ => ?_) (fun q => absurd (by decide) q)
      refine pv_iconst (M := mX11_count) (v := (-1)) dX11_count_41 42 rfl (by decide) ?_
      exact pv_iret (M := mX11_count) dX11_count_42 rfl rfl ⟨(by rw [if_neg c1, if_neg c11] <;> rfl), rfl⟩

set_option maxHeartbeats 400000 in
set_option maxRecDepth 20000 in
theorem k_X12_in (g : pv_G) {h : List pv_C} (a0 : Int32) : PM g mX12_in yX12_in (pv_is (some (.int (if a0 < 0 then 0 else (if 999 < a0 then 0 else 1)))) (h)) 1 0 0 [.int a0, .int 0, .int 999] h := by
  refine PM.of 0 (lo := [.int a0, .int 0, .int 999]) rfl (by decide) rfl rfl (Nat.le_of_ble_eq_true rfl) ?_
  refine pv_iload_n (M := mX12_in) 0 dX12_in_0 1 rfl rfl rfl ?_
  refine pv_iload_n (M := mX12_in) 1 dX12_in_1 2 rfl rfl rfl ?_
  refine pv_icmp_lt (M := mX12_in) (tgt := 14) dX12_in_2 5 rfl (by decide) (fun c1 => ?_) (fun c1 => ?_)
  · refine pv_iconst (M := mX12_in) (v := 0) dX12_in_14 15 rfl (by decide) ?_
    exact pv_iret (M := mX12_in) dX12_in_15 rfl rfl ⟨(by rw [if_pos c1] <;> rfl), rfl⟩
  · refine pv_iload_n (M := mX12_in) 0 dX12_in_5 6 rfl rfl rfl ?_
    refine pv_iload_n (M := mX12_in) 2 dX12_in_6 7 rfl rfl rfl ?_
    refine pv_icmp_gt (M := mX12_in) (tgt := 14) dX12_in_7 10 rfl (by decide) (fun c2 => ?_) (fun c2 => ?_)
    · refine pv_iconst (M := mX12_in) (v := 0) dX12_in_14 15 rfl (by decide) ?_
      exact pv_iret (M := mX12_in) dX12_in_15 rfl rfl ⟨(by rw [if_neg c1, if_pos c2] <;> rfl), rfl⟩
    · refine pv_iconst (M := mX12_in) (v := 1) dX12_in_10 11 rfl (by decide) ?_
      refine pv_goto (M := mX12_in) (tgt := 15) dX12_in_11 (by decide) ?_
      exact pv_iret (M := mX12_in) dX12_in_15 rfl rfl ⟨(by rw [if_neg c1, if_neg c2] <;> rfl), rfl⟩

set_option maxHeartbeats 400000 in
set_option maxRecDepth 20000 in
theorem k_X12_day (g : pv_G) {h : List pv_C} (a1 : Int32) (e123 : h[123]? = some (pv_o 12 [.int 0, .int 0, .int 1, .int 0, .int 0, .ref 124, .ref 125, .ref 126, .ref 127, .ref 128, .ref 129, .int 0, .int 0, .int 0, .int 0, .int 0, .int 0, .int 0, .int 0, .int 0, .int 0, .ref 130, .ref 131, .ref 132, .ref 133, .ref 134, .ref 135, .ref 136, .ref 137, .ref 138, .ref 139, .ref 140, .ref 141, .ref 142, .ref 143, .ref 144, .ref 145, .ref 146, .ref 147, .ref 148, .int 0, .int 0, .ref 149, .ref 150, .ref 151, .ref 152, .ref 153, .ref 154, .ref 155, .ref 156, .int 0, .ref 157, .ref 158, .ref 159, .ref 160, .ref 161, .ref 162, .ref 163, .ref 164, .ref 165, .ref 166, .int 0, .ref 167, .ref 168])) : PM g mX12_day yX12_day (pv_is (some (.int (if a1 < 0 then 0 else (if 999 < a1 then 0 else 1)))) ((if a1 < 0 then h else (if 999 < a1 then h else (h.set 123 (pv_o 12 [.int 0, .int a1, .int 1, .int 0, .int 0, .ref 124, .ref 125, .ref 126, .ref 127, .ref 128, .ref 129, .int 0, .int 0, .int 0, .int 0, .int 0, .int 0, .int 0, .int 0, .int 0, .int 0, .ref 130, .ref 131, .ref 132, .ref 133, .ref 134, .ref 135, .ref 136, .ref 137, .ref 138, .ref 139, .ref 140, .ref 141, .ref 142, .ref 143, .ref 144, .ref 145, .ref 146, .ref 147, .ref 148, .int 0, .int 0, .ref 149, .ref 150, .ref 151, .ref 152, .ref 153, .ref 154, .ref 155, .ref 156, .int 0, .ref 157, .ref 158, .ref 159, .ref 160, .ref 161, .ref 162, .ref 163, .ref 164, .ref 165, .ref 166, .int 0, .ref 167, .ref 168])))))) 2 0 0 [.ref 123, .int a1] h := by
  refine PM.of 0 (lo := [.ref 123, .int a1]) rfl (by decide) rfl rfl (Nat.le_of_ble_eq_true rfl) ?_
  refine pv_iload_n (M := mX12_day) 1 dX12_day_0 1 rfl rfl rfl ?_
  refine pv_aload_n (M := mX12_day) 0 dX12_day_1 2 rfl rfl rfl ?_
  refine pv_get (M := mX12_day) dX12_day_2 FX12 1 wd1174 (by decide) e123 rfl 5 rfl ?_
  refine pv_sipush (M := mX12_day) (v := 999) dX12_day_5 8 rfl (by decide) ?_
  refine pv_calls (M := mX12_day) (as := [.int a1, .int 0, .int 999]) (st := []) (kc2 := 0) (ks2 := 0) dX12_day_8 wd1370 YX12_in wd1371 (k_X12_in g a1) rfl rfl (Nat.le_of_ble_eq_true rfl) (by decide) rfl rfl 11 rfl (pv_k1 ?_)
  by_cases c1 : a1 < 0
  · refine pv_top (M := mX12_day) (if_pos c1) ?_
    refine pv_if_ne (M := mX12_day) (tgt := 16) dX12_day_11 14 rfl (by decide) (fun q => absurd (by decide) q) (fun _ => ?_)
    refine pv_iconst (M := mX12_day) (v := 0) dX12_day_14 15 rfl (by decide) ?_
    exact pv_iret (M := mX12_day) dX12_day_15 rfl rfl ⟨(by rw [if_pos c1] <;> rfl), (by rw [if_pos c1] <;> rfl)⟩
  · refine pv_top (M := mX12_day) (if_neg c1) ?_
    by_cases c2 : 999 < a1
    · refine pv_top (M := mX12_day) (if_pos c2) ?_
      refine pv_if_ne (M := mX12_day) (tgt := 16) dX12_day_11 14 rfl (by decide) (fun q => absurd (by decide) q) (fun _ => ?_)
      refine pv_iconst (M := mX12_day) (v := 0) dX12_day_14 15 rfl (by decide) ?_
      exact pv_iret (M := mX12_day) dX12_day_15 rfl rfl ⟨(by rw [if_neg c1, if_pos c2] <;> rfl), (by rw [if_neg c1, if_pos c2] <;> rfl)⟩
    · refine pv_top (M := mX12_day) (if_neg c2) ?_
      refine pv_if_ne (M := mX12_day) (tgt := 16) dX12_day_11 14 rfl (by decide) (fun _ => ?_) (fun q => absurd q (by decide))
      refine pv_aload_n (M := mX12_day) 0 dX12_day_16 17 rfl rfl rfl ?_
      refine pv_iload_n (M := mX12_day) 1 dX12_day_17 18 rfl rfl rfl ?_
      refine pv_put (M := mX12_day) (fs2 := [.int 0, .int a1, .int 1, .int 0, .int 0, .ref 124, .ref 125, .ref 126, .ref 127, .ref 128, .ref 129, .int 0, .int 0, .int 0, .int 0, .int 0, .int 0, .int 0, .int 0, .int 0, .int 0, .ref 130, .ref 131, .ref 132, .ref 133, .ref 134, .ref 135, .ref 136, .ref 137, .ref 138, .ref 139, .ref 140, .ref 141, .ref 142, .ref 143, .ref 144, .ref 145, .ref 146, .ref 147, .ref 148, .int 0, .int 0, .ref 149, .ref 150, .ref 151, .ref 152, .ref 153, .ref 154, .ref 155, .ref 156, .int 0, .ref 157, .ref 158, .ref 159, .ref 160, .ref 161, .ref 162, .ref 163, .ref 164, .ref 165, .ref 166, .int 0, .ref 167, .ref 168]) dX12_day_18 FX12 1 wd1174 (by decide) rfl e123 (Nat.le_of_ble_eq_true rfl) (fun _ => rfl) (fun _ => rfl) rfl rfl 21 rfl ?_
      refine pv_iconst (M := mX12_day) (v := 1) dX12_day_21 22 rfl (by decide) ?_
      exact pv_iret (M := mX12_day) dX12_day_22 rfl rfl ⟨(by rw [if_neg c1, if_neg c2] <;> rfl), (by rw [if_neg c1, if_neg c2] <;> rfl)⟩

set_option maxHeartbeats 400000 in
set_option maxRecDepth 20000 in
theorem k_X12_types (g : pv_G) {h : List pv_C} (a1 : Int32) (e123 : h[123]? = some (pv_o 12 [.int 0, .int 0, .int 1, .int 0, .int 0, .ref 124, .ref 125, .ref 126, .ref 127, .ref 128, .ref 129, .int 0, .int 0, .int 0, .int 0, .int 0, .int 0, .int 0, .int 0, .int 0, .int 0, .ref 130, .ref 131, .ref 132, .ref 133, .ref 134, .ref 135, .ref 136, .ref 137, .ref 138, .ref 139, .ref 140, .ref 141, .ref 142, .ref 143, .ref 144, .ref 145, .ref 146, .ref 147, .ref 148, .int 0, .int 0, .ref 149, .ref 150, .ref 151, .ref 152, .ref 153, .ref 154, .ref 155, .ref 156, .int 0, .ref 157, .ref 158, .ref 159, .ref 160, .ref 161, .ref 162, .ref 163, .ref 164, .ref 165, .ref 166, .int 0, .ref 167, .ref 168])) (e129 : h[129]? = some (pv_b 200 (fun _ => 0))) : PM g mX12_types yX12_types (pv_is none (((((((((h.set 129 (pv_b 200 (upd (fun _ => 0) 0 (vp_nar .byte ((a1 >>> (24 &&& 31)).toInt8.toInt32))))).set 123 (pv_o 12 [.int 0, .int 0, .int 1, .int 0, .int 0, .ref 124, .ref 125, .ref 126, .ref 127, .ref 128, .ref 129, .int 1, .int 0, .int 0, .int 0, .int 0, .int 0, .int 0, .int 0, .int 0, .int 0, .ref 130, .ref 131, .ref 132, .ref 133, .ref 134, .ref 135, .ref 136, .ref 137, .ref 138, .ref 139, .ref 140, .ref 141, .ref 142, .ref 143, .ref 144, .ref 145, .ref 146, .ref 147, .ref 148, .int 0, .int 0, .ref 149, .ref 150, .ref 151, .ref 152, .ref 153, .ref 154, .ref 155, .ref 156, .int 0, .ref 157, .ref 158, .ref 159, .ref 160, .ref 161, .ref 162, .ref 163, .ref 164, .ref 165, .ref 166, .int 0, .ref 167, .ref 168])).set 129 (pv_b 200 (upd (upd (fun _ => 0) 0 (vp_nar .byte ((a1 >>> (24 &&& 31)).toInt8.toInt32))) 1 (vp_nar .byte ((a1 >>> (16 &&& 31)).toInt8.toInt32))))).set 123 (pv_o 12 [.int 0, .int 0, .int 1, .int 0, .int 0, .ref 124, .ref 125, .ref 126, .ref 127, .ref 128, .ref 129, .int 2, .int 0, .int 0, .int 0, .int 0, .int 0, .int 0, .int 0, .int 0, .int 0, .ref 130, .ref 131, .ref 132, .ref 133, .ref 134, .ref 135, .ref 136, .ref 137, .ref 138, .ref 139, .ref 140, .ref 141, .ref 142, .ref 143, .ref 144, .ref 145, .ref 146, .ref 147, .ref 148, .int 0, .int 0, .ref 149, .ref 150, .ref 151, .ref 152, .ref 153, .ref 154, .ref 155, .ref 156, .int 0, .ref 157, .ref 158, .ref 159, .ref 160, .ref 161, .ref 162, .ref 163, .ref 164, .ref 165, .ref 166, .int 0, .ref 167, .ref 168])).set 129 (pv_b 200 (upd (upd (upd (fun _ => 0) 0 (vp_nar .byte ((a1 >>> (24 &&& 31)).toInt8.toInt32))) 1 (vp_nar .byte ((a1 >>> (16 &&& 31)).toInt8.toInt32))) 2 (vp_nar .byte ((a1 >>> (8 &&& 31)).toInt8.toInt32))))).set 123 (pv_o 12 [.int 0, .int 0, .int 1, .int 0, .int 0, .ref 124, .ref 125, .ref 126, .ref 127, .ref 128, .ref 129, .int 3, .int 0, .int 0, .int 0, .int 0, .int 0, .int 0, .int 0, .int 0, .int 0, .ref 130, .ref 131, .ref 132, .ref 133, .ref 134, .ref 135, .ref 136, .ref 137, .ref 138, .ref 139, .ref 140, .ref 141, .ref 142, .ref 143, .ref 144, .ref 145, .ref 146, .ref 147, .ref 148, .int 0, .int 0, .ref 149, .ref 150, .ref 151, .ref 152, .ref 153, .ref 154, .ref 155, .ref 156, .int 0, .ref 157, .ref 158, .ref 159, .ref 160, .ref 161, .ref 162, .ref 163, .ref 164, .ref 165, .ref 166, .int 0, .ref 167, .ref 168])).set 129 (pv_b 200 (upd (upd (upd (upd (fun _ => 0) 0 (vp_nar .byte ((a1 >>> (24 &&& 31)).toInt8.toInt32))) 1 (vp_nar .byte ((a1 >>> (16 &&& 31)).toInt8.toInt32))) 2 (vp_nar .byte ((a1 >>> (8 &&& 31)).toInt8.toInt32))) 3 (vp_nar .byte ((a1 >>> (0 &&& 31)).toInt8.toInt32))))).set 123 (pv_o 12 [.int 0, .int 0, .int 1, .int 0, .int 0, .ref 124, .ref 125, .ref 126, .ref 127, .ref 128, .ref 129, .int 4, .int 0, .int 0, .int 0, .int 0, .int 0, .int 0, .int 0, .int 0, .int 0, .ref 130, .ref 131, .ref 132, .ref 133, .ref 134, .ref 135, .ref 136, .ref 137, .ref 138, .ref 139, .ref 140, .ref 141, .ref 142, .ref 143, .ref 144, .ref 145, .ref 146, .ref 147, .ref 148, .int 0, .int 0, .ref 149, .ref 150, .ref 151, .ref 152, .ref 153, .ref 154, .ref 155, .ref 156, .int 0, .ref 157, .ref 158, .ref 159, .ref 160, .ref 161, .ref 162, .ref 163, .ref 164, .ref 165, .ref 166, .int 0, .ref 167, .ref 168])))) 1 0 0 [.ref 123, .int a1] h := by
  refine PM.of 1 (lo := [.ref 123, .int a1, pv_U]) rfl (by decide) rfl rfl (Nat.le_of_ble_eq_true rfl) ?_
  refine pv_iconst (M := mX12_types) (v := 3) dX12_types_0 1 rfl (by decide) ?_
  refine pv_istore_n (M := mX12_types) 2 (lo2 := [.ref 123, .int a1, .int 3]) dX12_types_1 2 rfl rfl (by decide) rfl rfl ?_
  refine pv_iload_n (M := mX12_types) 2 dX12_types_2 3 rfl rfl rfl ?_
  refine pv_if_lt (M := mX12_types) (tgt := 38) dX12_types_3 6 rfl (by decide) (fun q => absurd q (by decide)) (fun _ => ?_)
  refine pv_aload_n (M := mX12_types) 0 dX12_types_6 7 rfl rfl rfl ?_
  refine pv_get (M := mX12_types) dX12_types_7 FX12 10 wd1183 (by decide) e123 rfl 10 rfl ?_
  refine pv_aload_n (M := mX12_types) 0 dX12_types_10 11 rfl rfl rfl ?_
  refine pv_get (M := mX12_types) dX12_types_11 FX12 11 wd1184 (by decide) e123 rfl 14 rfl ?_
  refine pv_iload_n (M := mX12_types) 1 dX12_types_14 15 rfl rfl rfl ?_
  refine pv_bipush (M := mX12_types) (v := 8) dX12_types_15 17 rfl (by decide) ?_
  refine pv_iload_n (M := mX12_types) 2 dX12_types_17 18 rfl rfl rfl ?_
  refine pv_imul (M := mX12_types) (v := 24) dX12_types_18 19 rfl (by decide) ?_
  refine pv_ishr (M := mX12_types) (v := a1 >>> (24 &&& 31)) dX12_types_19 20 rfl rfl ?_
  refine pv_i2b (M := mX12_types) (v := (a1 >>> (24 &&& 31)).toInt8.toInt32) dX12_types_20 21 rfl rfl ?_
  refine pv_bast (M := mX12_types) dX12_types_21 e129 (pv_in0 (by decide)) (j := 0) (by decide) rfl 22 rfl ?_
  refine pv_aload_n (M := mX12_types) 0 dX12_types_22 23 rfl rfl rfl ?_
  refine pv_aload_n (M := mX12_types) 0 dX12_types_23 24 rfl rfl rfl ?_
  refine pv_get (M := mX12_types) dX12_types_24 FX12 11 wd1184 (by decide) (pv_sn (by decide) e123) rfl 27 rfl ?_
  refine pv_iconst (M := mX12_types) (v := 1) dX12_types_27 28 rfl (by decide) ?_
  refine pv_iadd (M := mX12_types) (v := 1) dX12_types_28 29 rfl (by decide) ?_
  refine pv_put (M := mX12_types) (fs2 := [.int 0, .int 0, .int 1, .int 0, .int 0, .ref 124, .ref 125, .ref 126, .ref 127, .ref 128, .ref 129, .int 1, .int 0, .int 0, .int 0, .int 0, .int 0, .int 0, .int 0, .int 0, .int 0, .ref 130, .ref 131, .ref 132, .ref 133, .ref 134, .ref 135, .ref 136, .ref 137, .ref 138, .ref 139, .ref 140, .ref 141, .ref 142, .ref 143, .ref 144, .ref 145, .ref 146, .ref 147, .ref 148, .int 0, .int 0, .ref 149, .ref 150, .ref 151, .ref 152, .ref 153, .ref 154, .ref 155, .ref 156, .int 0, .ref 157, .ref 158, .ref 159, .ref 160, .ref 161, .ref 162, .ref 163, .ref 164, .ref 165, .ref 166, .int 0, .ref 167, .ref 168]) dX12_types_29 FX12 11 wd1184 (by decide) rfl (pv_sn (by decide) e123) (Nat.le_of_ble_eq_true rfl) (fun _ => rfl) (fun _ => rfl) rfl rfl 32 rfl ?_
  refine pv_iinc (M := mX12_types) (v := 2) (lo2 := [.ref 123, .int a1, .int 2]) dX12_types_32 35 rfl rfl (by decide) (by decide) rfl rfl ?_
  refine pv_goto (M := mX12_types) (tgt := 2) dX12_types_35 (by decide) ?_
  refine pv_iload_n (M := mX12_types) 2 dX12_types_2 3 rfl rfl rfl ?_
  refine pv_if_lt (M := mX12_types) (tgt := 38) dX12_types_3 6 rfl (by decide) (fun q => absurd q (by decide)) (fun _ => ?_)
  refine pv_aload_n (M := mX12_types) 0 dX12_types_6 7 rfl rfl rfl ?_
  refine pv_get (M := mX12_types) dX12_types_7 FX12 10 wd1183 (by decide) (pv_se (pv_sn (by decide) e123)) rfl 10 rfl ?_
  refine pv_aload_n (M := mX12_types) 0 dX12_types_10 11 rfl rfl rfl ?_
  refine pv_get (M := mX12_types) dX12_types_11 FX12 11 wd1184 (by decide) (pv_se (pv_sn (by decide) e123)) rfl 14 rfl ?_
  refine pv_iload_n (M := mX12_types) 1 dX12_types_14 15 rfl rfl rfl ?_
  refine pv_bipush (M := mX12_types) (v := 8) dX12_types_15 17 rfl (by decide) ?_
  refine pv_iload_n (M := mX12_types) 2 dX12_types_17 18 rfl rfl rfl ?_
  refine pv_imul (M := mX12_types) (v := 16) dX12_types_18 19 rfl (by decide) ?_
  refine pv_ishr (M := mX12_types) (v := a1 >>> (16 &&& 31)) dX12_types_19 20 rfl rfl ?_
  refine pv_i2b (M := mX12_types) (v := (a1 >>> (16 &&& 31)).toInt8.toInt32) dX12_types_20 21 rfl rfl ?_
  refine pv_bast (M := mX12_types) dX12_types_21 (pv_sn (by decide) (pv_se e129)) (pv_in0 (by decide)) (j := 1) (by decide) rfl 22 rfl ?_
  refine pv_aload_n (M := mX12_types) 0 dX12_types_22 23 rfl rfl rfl ?_
  refine pv_aload_n (M := mX12_types) 0 dX12_types_23 24 rfl rfl rfl ?_
  refine pv_get (M := mX12_types) dX12_types_24 FX12 11 wd1184 (by decide) (pv_sn (by decide) (pv_se (pv_sn (by decide) e123))) rfl 27 rfl ?_
  refine pv_iconst (M := mX12_types) (v := 1) dX12_types_27 28 rfl (by decide) ?_
  refine pv_iadd (M := mX12_types) (v := 2) dX12_types_28 29 rfl (by decide) ?_
  refine pv_put (M := mX12_types) (fs2 := [.int 0, .int 0, .int 1, .int 0, .int 0, .ref 124, .ref 125, .ref 126, .ref 127, .ref 128, .ref 129, .int 2, .int 0, .int 0, .int 0, .int 0, .int 0, .int 0, .int 0, .int 0, .int 0, .ref 130, .ref 131, .ref 132, .ref 133, .ref 134, .ref 135, .ref 136, .ref 137, .ref 138, .ref 139, .ref 140, .ref 141, .ref 142, .ref 143, .ref 144, .ref 145, .ref 146, .ref 147, .ref 148, .int 0, .int 0, .ref 149, .ref 150, .ref 151, .ref 152, .ref 153, .ref 154, .ref 155, .ref 156, .int 0, .ref 157, .ref 158, .ref 159, .ref 160, .ref 161, .ref 162, .ref 163, .ref 164, .ref 165, .ref 166, .int 0, .ref 167, .ref 168]) dX12_types_29 FX12 11 wd1184 (by decide) rfl (pv_sn (by decide) (pv_se (pv_sn (by decide) e123))) (Nat.le_of_ble_eq_true rfl) (fun _ => rfl) (fun _ => rfl) rfl rfl 32 rfl ?_
  refine pv_iinc (M := mX12_types) (v := 1) (lo2 := [.ref 123, .int a1, .int 1]) dX12_types_32 35 rfl rfl (by decide) (by decide) rfl rfl ?_
  refine pv_goto (M := mX12_types) (tgt := 2) dX12_types_35 (by decide) ?_
  refine pv_iload_n (M := mX12_types) 2 dX12_types_2 3 rfl rfl rfl ?_
  refine pv_if_lt (M := mX12_types) (tgt := 38) dX12_types_3 6 rfl (by decide) (fun q => absurd q (by decide)) (fun _ => ?_)
  refine pv_aload_n (M := mX12_types) 0 dX12_types_6 7 rfl rfl rfl ?_
  refine pv_get (M := mX12_types) dX12_types_7 FX12 10 wd1183 (by decide) (pv_se (pv_sn (by decide) (pv_se (pv_sn (by decide) e123)))) rfl 10 rfl ?_
  refine pv_aload_n (M := mX12_types) 0 dX12_types_10 11 rfl rfl rfl ?_
  refine pv_get (M := mX12_types) dX12_types_11 FX12 11 wd1184 (by decide) (pv_se (pv_sn (by decide) (pv_se (pv_sn (by decide) e123)))) rfl 14 rfl ?_
  refine pv_iload_n (M := mX12_types) 1 dX12_types_14 15 rfl rfl rfl ?_
  refine pv_bipush (M := mX12_types) (v := 8) dX12_types_15 17 rfl (by decide) ?_
  refine pv_iload_n (M := mX12_types) 2 dX12_types_17 18 rfl rfl rfl ?_
  refine pv_imul (M := mX12_types) (v := 8) dX12_types_18 19 rfl (by decide) ?_
  refine pv_ishr (M := mX12_types) (v := a1 >>> (8 &&& 31)) dX12_types_19 20 rfl rfl ?_
  refine pv_i2b (M := mX12_types) (v := (a1 >>> (8 &&& 31)).toInt8.toInt32) dX12_types_20 21 rfl rfl ?_
  refine pv_bast (M := mX12_types) dX12_types_21 (pv_sn (by decide) (pv_se (pv_sn (by decide) (pv_se e129)))) (pv_in0 (by decide)) (j := 2) (by decide) rfl 22 rfl ?_
  refine pv_aload_n (M := mX12_types) 0 dX12_types_22 23 rfl rfl rfl ?_
  refine pv_aload_n (M := mX12_types) 0 dX12_types_23 24 rfl rfl rfl ?_
  refine pv_get (M := mX12_types) dX12_types_24 FX12 11 wd1184 (by decide) (pv_sn (by decide) (pv_se (pv_sn (by decide) (pv_se (pv_sn (by decide) e123))))) rfl 27 rfl ?_
  refine pv_iconst (M := mX12_types) (v := 1) dX12_types_27 28 rfl (by decide) ?_
  refine pv_iadd (M := mX12_types) (v := 3) dX12_types_28 29 rfl (by decide) ?_
  refine pv_put (M := mX12_types) (fs2 := [.int 0, .int 0, .int 1, .int 0, .int 0, .ref 124, .ref 125, .ref 126, .ref 127, .ref 128, .ref 129, .int 3, .int 0, .int 0, .int 0, .int 0, .int 0, .int 0, .int 0, .int 0, .int 0, .ref 130, .ref 131, .ref 132, .ref 133, .ref 134, .ref 135, .ref 136, .ref 137, .ref 138, .ref 139, .ref 140, .ref 141, .ref 142, .ref 143, .ref 144, .ref 145, .ref 146, .ref 147, .ref 148, .int 0, .int 0, .ref 149, .ref 150, .ref 151, .ref 152, .ref 153, .ref 154, .ref 155, .ref 156, .int 0, .ref 157, .ref 158, .ref 159, .ref 160, .ref 161, .ref 162, .ref 163, .ref 164, .ref 165, .ref 166, .int 0, .ref 167, .ref 168]) dX12_types_29 FX12 11 wd1184 (by decide) rfl (pv_sn (by decide) (pv_se (pv_sn (by decide) (pv_se (pv_sn (by decide) e123))))) (Nat.le_of_ble_eq_true rfl) (fun _ => rfl) (fun _ => rfl) rfl rfl 32 rfl ?_
  refine pv_iinc (M := mX12_types) (v := 0) (lo2 := [.ref 123, .int a1, .int 0]) dX12_types_32 35 rfl rfl (by decide) (by decide) rfl rfl ?_
  refine pv_goto (M := mX12_types) (tgt := 2) dX12_types_35 (by decide) ?_
  refine pv_iload_n (M := mX12_types) 2 dX12_types_2 3 rfl rfl rfl ?_
  refine pv_if_lt (M := mX12_types) (tgt := 38) dX12_types_3 6 rfl (by decide) (fun q => absurd q (by decide)) (fun _ => ?_)
  refine pv_aload_n (M := mX12_types) 0 dX12_types_6 7 rfl rfl rfl ?_
  refine pv_get (M := mX12_types) dX12_types_7 FX12 10 wd1183 (by decide) (pv_se (pv_sn (by decide) (pv_se (pv_sn (by decide) (pv_se (pv_sn (by decide) e123)))))) rfl 10 rfl ?_
  refine pv_aload_n (M := mX12_types) 0 dX12_types_10 11 rfl rfl rfl ?_
  refine pv_get (M := mX12_types) dX12_types_11 FX12 11 wd1184 (by decide) (pv_se (pv_sn (by decide) (pv_se (pv_sn (by decide) (pv_se (pv_sn (by decide) e123)))))) rfl 14 rfl ?_
  refine pv_iload_n (M := mX12_types) 1 dX12_types_14 15 rfl rfl rfl ?_
  refine pv_bipush (M := mX12_types) (v := 8) dX12_types_15 17 rfl (by decide) ?_
  refine pv_iload_n (M := mX12_types) 2 dX12_types_17 18 rfl rfl rfl ?_
  refine pv_imul (M := mX12_types) (v := 0) dX12_types_18 19 rfl (by decide) ?_
  refine pv_ishr (M := mX12_types) (v := a1 >>> (0 &&& 31)) dX12_types_19 20 rfl rfl ?_
  refine pv_i2b (M := mX12_types) (v := (a1 >>> (0 &&& 31)).toInt8.toInt32) dX12_types_20 21 rfl rfl ?_
  refine pv_bast (M := mX12_types) dX12_types_21 (pv_sn (by decide) (pv_se (pv_sn (by decide) (pv_se (pv_sn (by decide) (pv_se e129)))))) (pv_in0 (by decide)) (j := 3) (by decide) rfl 22 rfl ?_
  refine pv_aload_n (M := mX12_types) 0 dX12_types_22 23 rfl rfl rfl ?_
  refine pv_aload_n (M := mX12_types) 0 dX12_types_23 24 rfl rfl rfl ?_
  refine pv_get (M := mX12_types) dX12_types_24 FX12 11 wd1184 (by decide) (pv_sn (by decide) (pv_se (pv_sn (by decide) (pv_se (pv_sn (by decide) (pv_se (pv_sn (by decide) e123))))))) rfl 27 rfl ?_
  refine pv_iconst (M := mX12_types) (v := 1) dX12_types_27 28 rfl (by decide) ?_
  refine pv_iadd (M := mX12_types) (v := 4) dX12_types_28 29 rfl (by decide) ?_
  refine pv_put (M := mX12_types) (fs2 := [.int 0, .int 0, .int 1, .int 0, .int 0, .ref 124, .ref 125, .ref 126, .ref 127, .ref 128, .ref 129, .int 4, .int 0, .int 0, .int 0, .int 0, .int 0, .int 0, .int 0, .int 0, .int 0, .ref 130, .ref 131, .ref 132, .ref 133, .ref 134, .ref 135, .ref 136, .ref 137, .ref 138, .ref 139, .ref 140, .ref 141, .ref 142, .ref 143, .ref 144, .ref 145, .ref 146, .ref 147, .ref 148, .int 0, .int 0, .ref 149, .ref 150, .ref 151, .ref 152, .ref 153, .ref 154, .ref 155, .ref 156, .int 0, .ref 157, .ref 158, .ref 159, .ref 160, .ref 161, .ref 162, .ref 163, .ref 164, .ref 165, .ref 166, .int 0, .ref 167, .ref 168]) dX12_types_29 FX12 11 wd1184 (by decide) rfl (pv_sn (by decide) (pv_se (pv_sn (by decide) (pv_se (pv_sn (by decide) (pv_se (pv_sn (by decide) e123))))))) (Nat.le_of_ble_eq_true rfl) (fun _ => rfl) (fun _ => rfl) rfl rfl 32 rfl ?_
  refine pv_iinc (M := mX12_types) (v := (-1)) (lo2 := [.ref 123, .int a1, .int (-1)]) dX12_types_32 35 rfl rfl (by decide) (by decide) rfl rfl ?_
  refine pv_goto (M := mX12_types) (tgt := 2) dX12_types_35 (by decide) ?_
  refine pv_iload_n (M := mX12_types) 2 dX12_types_2 3 rfl rfl rfl ?_
  refine pv_if_lt (M := mX12_types) (tgt := 38) dX12_types_3 6 rfl (by decide) (fun _ => ?_) (fun q => absurd (by decide) q)
  exact pv_vret (M := mX12_types) dX12_types_38 rfl ⟨rfl, rfl⟩

set_option maxHeartbeats 400000 in
set_option maxRecDepth 20000 in
theorem k_X12_types_2 (g : pv_G) {h : List pv_C} (a1 : Int32) (F129 : Nat → Int32) (e123 : h[123]? = some (pv_o 12 [.int 0, .int 0, .int 1, .int 0, .int 0, .ref 124, .ref 125, .ref 126, .ref 127, .ref 128, .ref 129, .int 4, .int 0, .int 0, .int 0, .int 0, .int 0, .int 0, .int 0, .int 0, .int 0, .ref 130, .ref 131, .ref 132, .ref 133, .ref 134, .ref 135, .ref 136, .ref 137, .ref 138, .ref 139, .ref 140, .ref 141, .ref 142, .ref 143, .ref 144, .ref 145, .ref 146, .ref 147, .ref 148, .int 0, .int 0, .ref 149, .ref 150, .ref 151, .ref 152, .ref 153, .ref 154, .ref 155, .ref 156, .int 0, .ref 157, .ref 158, .ref 159, .ref 160, .ref 161, .ref 162, .ref 163, .ref 164, .ref 165, .ref 166, .int 0, .ref 167, .ref 168])) (e129 : h[129]? = some (pv_b 200 F129)) : PM g mX12_types yX12_types (pv_is none (((((((((h.set 129 (pv_b 200 (upd F129 4 (vp_nar .byte ((a1 >>> (24 &&& 31)).toInt8.toInt32))))).set 123 (pv_o 12 [.int 0, .int 0, .int 1, .int 0, .int 0, .ref 124, .ref 125, .ref 126, .ref 127, .ref 128, .ref 129, .int 5, .int 0, .int 0, .int 0, .int 0, .int 0, .int 0, .int 0, .int 0, .int 0, .ref 130, .ref 131, .ref 132, .ref 133, .ref 134, .ref 135, .ref 136, .ref 137, .ref 138, .ref 139, .ref 140, .ref 141, .ref 142, .ref 143, .ref 144, .ref 145, .ref 146, .ref 147, .ref 148, .int 0, .int 0, .ref 149, .ref 150, .ref 151, .ref 152, .ref 153, .ref 154, .ref 155, .ref 156, .int 0, .ref 157, .ref 158, .ref 159, .ref 160, .ref 161, .ref 162, .ref 163, .ref 164, .ref 165, .ref 166, .int 0, .ref 167, .ref 168])).set 129 (pv_b 200 (upd (upd F129 4 (vp_nar .byte ((a1 >>> (24 &&& 31)).toInt8.toInt32))) 5 (vp_nar .byte ((a1 >>> (16 &&& 31)).toInt8.toInt32))))).set 123 (pv_o 12 [.int 0, .int 0, .int 1, .int 0, .int 0, .ref 124, .ref 125, .ref 126, .ref 127, .ref 128, .ref 129, .int 6, .int 0, .int 0, .int 0, .int 0, .int 0, .int 0, .int 0, .int 0, .int 0, .ref 130, .ref 131, .ref 132, .ref 133, .ref 134, .ref 135, .ref 136, .ref 137, .ref 138, .ref 139, .ref 140, .ref 141, .ref 142, .ref 143, .ref 144, .ref 145, .ref 146, .ref 147, .ref 148, .int 0, .int 0, .ref 149, .ref 150, .ref 151, .ref 152, .ref 153, .ref 154, .ref 155, .ref 156, .int 0, .ref 157, .ref 158, .ref 159, .ref 160, .ref 161, .ref 162, .ref 163, .ref 164, .ref 165, .ref 166, .int 0, .ref 167, .ref 168])).set 129 (pv_b 200 (upd (upd (upd F129 4 (vp_nar .byte ((a1 >>> (24 &&& 31)).toInt8.toInt32))) 5 (vp_nar .byte ((a1 >>> (16 &&& 31)).toInt8.toInt32))) 6 (vp_nar .byte ((a1 >>> (8 &&& 31)).toInt8.toInt32))))).set 123 (pv_o 12 [.int 0, .int 0, .int 1, .int 0, .int 0, .ref 124, .ref 125, .ref 126, .ref 127, .ref 128, .ref 129, .int 7, .int 0, .int 0, .int 0, .int 0, .int 0, .int 0, .int 0, .int 0, .int 0, .ref 130, .ref 131, .ref 132, .ref 133, .ref 134, .ref 135, .ref 136, .ref 137, .ref 138, .ref 139, .ref 140, .ref 141, .ref 142, .ref 143, .ref 144, .ref 145, .ref 146, .ref 147, .ref 148, .int 0, .int 0, .ref 149, .ref 150, .ref 151, .ref 152, .ref 153, .ref 154, .ref 155, .ref 156, .int 0, .ref 157, .ref 158, .ref 159, .ref 160, .ref 161, .ref 162, .ref 163, .ref 164, .ref 165, .ref 166, .int 0, .ref 167, .ref 168])).set 129 (pv_b 200 (upd (upd (upd (upd F129 4 (vp_nar .byte ((a1 >>> (24 &&& 31)).toInt8.toInt32))) 5 (vp_nar .byte ((a1 >>> (16 &&& 31)).toInt8.toInt32))) 6 (vp_nar .byte ((a1 >>> (8 &&& 31)).toInt8.toInt32))) 7 (vp_nar .byte ((a1 >>> (0 &&& 31)).toInt8.toInt32))))).set 123 (pv_o 12 [.int 0, .int 0, .int 1, .int 0, .int 0, .ref 124, .ref 125, .ref 126, .ref 127, .ref 128, .ref 129, .int 8, .int 0, .int 0, .int 0, .int 0, .int 0, .int 0, .int 0, .int 0, .int 0, .ref 130, .ref 131, .ref 132, .ref 133, .ref 134, .ref 135, .ref 136, .ref 137, .ref 138, .ref 139, .ref 140, .ref 141, .ref 142, .ref 143, .ref 144, .ref 145, .ref 146, .ref 147, .ref 148, .int 0, .int 0, .ref 149, .ref 150, .ref 151, .ref 152, .ref 153, .ref 154, .ref 155, .ref 156, .int 0, .ref 157, .ref 158, .ref 159, .ref 160, .ref 161, .ref 162, .ref 163, .ref 164, .ref 165, .ref 166, .int 0, .ref 167, .ref 168])))) 1 0 0 [.ref 123, .int a1] h := by
  refine PM.of 1 (lo := [.ref 123, .int a1, pv_U]) rfl (by decide) rfl rfl (Nat.le_of_ble_eq_true rfl) ?_
  refine pv_iconst (M := mX12_types) (v := 3) dX12_types_0 1 rfl (by decide) ?_
  refine pv_istore_n (M := mX12_types) 2 (lo2 := [.ref 123, .int a1, .int 3]) dX12_types_1 2 rfl rfl (by decide) rfl rfl ?_
  refine pv_iload_n (M := mX12_types) 2 dX12_types_2 3 rfl rfl rfl ?_
  refine pv_if_lt (M := mX12_types) (tgt := 38) dX12_types_3 6 rfl (by decide) (fun q => absurd q (by decide)) (fun _ => ?_)
  refine pv_aload_n (M := mX12_types) 0 dX12_types_6 7 rfl rfl rfl ?_
  refine pv_get (M := mX12_types) dX12_types_7 FX12 10 wd1183 (by decide) e123 rfl 10 rfl ?_
  refine pv_aload_n (M := mX12_types) 0 dX12_types_10 11 rfl rfl rfl ?_
  refine pv_get (M := mX12_types) dX12_types_11 FX12 11 wd1184 (by decide) e123 rfl 14 rfl ?_
  refine pv_iload_n (M := mX12_types) 1 dX12_types_14 15 rfl rfl rfl ?_
  refine pv_bipush (M := mX12_types) (v := 8) dX12_types_15 17 rfl (by decide) ?_
  refine pv_iload_n (M := mX12_types) 2 dX12_types_17 18 rfl rfl rfl ?_
  refine pv_imul (M := mX12_types) (v := 24) dX12_types_18 19 rfl (by decide) ?_
  refine pv_ishr (M := mX12_types) (v := a1 >>> (24 &&& 31)) dX12_types_19 20 rfl rfl ?_
  refine pv_i2b (M := mX12_types) (v := (a1 >>> (24 &&& 31)).toInt8.toInt32) dX12_types_20 21 rfl rfl ?_
  refine pv_bast (M := mX12_types) dX12_types_21 e129 (pv_in0 (by decide)) (j := 4) (by decide) rfl 22 rfl ?_
  refine pv_aload_n (M := mX12_types) 0 dX12_types_22 23 rfl rfl rfl ?_
  refine pv_aload_n (M := mX12_types) 0 dX12_types_23 24 rfl rfl rfl ?_
  refine pv_get (M := mX12_types) dX12_types_24 FX12 11 wd1184 (by decide) (pv_sn (by decide) e123) rfl 27 rfl ?_
  refine pv_iconst (M := mX12_types) (v := 1) dX12_types_27 28 rfl (by decide) ?_
  refine pv_iadd (M := mX12_types) (v := 5) dX12_types_28 29 rfl (by decide) ?_
  refine pv_put (M := mX12_types) (fs2 := [.int 0, .int 0, .int 1, .int 0, .int 0, .ref 124, .ref 125, .ref 126, .ref 127, .ref 128, .ref 129, .int 5, .int 0, .int 0, .int 0, .int 0, .int 0, .int 0, .int 0, .int 0, .int 0, .ref 130, .ref 131, .ref 132, .ref 133, .ref 134, .ref 135, .ref 136, .ref 137, .ref 138, .ref 139, .ref 140, .ref 141, .ref 142, .ref 143, .ref 144, .ref 145, .ref 146, .ref 147, .ref 148, .int 0, .int 0, .ref 149, .ref 150, .ref 151, .ref 152, .ref 153, .ref 154, .ref 155, .ref 156, .int 0, .ref 157, .ref 158, .ref 159, .ref 160, .ref 161, .ref 162, .ref 163, .ref 164, .ref 165, .ref 166, .int 0, .ref 167, .ref 168]) dX12_types_29 FX12 11 wd1184 (by decide) rfl (pv_sn (by decide) e123) (Nat.le_of_ble_eq_true rfl) (fun _ => rfl) (fun _ => rfl) rfl rfl 32 rfl ?_
  refine pv_iinc (M := mX12_types) (v := 2) (lo2 := [.ref 123, .int a1, .int 2]) dX12_types_32 35 rfl rfl (by decide) (by decide) rfl rfl ?_
  refine pv_goto (M := mX12_types) (tgt := 2) dX12_types_35 (by decide) ?_
  refine pv_iload_n (M := mX12_types) 2 dX12_types_2 3 rfl rfl rfl ?_
  refine pv_if_lt (M := mX12_types) (tgt := 38) dX12_types_3 6 rfl (by decide) (fun q => absurd q (by decide)) (fun _ => ?_)
  refine pv_aload_n (M := mX12_types) 0 dX12_types_6 7 rfl rfl rfl ?_
  refine pv_get (M := mX12_types) dX12_types_7 FX12 10 wd1183 (by decide) (pv_se (pv_sn (by decide) e123)) rfl 10 rfl ?_
  refine pv_aload_n (M := mX12_types) 0 dX12_types_10 11 rfl rfl rfl ?_
  refine pv_get (M := mX12_types) dX12_types_11 FX12 11 wd1184 (by decide) (pv_se (pv_sn (by decide) e123)) rfl 14 rfl ?_
  refine pv_iload_n (M := mX12_types) 1 dX12_types_14 15 rfl rfl rfl ?_
  refine pv_bipush (M := mX12_types) (v := 8) dX12_types_15 17 rfl (by decide) ?_
  refine pv_iload_n (M := mX12_types) 2 dX12_types_17 18 rfl rfl rfl ?_
  refine pv_imul (M := mX12_types) (v := 16) dX12_types_18 19 rfl (by decide) ?_
  refine pv_ishr (M := mX12_types) (v := a1 >>> (16 &&& 31)) dX12_types_19 20 rfl rfl ?_
  refine pv_i2b (M := mX12_types) (v := (a1 >>> (16 &&& 31)).toInt8.toInt32) dX12_types_20 21 rfl rfl ?_
  refine pv_bast (M := mX12_types) dX12_types_21 (pv_sn (by decide) (pv_se e129)) (pv_in0 (by decide)) (j := 5) (by decide) rfl 22 rfl ?_
  refine pv_aload_n (M := mX12_types) 0 dX12_types_22 23 rfl rfl rfl ?_
  refine pv_aload_n (M := mX12_types) 0 dX12_types_23 24 rfl rfl rfl ?_
  refine pv_get (M := mX12_types) dX12_types_24 FX12 11 wd1184 (by decide) (pv_sn (by decide) (pv_se (pv_sn (by decide) e123))) rfl 27 rfl ?_
  refine pv_iconst (M := mX12_types) (v := 1) dX12_types_27 28 rfl (by decide) ?_
  refine pv_iadd (M := mX12_types) (v := 6) dX12_types_28 29 rfl (by decide) ?_
  refine pv_put (M := mX12_types) (fs2 := [.int 0, .int 0, .int 1, .int 0, .int 0, .ref 124, .ref 125, .ref 126, .ref 127, .ref 128, .ref 129, .int 6, .int 0, .int 0, .int 0, .int 0, .int 0, .int 0, .int 0, .int 0, .int 0, .ref 130, .ref 131, .ref 132, .ref 133, .ref 134, .ref 135, .ref 136, .ref 137, .ref 138, .ref 139, .ref 140, .ref 141, .ref 142, .ref 143, .ref 144, .ref 145, .ref 146, .ref 147, .ref 148, .int 0, .int 0, .ref 149, .ref 150, .ref 151, .ref 152, .ref 153, .ref 154, .ref 155, .ref 156, .int 0, .ref 157, .ref 158, .ref 159, .ref 160, .ref 161, .ref 162, .ref 163, .ref 164, .ref 165, .ref 166, .int 0, .ref 167, .ref 168]) dX12_types_29 FX12 11 wd1184 (by decide) rfl (pv_sn (by decide) (pv_se (pv_sn (by decide) e123))) (Nat.le_of_ble_eq_true rfl) (fun _ => rfl) (fun _ => rfl) rfl rfl 32 rfl ?_
  refine pv_iinc (M := mX12_types) (v := 1) (lo2 := [.ref 123, .int a1, .int 1]) dX12_types_32 35 rfl rfl (by decide) (by decide) rfl rfl ?_
  refine pv_goto (M := mX12_types) (tgt := 2) dX12_types_35 (by decide) ?_
  refine pv_iload_n (M := mX12_types) 2 dX12_types_2 3 rfl rfl rfl ?_
  refine pv_if_lt (M := mX12_types) (tgt := 38) dX12_types_3 6 rfl (by decide) (fun q => absurd q (by decide)) (fun _ => ?_)
  refine pv_aload_n (M := mX12_types) 0 dX12_types_6 7 rfl rfl rfl ?_
  refine pv_get (M := mX12_types) dX12_types_7 FX12 10 wd1183 (by decide) (pv_se (pv_sn (by decide) (pv_se (pv_sn (by decide) e123)))) rfl 10 rfl ?_
  refine pv_aload_n (M := mX12_types) 0 dX12_types_10 11 rfl rfl rfl ?_
  refine pv_get (M := mX12_types) dX12_types_11 FX12 11 wd1184 (by decide) (pv_se (pv_sn (by decide) (pv_se (pv_sn (by decide) e123)))) rfl 14 rfl ?_
  refine pv_iload_n (M := mX12_types) 1 dX12_types_14 15 rfl rfl rfl ?_
  refine pv_bipush (M := mX12_types) (v := 8) dX12_types_15 17 rfl (by decide) ?_
  refine pv_iload_n (M := mX12_types) 2 dX12_types_17 18 rfl rfl rfl ?_
  refine pv_imul (M := mX12_types) (v := 8) dX12_types_18 19 rfl (by decide) ?_
  refine pv_ishr (M := mX12_types) (v := a1 >>> (8 &&& 31)) dX12_types_19 20 rfl rfl ?_
  refine pv_i2b (M := mX12_types) (v := (a1 >>> (8 &&& 31)).toInt8.toInt32) dX12_types_20 21 rfl rfl ?_
  refine pv_bast (M := mX12_types) dX12_types_21 (pv_sn (by decide) (pv_se (pv_sn (by decide) (pv_se e129)))) (pv_in0 (by decide)) (j := 6) (by decide) rfl 22 rfl ?_
  refine pv_aload_n (M := mX12_types) 0 dX12_types_22 23 rfl rfl rfl ?_
  refine pv_aload_n (M := mX12_types) 0 dX12_types_23 24 rfl rfl rfl ?_
  refine pv_get (M := mX12_types) dX12_types_24 FX12 11 wd1184 (by decide) (pv_sn (by decide) (pv_se (pv_sn (by decide) (pv_se (pv_sn (by decide) e123))))) rfl 27 rfl ?_
  refine pv_iconst (M := mX12_types) (v := 1) dX12_types_27 28 rfl (by decide) ?_
  refine pv_iadd (M := mX12_types) (v := 7) dX12_types_28 29 rfl (by decide) ?_
  refine pv_put (M := mX12_types) (fs2 := [.int 0, .int 0, .int 1, .int 0, .int 0, .ref 124, .ref 125, .ref 126, .ref 127, .ref 128, .ref 129, .int 7, .int 0, .int 0, .int 0, .int 0, .int 0, .int 0, .int 0, .int 0, .int 0, .ref 130, .ref 131, .ref 132, .ref 133, .ref 134, .ref 135, .ref 136, .ref 137, .ref 138, .ref 139, .ref 140, .ref 141, .ref 142, .ref 143, .ref 144, .ref 145, .ref 146, .ref 147, .ref 148, .int 0, .int 0, .ref 149, .ref 150, .ref 151, .ref 152, .ref 153, .ref 154, .ref 155, .ref 156, .int 0, .ref 157, .ref 158, .ref 159, .ref 160, .ref 161, .ref 162, .ref 163, .ref 164, .ref 165, .ref 166, .int 0, .ref 167, .ref 168]) dX12_types_29 FX12 11 wd1184 (by decide) rfl (pv_sn (by decide) (pv_se (pv_sn (by decide) (pv_se (pv_sn (by decide) e123))))) (Nat.le_of_ble_eq_true rfl) (fun _ => rfl) (fun _ => rfl) rfl rfl 32 rfl ?_
  refine pv_iinc (M := mX12_types) (v := 0) (lo2 := [.ref 123, .int a1, .int 0]) dX12_types_32 35 rfl rfl (by decide) (by decide) rfl rfl ?_
  refine pv_goto (M := mX12_types) (tgt := 2) dX12_types_35 (by decide) ?_
  refine pv_iload_n (M := mX12_types) 2 dX12_types_2 3 rfl rfl rfl ?_
  refine pv_if_lt (M := mX12_types) (tgt := 38) dX12_types_3 6 rfl (by decide) (fun q => absurd q (by decide)) (fun _ => ?_)
  refine pv_aload_n (M := mX12_types) 0 dX12_types_6 7 rfl rfl rfl ?_
  refine pv_get (M := mX12_types) dX12_types_7 FX12 10 wd1183 (by decide) (pv_se (pv_sn (by decide) (pv_se (pv_sn (by decide) (pv_se (pv_sn (by decide) e123)))))) rfl 10 rfl ?_
  refine pv_aload_n (M := mX12_types) 0 dX12_types_10 11 rfl rfl rfl ?_
  refine pv_get (M := mX12_types) dX12_types_11 FX12 11 wd1184 (by decide) (pv_se (pv_sn (by decide) (pv_se (pv_sn (by decide) (pv_se (pv_sn (by decide) e123)))))) rfl 14 rfl ?_
  refine pv_iload_n (M := mX12_types) 1 dX12_types_14 15 rfl rfl rfl ?_
  refine pv_bipush (M := mX12_types) (v := 8) dX12_types_15 17 rfl (by decide) ?_
  refine pv_iload_n (M := mX12_types) 2 dX12_types_17 18 rfl rfl rfl ?_
  refine pv_imul (M := mX12_types) (v := 0) dX12_types_18 19 rfl (by decide) ?_
  refine pv_ishr (M := mX12_types) (v := a1 >>> (0 &&& 31)) dX12_types_19 20 rfl rfl ?_
  refine pv_i2b (M := mX12_types) (v := (a1 >>> (0 &&& 31)).toInt8.toInt32) dX12_types_20 21 rfl rfl ?_
  refine pv_bast (M := mX12_types) dX12_types_21 (pv_sn (by decide) (pv_se (pv_sn (by decide) (pv_se (pv_sn (by decide) (pv_se e129)))))) (pv_in0 (by decide)) (j := 7) (by decide) rfl 22 rfl ?_
  refine pv_aload_n (M := mX12_types) 0 dX12_types_22 23 rfl rfl rfl ?_
  refine pv_aload_n (M := mX12_types) 0 dX12_types_23 24 rfl rfl rfl ?_
  refine pv_get (M := mX12_types) dX12_types_24 FX12 11 wd1184 (by decide) (pv_sn (by decide) (pv_se (pv_sn (by decide) (pv_se (pv_sn (by decide) (pv_se (pv_sn (by decide) e123))))))) rfl 27 rfl ?_
  refine pv_iconst (M := mX12_types) (v := 1) dX12_types_27 28 rfl (by decide) ?_
  refine pv_iadd (M := mX12_types) (v := 8) dX12_types_28 29 rfl (by decide) ?_
  refine pv_put (M := mX12_types) (fs2 := [.int 0, .int 0, .int 1, .int 0, .int 0, .ref 124, .ref 125, .ref 126, .ref 127, .ref 128, .ref 129, .int 8, .int 0, .int 0, .int 0, .int 0, .int 0, .int 0, .int 0, .int 0, .int 0, .ref 130, .ref 131, .ref 132, .ref 133, .ref 134, .ref 135, .ref 136, .ref 137, .ref 138, .ref 139, .ref 140, .ref 141, .ref 142, .ref 143, .ref 144, .ref 145, .ref 146, .ref 147, .ref 148, .int 0, .int 0, .ref 149, .ref 150, .ref 151, .ref 152, .ref 153, .ref 154, .ref 155, .ref 156, .int 0, .ref 157, .ref 158, .ref 159, .ref 160, .ref 161, .ref 162, .ref 163, .ref 164, .ref 165, .ref 166, .int 0, .ref 167, .ref 168]) dX12_types_29 FX12 11 wd1184 (by decide) rfl (pv_sn (by decide) (pv_se (pv_sn (by decide) (pv_se (pv_sn (by decide) (pv_se (pv_sn (by decide) e123))))))) (Nat.le_of_ble_eq_true rfl) (fun _ => rfl) (fun _ => rfl) rfl rfl 32 rfl ?_
  refine pv_iinc (M := mX12_types) (v := (-1)) (lo2 := [.ref 123, .int a1, .int (-1)]) dX12_types_32 35 rfl rfl (by decide) (by decide) rfl rfl ?_
  refine pv_goto (M := mX12_types) (tgt := 2) dX12_types_35 (by decide) ?_
  refine pv_iload_n (M := mX12_types) 2 dX12_types_2 3 rfl rfl rfl ?_
  refine pv_if_lt (M := mX12_types) (tgt := 38) dX12_types_3 6 rfl (by decide) (fun _ => ?_) (fun q => absurd (by decide) q)
  exact pv_vret (M := mX12_types) dX12_types_38 rfl ⟨rfl, rfl⟩

set_option maxHeartbeats 400000 in
set_option maxRecDepth 20000 in
theorem k_X12_types_3 (g : pv_G) {h : List pv_C} (a1 : Int32) (F129 : Nat → Int32) (e123 : h[123]? = some (pv_o 12 [.int 0, .int 0, .int 1, .int 0, .int 0, .ref 124, .ref 125, .ref 126, .ref 127, .ref 128, .ref 129, .int 8, .int 0, .int 0, .int 0, .int 0, .int 0, .int 0, .int 0, .int 0, .int 0, .ref 130, .ref 131, .ref 132, .ref 133, .ref 134, .ref 135, .ref 136, .ref 137, .ref 138, .ref 139, .ref 140, .ref 141, .ref 142, .ref 143, .ref 144, .ref 145, .ref 146, .ref 147, .ref 148, .int 0, .int 0, .ref 149, .ref 150, .ref 151, .ref 152, .ref 153, .ref 154, .ref 155, .ref 156, .int 0, .ref 157, .ref 158, .ref 159, .ref 160, .ref 161, .ref 162, .ref 163, .ref 164, .ref 165, .ref 166, .int 0, .ref 167, .ref 168])) (e129 : h[129]? = some (pv_b 200 F129)) : PM g mX12_types yX12_types (pv_is none (((((((((h.set 129 (pv_b 200 (upd F129 8 (vp_nar .byte ((a1 >>> (24 &&& 31)).toInt8.toInt32))))).set 123 (pv_o 12 [.int 0, .int 0, .int 1, .int 0, .int 0, .ref 124, .ref 125, .ref 126, .ref 127, .ref 128, .ref 129, .int 9, .int 0, .int 0, .int 0, .int 0, .int 0, .int 0, .int 0, .int 0, .int 0, .ref 130, .ref 131, .ref 132, .ref 133, .ref 134, .ref 135, .ref 136, .ref 137, .ref 138, .ref 139, .ref 140, .ref 141, .ref 142, .ref 143, .ref 144, .ref 145, .ref 146, .ref 147, .ref 148, .int 0, .int 0, .ref 149, .ref 150, .ref 151, .ref 152, .ref 153, .ref 154, .ref 155, .ref 156, .int 0, .ref 157, .ref 158, .ref 159, .ref 160, .ref 161, .ref 162, .ref 163, .ref 164, .ref 165, .ref 166, .int 0, .ref 167, .ref 168])).set 129 (pv_b 200 (upd (upd F129 8 (vp_nar .byte ((a1 >>> (24 &&& 31)).toInt8.toInt32))) 9 (vp_nar .byte ((a1 >>> (16 &&& 31)).toInt8.toInt32))))).set 123 (pv_o 12 [.int 0, .int 0, .int 1, .int 0, .int 0, .ref 124, .ref 125, .ref 126, .ref 127, .ref 128, .ref 129, .int 10, .int 0, .int 0, .int 0, .int 0, .int 0, .int 0, .int 0, .int 0, .int 0, .ref 130, .ref 131, .ref 132, .ref 133, .ref 134, .ref 135, .ref 136, .ref 137, .ref 138, .ref 139, .ref 140, .ref 141, .ref 142, .ref 143, .ref 144, .ref 145, .ref 146, .ref 147, .ref 148, .int 0, .int 0, .ref 149, .ref 150, .ref 151, .ref 152, .ref 153, .ref 154, .ref 155, .ref 156, .int 0, .ref 157, .ref 158, .ref 159, .ref 160, .ref 161, .ref 162, .ref 163, .ref 164, .ref 165, .ref 166, .int 0, .ref 167, .ref 168])).set 129 (pv_b 200 (upd (upd (upd F129 8 (vp_nar .byte ((a1 >>> (24 &&& 31)).toInt8.toInt32))) 9 (vp_nar .byte ((a1 >>> (16 &&& 31)).toInt8.toInt32))) 10 (vp_nar .byte ((a1 >>> (8 &&& 31)).toInt8.toInt32))))).set 123 (pv_o 12 [.int 0, .int 0, .int 1, .int 0, .int 0, .ref 124, .ref 125, .ref 126, .ref 127, .ref 128, .ref 129, .int 11, .int 0, .int 0, .int 0, .int 0, .int 0, .int 0, .int 0, .int 0, .int 0, .ref 130, .ref 131, .ref 132, .ref 133, .ref 134, .ref 135, .ref 136, .ref 137, .ref 138, .ref 139, .ref 140, .ref 141, .ref 142, .ref 143, .ref 144, .ref 145, .ref 146, .ref 147, .ref 148, .int 0, .int 0, .ref 149, .ref 150, .ref 151, .ref 152, .ref 153, .ref 154, .ref 155, .ref 156, .int 0, .ref 157, .ref 158, .ref 159, .ref 160, .ref 161, .ref 162, .ref 163, .ref 164, .ref 165, .ref 166, .int 0, .ref 167, .ref 168])).set 129 (pv_b 200 (upd (upd (upd (upd F129 8 (vp_nar .byte ((a1 >>> (24 &&& 31)).toInt8.toInt32))) 9 (vp_nar .byte ((a1 >>> (16 &&& 31)).toInt8.toInt32))) 10 (vp_nar .byte ((a1 >>> (8 &&& 31)).toInt8.toInt32))) 11 (vp_nar .byte ((a1 >>> (0 &&& 31)).toInt8.toInt32))))).set 123 (pv_o 12 [.int 0, .int 0, .int 1, .int 0, .int 0, .ref 124, .ref 125, .ref 126, .ref 127, .ref 128, .ref 129, .int 12, .int 0, .int 0, .int 0, .int 0, .int 0, .int 0, .int 0, .int 0, .int 0, .ref 130, .ref 131, .ref 132, .ref 133, .ref 134, .ref 135, .ref 136, .ref 137, .ref 138, .ref 139, .ref 140, .ref 141, .ref 142, .ref 143, .ref 144, .ref 145, .ref 146, .ref 147, .ref 148, .int 0, .int 0, .ref 149, .ref 150, .ref 151, .ref 152, .ref 153, .ref 154, .ref 155, .ref 156, .int 0, .ref 157, .ref 158, .ref 159, .ref 160, .ref 161, .ref 162, .ref 163, .ref 164, .ref 165, .ref 166, .int 0, .ref 167, .ref 168])))) 1 0 0 [.ref 123, .int a1] h := by
  refine PM.of 1 (lo := [.ref 123, .int a1, pv_U]) rfl (by decide) rfl rfl (Nat.le_of_ble_eq_true rfl) ?_
  refine pv_iconst (M := mX12_types) (v := 3) dX12_types_0 1 rfl (by decide) ?_
  refine pv_istore_n (M := mX12_types) 2 (lo2 := [.ref 123, .int a1, .int 3]) dX12_types_1 2 rfl rfl (by decide) rfl rfl ?_
  refine pv_iload_n (M := mX12_types) 2 dX12_types_2 3 rfl rfl rfl ?_
  refine pv_if_lt (M := mX12_types) (tgt := 38) dX12_types_3 6 rfl (by decide) (fun q => absurd q (by decide)) (fun _ => ?_)
  refine pv_aload_n (M := mX12_types) 0 dX12_types_6 7 rfl rfl rfl ?_
  refine pv_get (M := mX12_types) dX12_types_7 FX12 10 wd1183 (by decide) e123 rfl 10 rfl ?_
  refine pv_aload_n (M := mX12_types) 0 dX12_types_10 11 rfl rfl rfl ?_
  refine pv_get (M := mX12_types) dX12_types_11 FX12 11 wd1184 (by decide) e123 rfl 14 rfl ?_
  refine pv_iload_n (M := mX12_types) 1 dX12_types_14 15 rfl rfl rfl ?_
  refine pv_bipush (M := mX12_types) (v := 8) dX12_types_15 17 rfl (by decide) ?_
  refine pv_iload_n (M := mX12_types) 2 dX12_types_17 18 rfl rfl rfl ?_
  refine pv_imul (M := mX12_types) (v := 24) dX12_types_18 19 rfl (by decide) ?_
  refine pv_ishr (M := mX12_types) (v := a1 >>> (24 &&& 31)) dX12_types_19 20 rfl rfl ?_
  refine pv_i2b (M := mX12_types) (v := (a1 >>> (24 &&& 31)).toInt8.toInt32) dX12_types_20 21 rfl rfl ?_
  refine pv_bast (M := mX12_types) dX12_types_21 e129 (pv_in0 (by decide)) (j := 8) (by decide) rfl 22 rfl ?_
  refine pv_aload_n (M := mX12_types) 0 dX12_types_22 23 rfl rfl rfl ?_
  refine pv_aload_n (M := mX12_types) 0 dX12_types_23 24 rfl rfl rfl ?_
  refine pv_get (M := mX12_types) dX12_types_24 FX12 11 wd1184 (by decide) (pv_sn (by decide) e123) rfl 27 rfl ?_
  refine pv_iconst (M := mX12_types) (v := 1) dX12_types_27 28 rfl (by decide) ?_
  refine pv_iadd (M := mX12_types) (v := 9) dX12_types_28 29 rfl (by decide) ?_
  refine pv_put (M := mX12_types) (fs2 := [.int 0, .int 0, .int 1, .int 0, .int 0, .ref 124, .ref 125, .ref 126, .ref 127, .ref 128, .ref 129, .int 9, .int 0, .int 0, .int 0, .int 0, .int 0, .int 0, .int 0, .int 0, .int 0, .ref 130, .ref 131, .ref 132, .ref 133, .ref 134, .ref 135, .ref 136, .ref 137, .ref 138, .ref 139, .ref 140, .ref 141, .ref 142, .ref 143, .ref 144, .ref 145, .ref 146, .ref 147, .ref 148, .int 0, .int 0, .ref 149, .ref 150, .ref 151, .ref 152, .ref 153, .ref 154, .ref 155, .ref 156, .int 0, .ref 157, .ref 158, .ref 159, .ref 160, .ref 161, .ref 162, .ref 163, .ref 164, .ref 165, .ref 166, .int 0, .ref 167, .ref 168]) dX12_types_29 FX12 11 wd1184 (by decide) rfl (pv_sn (by decide) e123) (Nat.le_of_ble_eq_true rfl) (fun _ => rfl) (fun _ => rfl) rfl rfl 32 rfl ?_
  refine pv_iinc (M := mX12_types) (v := 2) (lo2 := [.ref 123, .int a1, .int 2]) dX12_types_32 35 rfl rfl (by decide) (by decide) rfl rfl ?_
  refine pv_goto (M := mX12_types) (tgt := 2) dX12_types_35 (by decide) ?_
  refine pv_iload_n (M := mX12_types) 2 dX12_types_2 3 rfl rfl rfl ?_
  refine pv_if_lt (M := mX12_types) (tgt := 38) dX12_types_3 6 rfl (by decide) (fun q => absurd q (by decide)) (fun _ => ?_)
  refine pv_aload_n (M := mX12_types) 0 dX12_types_6 7 rfl rfl rfl ?_
  refine pv_get (M := mX12_types) dX12_types_7 FX12 10 wd1183 (by decide) (pv_se (pv_sn (by decide) e123)) rfl 10 rfl ?_
  refine pv_aload_n (M := mX12_types) 0 dX12_types_10 11 rfl rfl rfl ?_
  refine pv_get (M := mX12_types) dX12_types_11 FX12 11 wd1184 (by decide) (pv_se (pv_sn (by decide) e123)) rfl 14 rfl ?_
  refine pv_iload_n (M := mX12_types) 1 dX12_types_14 15 rfl rfl rfl ?_
  refine pv_bipush (M := mX12_types) (v := 8) dX12_types_15 17 rfl (by decide) ?_
  refine pv_iload_n (M := mX12_types) 2 dX12_types_17 18 rfl rfl rfl ?_
  refine pv_imul (M := mX12_types) (v := 16) dX12_types_18 19 rfl (by decide) ?_
  refine pv_ishr (M := mX12_types) (v := a1 >>> (16 &&& 31)) dX12_types_19 20 rfl rfl ?_
  refine pv_i2b (M := mX12_types) (v := (a1 >>> (16 &&& 31)).toInt8.toInt32) dX12_types_20 21 rfl rfl ?_
  refine pv_bast (M := mX12_types) dX12_types_21 (pv_sn (by decide) (pv_se e129)) (pv_in0 (by decide)) (j := 9) (by decide) rfl 22 rfl ?_
  refine pv_aload_n (M := mX12_types) 0 dX12_types_22 23 rfl rfl rfl ?_
  refine pv_aload_n (M := mX12_types) 0 dX12_types_23 24 rfl rfl rfl ?_
  refine pv_get (M := mX12_types) dX12_types_24 FX12 11 wd1184 (by decide) (pv_sn (by decide) (pv_se (pv_sn (by decide) e123))) rfl 27 rfl ?_
  refine pv_iconst (M := mX12_types) (v := 1) dX12_types_27 28 rfl (by decide) ?_
  refine pv_iadd (M := mX12_types) (v := 10) dX12_types_28 29 rfl (by decide) ?_
  refine pv_put (M := mX12_types) (fs2 := [.int 0, .int 0, .int 1, .int 0, .int 0, .ref 124, .ref 125, .ref 126, .ref 127, .ref 128, .ref 129, .int 10, .int 0, .int 0, .int 0, .int 0, .int 0, .int 0, .int 0, .int 0, .int 0, .ref 130, .ref 131, .ref 132, .ref 133, .ref 134, .ref 135, .ref 136, .ref 137, .ref 138, .ref 139, .ref 140, .ref 141, .ref 142, .ref 143, .ref 144, .ref 145, .ref 146, .ref 147, .ref 148, .int 0, .int 0, .ref 149, .ref 150, .ref 151, .ref 152, .ref 153, .ref 154, .ref 155, .ref 156, .int 0, .ref 157, .ref 158, .ref 159, .ref 160, .ref 161, .ref 162, .ref 163, .ref 164, .ref 165, .ref 166, .int 0, .ref 167, .ref 168]) dX12_types_29 FX12 11 wd1184 (by decide) rfl (pv_sn (by decide) (pv_se (pv_sn (by decide) e123))) (Nat.le_of_ble_eq_true rfl) (fun _ => rfl) (fun _ => rfl) rfl rfl 32 rfl ?_
  refine pv_iinc (M := mX12_types) (v := 1) (lo2 := [.ref 123, .int a1, .int 1]) dX12_types_32 35 rfl rfl (by decide) (by decide) rfl rfl ?_
  refine pv_goto (M := mX12_types) (tgt := 2) dX12_types_35 (by decide) ?_
  refine pv_iload_n (M := mX12_types) 2 dX12_types_2 3 rfl rfl rfl ?_
  refine pv_if_lt (M := mX12_types) (tgt := 38) dX12_types_3 6 rfl (by decide) (fun q => absurd q (by decide)) (fun _ => ?_)
  refine pv_aload_n (M := mX12_types) 0 dX12_types_6 7 rfl rfl rfl ?_
  refine pv_get (M := mX12_types) dX12_types_7 FX12 10 wd1183 (by decide) (pv_se (pv_sn (by decide) (pv_se (pv_sn (by decide) e123)))) rfl 10 rfl ?_
  refine pv_aload_n (M := mX12_types) 0 dX12_types_10 11 rfl rfl rfl ?_
  refine pv_get (M := mX12_types) dX12_types_11 FX12 11 wd1184 (by decide) (pv_se (pv_sn (by decide) (pv_se (pv_sn (by decide) e123)))) rfl 14 rfl ?_
  refine pv_iload_n (M := mX12_types) 1 dX12_types_14 15 rfl rfl rfl ?_
  refine pv_bipush (M := mX12_types) (v := 8) dX12_types_15 17 rfl (by decide) ?_
  refine pv_iload_n (M := mX12_types) 2 dX12_types_17 18 rfl rfl rfl ?_
  refine pv_imul (M := mX12_types) (v := 8) dX12_types_18 19 rfl (by decide) ?_
  refine pv_ishr (M := mX12_types) (v := a1 >>> (8 &&& 31)) dX12_types_19 20 rfl rfl ?_
  refine pv_i2b (M := mX12_types) (v := (a1 >>> (8 &&& 31)).toInt8.toInt32) dX12_types_20 21 rfl rfl ?_
  refine pv_bast (M := mX12_types) dX12_types_21 (pv_sn (by decide) (pv_se (pv_sn (by decide) (pv_se e129)))) (pv_in0 (by decide)) (j := 10) (by decide) rfl 22 rfl ?_
  refine pv_aload_n (M := mX12_types) 0 dX12_types_22 23 rfl rfl rfl ?_
  refine pv_aload_n (M := mX12_types) 0 dX12_types_23 24 rfl rfl rfl ?_
  refine pv_get (M := mX12_types) dX12_types_24 FX12 11 wd1184 (by decide) (pv_sn (by decide) (pv_se (pv_sn (by decide) (pv_se (pv_sn (by decide) e123))))) rfl 27 rfl ?_
  refine pv_iconst (M := mX12_types) (v := 1) dX12_types_27 28 rfl (by decide) ?_
  refine pv_iadd (M := mX12_types) (v := 11) dX12_types_28 29 rfl (by decide) ?_
  refine pv_put (M := mX12_types) (fs2 := [.int 0, .int 0, .int 1, .int 0, .int 0, .ref 124, .ref 125, .ref 126, .ref 127, .ref 128, .ref 129, .int 11, .int 0, .int 0, .int 0, .int 0, .int 0, .int 0, .int 0, .int 0, .int 0, .ref 130, .ref 131, .ref 132, .ref 133, .ref 134, .ref 135, .ref 136, .ref 137, .ref 138, .ref 139, .ref 140, .ref 141, .ref 142, .ref 143, .ref 144, .ref 145, .ref 146, .ref 147, .ref 148, .int 0, .int 0, .ref 149, .ref 150, .ref 151, .ref 152, .ref 153, .ref 154, .ref 155, .ref 156, .int 0, .ref 157, .ref 158, .ref 159, .ref 160, .ref 161, .ref 162, .ref 163, .ref 164, .ref 165, .ref 166, .int 0, .ref 167, .ref 168]) dX12_types_29 FX12 11 wd1184 (by decide) rfl (pv_sn (by decide) (pv_se (pv_sn (by decide) (pv_se (pv_sn (by decide) e123))))) (Nat.le_of_ble_eq_true rfl) (fun _ => rfl) (fun _ => rfl) rfl rfl 32 rfl ?_
  refine pv_iinc (M := mX12_types) (v := 0) (lo2 := [.ref 123, .int a1, .int 0]) dX12_types_32 35 rfl rfl (by decide) (by decide) rfl rfl ?_
  refine pv_goto (M := mX12_types) (tgt := 2) dX12_types_35 (by decide) ?_
  refine pv_iload_n (M := mX12_types) 2 dX12_types_2 3 rfl rfl rfl ?_
  refine pv_if_lt (M := mX12_types) (tgt := 38) dX12_types_3 6 rfl (by decide) (fun q => absurd q (by decide)) (fun _ => ?_)
  refine pv_aload_n (M := mX12_types) 0 dX12_types_6 7 rfl rfl rfl ?_
  refine pv_get (M := mX12_types) dX12_types_7 FX12 10 wd1183 (by decide) (pv_se (pv_sn (by decide) (pv_se (pv_sn (by decide) (pv_se (pv_sn (by decide) e123)))))) rfl 10 rfl ?_
  refine pv_aload_n (M := mX12_types) 0 dX12_types_10 11 rfl rfl rfl ?_
  refine pv_get (M := mX12_types) dX12_types_11 FX12 11 wd1184 (by decide) (pv_se (pv_sn (by decide) (pv_se (pv_sn (by decide) (pv_se (pv_sn (by decide) e123)))))) rfl 14 rfl ?_
  refine pv_iload_n (M := mX12_types) 1 dX12_types_14 15 rfl rfl rfl ?_
  refine pv_bipush (M := mX12_types) (v := 8) dX12_types_15 17 rfl (by decide) ?_
  refine pv_iload_n (M := mX12_types) 2 dX12_types_17 18 rfl rfl rfl ?_
  refine pv_imul (M := mX12_types) (v := 0) dX12_types_18 19 rfl (by decide) ?_
  refine pv_ishr (M := mX12_types) (v := a1 >>> (0 &&& 31)) dX12_types_19 20 rfl rfl ?_
  refine pv_i2b (M := mX12_types) (v := (a1 >>> (0 &&& 31)).toInt8.toInt32) dX12_types_20 21 rfl rfl ?_
  refine pv_bast (M := mX12_types) dX12_types_21 (pv_sn (by decide) (pv_se (pv_sn (by decide) (pv_se (pv_sn (by decide) (pv_se e129)))))) (pv_in0 (by decide)) (j := 11) (by decide) rfl 22 rfl ?_
  refine pv_aload_n (M := mX12_types) 0 dX12_types_22 23 rfl rfl rfl ?_
  refine pv_aload_n (M := mX12_types) 0 dX12_types_23 24 rfl rfl rfl ?_
  refine pv_get (M := mX12_types) dX12_types_24 FX12 11 wd1184 (by decide) (pv_sn (by decide) (pv_se (pv_sn (by decide) (pv_se (pv_sn (by decide) (pv_se (pv_sn (by decide) e123))))))) rfl 27 rfl ?_
  refine pv_iconst (M := mX12_types) (v := 1) dX12_types_27 28 rfl (by decide) ?_
  refine pv_iadd (M := mX12_types) (v := 12) dX12_types_28 29 rfl (by decide) ?_
  refine pv_put (M := mX12_types) (fs2 := [.int 0, .int 0, .int 1, .int 0, .int 0, .ref 124, .ref 125, .ref 126, .ref 127, .ref 128, .ref 129, .int 12, .int 0, .int 0, .int 0, .int 0, .int 0, .int 0, .int 0, .int 0, .int 0, .ref 130, .ref 131, .ref 132, .ref 133, .ref 134, .ref 135, .ref 136, .ref 137, .ref 138, .ref 139, .ref 140, .ref 141, .ref 142, .ref 143, .ref 144, .ref 145, .ref 146, .ref 147, .ref 148, .int 0, .int 0, .ref 149, .ref 150, .ref 151, .ref 152, .ref 153, .ref 154, .ref 155, .ref 156, .int 0, .ref 157, .ref 158, .ref 159, .ref 160, .ref 161, .ref 162, .ref 163, .ref 164, .ref 165, .ref 166, .int 0, .ref 167, .ref 168]) dX12_types_29 FX12 11 wd1184 (by decide) rfl (pv_sn (by decide) (pv_se (pv_sn (by decide) (pv_se (pv_sn (by decide) (pv_se (pv_sn (by decide) e123))))))) (Nat.le_of_ble_eq_true rfl) (fun _ => rfl) (fun _ => rfl) rfl rfl 32 rfl ?_
  refine pv_iinc (M := mX12_types) (v := (-1)) (lo2 := [.ref 123, .int a1, .int (-1)]) dX12_types_32 35 rfl rfl (by decide) (by decide) rfl rfl ?_
  refine pv_goto (M := mX12_types) (tgt := 2) dX12_types_35 (by decide) ?_
  refine pv_iload_n (M := mX12_types) 2 dX12_types_2 3 rfl rfl rfl ?_
  refine pv_if_lt (M := mX12_types) (tgt := 38) dX12_types_3 6 rfl (by decide) (fun _ => ?_) (fun q => absurd (by decide) q)
  exact pv_vret (M := mX12_types) dX12_types_38 rfl ⟨rfl, rfl⟩

set_option maxHeartbeats 400000 in
set_option maxRecDepth 20000 in
theorem k_X12_types_4 (g : pv_G) {h : List pv_C} (a1 : Int32) (F129 : Nat → Int32) (e123 : h[123]? = some (pv_o 12 [.int 0, .int 0, .int 1, .int 0, .int 0, .ref 124, .ref 125, .ref 126, .ref 127, .ref 128, .ref 129, .int 12, .int 0, .int 0, .int 0, .int 0, .int 0, .int 0, .int 0, .int 0, .int 0, .ref 130, .ref 131, .ref 132, .ref 133, .ref 134, .ref 135, .ref 136, .ref 137, .ref 138, .ref 139, .ref 140, .ref 141, .ref 142, .ref 143, .ref 144, .ref 145, .ref 146, .ref 147, .ref 148, .int 0, .int 0, .ref 149, .ref 150, .ref 151, .ref 152, .ref 153, .ref 154, .ref 155, .ref 156, .int 0, .ref 157, .ref 158, .ref 159, .ref 160, .ref 161, .ref 162, .ref 163, .ref 164, .ref 165, .ref 166, .int 0, .ref 167, .ref 168])) (e129 : h[129]? = some (pv_b 200 F129)) : PM g mX12_types yX12_types (pv_is none (((((((((h.set 129 (pv_b 200 (upd F129 12 (vp_nar .byte ((a1 >>> (24 &&& 31)).toInt8.toInt32))))).set 123 (pv_o 12 [.int 0, .int 0, .int 1, .int 0, .int 0, .ref 124, .ref 125, .ref 126, .ref 127, .ref 128, .ref 129, .int 13, .int 0, .int 0, .int 0, .int 0, .int 0, .int 0, .int 0, .int 0, .int 0, .ref 130, .ref 131, .ref 132, .ref 133, .ref 134, .ref 135, .ref 136, .ref 137, .ref 138, .ref 139, .ref 140, .ref 141, .ref 142, .ref 143, .ref 144, .ref 145, .ref 146, .ref 147, .ref 148, .int 0, .int 0, .ref 149, .ref 150, .ref 151, .ref 152, .ref 153, .ref 154, .ref 155, .ref 156, .int 0, .ref 157, .ref 158, .ref 159, .ref 160, .ref 161, .ref 162, .ref 163, .ref 164, .ref 165, .ref 166, .int 0, .ref 167, .ref 168])).set 129 (pv_b 200 (upd (upd F129 12 (vp_nar .byte ((a1 >>> (24 &&& 31)).toInt8.toInt32))) 13 (vp_nar .byte ((a1 >>> (16 &&& 31)).toInt8.toInt32))))).set 123 (pv_o 12 [.int 0, .int 0, .int 1, .int 0, .int 0, .ref 124, .ref 125, .ref 126, .ref 127, .ref 128, .ref 129, .int 14, .int 0, .int 0, .int 0, .int 0, .int 0, .int 0, .int 0, .int 0, .int 0, .ref 130, .ref 131, .ref 132, .ref 133, .ref 134, .ref 135, .ref 136, .ref 137, .ref 138, .ref 139, .ref 140, .ref 141, .ref 142, .ref 143, .ref 144, .ref 145, .ref 146, .ref 147, .ref 148, .int 0, .int 0, .ref 149, .ref 150, .ref 151, .ref 152, .ref 153, .ref 154, .ref 155, .ref 156, .int 0, .ref 157, .ref 158, .ref 159, .ref 160, .ref 161, .ref 162, .ref 163, .ref 164, .ref 165, .ref 166, .int 0, .ref 167, .ref 168])).set 129 (pv_b 200 (upd (upd (upd F129 12 (vp_nar .byte ((a1 >>> (24 &&& 31)).toInt8.toInt32))) 13 (vp_nar .byte ((a1 >>> (16 &&& 31)).toInt8.toInt32))) 14 (vp_nar .byte ((a1 >>> (8 &&& 31)).toInt8.toInt32))))).set 123 (pv_o 12 [.int 0, .int 0, .int 1, .int 0, .int 0, .ref 124, .ref 125, .ref 126, .ref 127, .ref 128, .ref 129, .int 15, .int 0, .int 0, .int 0, .int 0, .int 0, .int 0, .int 0, .int 0, .int 0, .ref 130, .ref 131, .ref 132, .ref 133, .ref 134, .ref 135, .ref 136, .ref 137, .ref 138, .ref 139, .ref 140, .ref 141, .ref 142, .ref 143, .ref 144, .ref 145, .ref 146, .ref 147, .ref 148, .int 0, .int 0, .ref 149, .ref 150, .ref 151, .ref 152, .ref 153, .ref 154, .ref 155, .ref 156, .int 0, .ref 157, .ref 158, .ref 159, .ref 160, .ref 161, .ref 162, .ref 163, .ref 164, .ref 165, .ref 166, .int 0, .ref 167, .ref 168])).set 129 (pv_b 200 (upd (upd (upd (upd F129 12 (vp_nar .byte ((a1 >>> (24 &&& 31)).toInt8.toInt32))) 13 (vp_nar .byte ((a1 >>> (16 &&& 31)).toInt8.toInt32))) 14 (vp_nar .byte ((a1 >>> (8 &&& 31)).toInt8.toInt32))) 15 (vp_nar .byte ((a1 >>> (0 &&& 31)).toInt8.toInt32))))).set 123 (pv_o 12 [.int 0, .int 0, .int 1, .int 0, .int 0, .ref 124, .ref 125, .ref 126, .ref 127, .ref 128, .ref 129, .int 16, .int 0, .int 0, .int 0, .int 0, .int 0, .int 0, .int 0, .int 0, .int 0, .ref 130, .ref 131, .ref 132, .ref 133, .ref 134, .ref 135, .ref 136, .ref 137, .ref 138, .ref 139, .ref 140, .ref 141, .ref 142, .ref 143, .ref 144, .ref 145, .ref 146, .ref 147, .ref 148, .int 0, .int 0, .ref 149, .ref 150, .ref 151, .ref 152, .ref 153, .ref 154, .ref 155, .ref 156, .int 0, .ref 157, .ref 158, .ref 159, .ref 160, .ref 161, .ref 162, .ref 163, .ref 164, .ref 165, .ref 166, .int 0, .ref 167, .ref 168])))) 1 0 0 [.ref 123, .int a1] h := by
  refine PM.of 1 (lo := [.ref 123, .int a1, pv_U]) rfl (by decide) rfl rfl (Nat.le_of_ble_eq_true rfl) ?_
  refine pv_iconst (M := mX12_types) (v := 3) dX12_types_0 1 rfl (by decide) ?_
  refine pv_istore_n (M := mX12_types) 2 (lo2 := [.ref 123, .int a1, .int 3]) dX12_types_1 2 rfl rfl (by decide) rfl rfl ?_
  refine pv_iload_n (M := mX12_types) 2 dX12_types_2 3 rfl rfl rfl ?_
  refine pv_if_lt (M := mX12_types) (tgt := 38) dX12_types_3 6 rfl (by decide) (fun q => absurd q (by decide)) (fun _ => ?_)
  refine pv_aload_n (M := mX12_types) 0 dX12_types_6 7 rfl rfl rfl ?_
  refine pv_get (M := mX12_types) dX12_types_7 FX12 10 wd1183 (by decide) e123 rfl 10 rfl ?_
  refine pv_aload_n (M := mX12_types) 0 dX12_types_10 11 rfl rfl rfl ?_
  refine pv_get (M := mX12_types) dX12_types_11 FX12 11 wd1184 (by decide) e123 rfl 14 rfl ?_
  refine pv_iload_n (M := mX12_types) 1 dX12_types_14 15 rfl rfl rfl ?_
  refine pv_bipush (M := mX12_types) (v := 8) dX12_types_15 17 rfl (by decide) ?_
  refine pv_iload_n (M := mX12_types) 2 dX12_types_17 18 rfl rfl rfl ?_
  refine pv_imul (M := mX12_types) (v := 24) dX12_types_18 19 rfl (by decide) ?_
  refine pv_ishr (M := mX12_types) (v := a1 >>> (24 &&& 31)) dX12_types_19 20 rfl rfl ?_
  refine pv_i2b (M := mX12_types) (v := (a1 >>> (24 &&& 31)).toInt8.toInt32) dX12_types_20 21 rfl rfl ?_
  refine pv_bast (M := mX12_types) dX12_types_21 e129 (pv_in0 (by decide)) (j := 12) (by decide) rfl 22 rfl ?_
  refine pv_aload_n (M := mX12_types) 0 dX12_types_22 23 rfl rfl rfl ?_
  refine pv_aload_n (M := mX12_types) 0 dX12_types_23 24 rfl rfl rfl ?_
  refine pv_get (M := mX12_types) dX12_types_24 FX12 11 wd1184 (by decide) (pv_sn (by decide) e123) rfl 27 rfl ?_
  refine pv_iconst (M := mX12_types) (v := 1) dX12_types_27 28 rfl (by decide) ?_
  refine pv_iadd (M := mX12_types) (v := 13) dX12_types_28 29 rfl (by decide) ?_
  refine pv_put (M := mX12_types) (fs2 := [.int 0, .int 0, .int 1, .int 0, .int 0, .ref 124, .ref 125, .ref 126, .ref 127, .ref 128, .ref 129, .int 13, .int 0, .int 0, .int 0, .int 0, .int 0, .int 0, .int 0, .int 0, .int 0, .ref 130, .ref 131, .ref 132, .ref 133, .ref 134, .ref 135, .ref 136, .ref 137, .ref 138, .ref 139, .ref 140, .ref 141, .ref 142, .ref 143, .ref 144, .ref 145, .ref 146, .ref 147, .ref 148, .int 0, .int 0, .ref 149, .ref 150, .ref 151, .ref 152, .ref 153, .ref 154, .ref 155, .ref 156, .int 0, .ref 157, .ref 158, .ref 159, .ref 160, .ref 161, .ref 162, .ref 163, .ref 164, .ref 165, .ref 166, .int 0, .ref 167, .ref 168]) dX12_types_29 FX12 11 wd1184 (by decide) rfl (pv_sn (by decide) e123) (Nat.le_of_ble_eq_true rfl) (fun _ => rfl) (fun _ => rfl) rfl rfl 32 rfl ?_
  refine pv_iinc (M := mX12_types) (v := 2) (lo2 := [.ref 123, .int a1, .int 2]) dX12_types_32 35 rfl rfl (by decide) (by decide) rfl rfl ?_
  refine pv_goto (M := mX12_types) (tgt := 2) dX12_types_35 (by decide) ?_
  refine pv_iload_n (M := mX12_types) 2 dX12_types_2 3 rfl rfl rfl ?_
  refine pv_if_lt (M := mX12_types) (tgt := 38) dX12_types_3 6 rfl (by decide) (fun q => absurd q (by decide)) (fun _ => ?_)
  refine pv_aload_n (M := mX12_types) 0 dX12_types_6 7 rfl rfl rfl ?_
  refine pv_get (M := mX12_types) dX12_types_7 FX12 10 wd1183 (by decide) (pv_se (pv_sn (by decide) e123)) rfl 10 rfl ?_
  refine pv_aload_n (M := mX12_types) 0 dX12_types_10 11 rfl rfl rfl ?_
  refine pv_get (M := mX12_types) dX12_types_11 FX12 11 wd1184 (by decide) (pv_se (pv_sn (by decide) e123)) rfl 14 rfl ?_
  refine pv_iload_n (M := mX12_types) 1 dX12_types_14 15 rfl rfl rfl ?_
  refine pv_bipush (M := mX12_types) (v := 8) dX12_types_15 17 rfl (by decide) ?_
  refine pv_iload_n (M := mX12_types) 2 dX12_types_17 18 rfl rfl rfl ?_
  refine pv_imul (M := mX12_types) (v := 16) dX12_types_18 19 rfl (by decide) ?_
  refine pv_ishr (M := mX12_types) (v := a1 >>> (16 &&& 31)) dX12_types_19 20 rfl rfl ?_
  refine pv_i2b (M := mX12_types) (v := (a1 >>> (16 &&& 31)).toInt8.toInt32) dX12_types_20 21 rfl rfl ?_
  refine pv_bast (M := mX12_types) dX12_types_21 (pv_sn (by decide) (pv_se e129)) (pv_in0 (by decide)) (j := 13) (by decide) rfl 22 rfl ?_
  refine pv_aload_n (M := mX12_types) 0 dX12_types_22 23 rfl rfl rfl ?_
  refine pv_aload_n (M := mX12_types) 0 dX12_types_23 24 rfl rfl rfl ?_
  refine pv_get (M := mX12_types) dX12_types_24 FX12 11 wd1184 (by decide) (pv_sn (by decide) (pv_se (pv_sn (by decide) e123))) rfl 27 rfl ?_
  refine pv_iconst (M := mX12_types) (v := 1) dX12_types_27 28 rfl (by decide) ?_
  refine pv_iadd (M := mX12_types) (v := 14) dX12_types_28 29 rfl (by decide) ?_
  refine pv_put (M := mX12_types) (fs2 := [.int 0, .int 0, .int 1, .int 0, .int 0, .ref 124, .ref 125, .ref 126, .ref 127, .ref 128, .ref 129, .int 14, .int 0, .int 0, .int 0, .int 0, .int 0, .int 0, .int 0, .int 0, .int 0, .ref 130, .ref 131, .ref 132, .ref 133, .ref 134, .ref 135, .ref 136, .ref 137, .ref 138, .ref 139, .ref 140, .ref 141, .ref 142, .ref 143, .ref 144, .ref 145, .ref 146, .ref 147, .ref 148, .int 0, .int 0, .ref 149, .ref 150, .ref 151, .ref 152, .ref 153, .ref 154, .ref 155, .ref 156, .int 0, .ref 157, .ref 158, .ref 159, .ref 160, .ref 161, .ref 162, .ref 163, .ref 164, .ref 165, .ref 166, .int 0, .ref 167, .ref 168]) dX12_types_29 FX12 11 wd1184 (by decide) rfl (pv_sn (by decide) (pv_se (pv_sn (by decide) e123))) (Nat.le_of_ble_eq_true rfl) (fun _ => rfl) (fun _ => rfl) rfl rfl 32 rfl ?_
  refine pv_iinc (M := mX12_types) (v := 1) (lo2 := [.ref 123, .int a1, .int 1]) dX12_types_32 35 rfl rfl (by decide) (by decide) rfl rfl ?_
  refine pv_goto (M := mX12_types) (tgt := 2) dX12_types_35 (by decide) ?_
  refine pv_iload_n (M := mX12_types) 2 dX12_types_2 3 rfl rfl rfl ?_
  refine pv_if_lt (M := mX12_types) (tgt := 38) dX12_types_3 6 rfl (by decide) (fun q => absurd q (by decide)) (fun _ => ?_)
  refine pv_aload_n (M := mX12_types) 0 dX12_types_6 7 rfl rfl rfl ?_
  refine pv_get (M := mX12_types) dX12_types_7 FX12 10 wd1183 (by decide) (pv_se (pv_sn (by decide) (pv_se (pv_sn (by decide) e123)))) rfl 10 rfl ?_
  refine pv_aload_n (M := mX12_types) 0 dX12_types_10 11 rfl rfl rfl ?_
  refine pv_get (M := mX12_types) dX12_types_11 FX12 11 wd1184 (by decide) (pv_se (pv_sn (by decide) (pv_se (pv_sn (by decide) e123)))) rfl 14 rfl ?_
  refine pv_iload_n (M := mX12_types) 1 dX12_types_14 15 rfl rfl rfl ?_
  refine pv_bipush (M := mX12_types) (v := 8) dX12_types_15 17 rfl (by decide) ?_
  refine pv_iload_n (M := mX12_types) 2 dX12_types_17 18 rfl rfl rfl ?_
  refine pv_imul (M := mX12_types) (v := 8) dX12_types_18 19 rfl (by decide) ?_
  refine pv_ishr (M := mX12_types) (v := a1 >>> (8 &&& 31)) dX12_types_19 20 rfl rfl ?_
  refine pv_i2b (M := mX12_types) (v := (a1 >>> (8 &&& 31)).toInt8.toInt32) dX12_types_20 21 rfl rfl ?_
  refine pv_bast (M := mX12_types) dX12_types_21 (pv_sn (by decide) (pv_se (pv_sn (by decide) (pv_se e129)))) (pv_in0 (by decide)) (j := 14) (by decide) rfl 22 rfl ?_
  refine pv_aload_n (M := mX12_types) 0 dX12_types_22 23 rfl rfl rfl ?_
  refine pv_aload_n (M := mX12_types) 0 dX12_types_23 24 rfl rfl rfl ?_
  refine pv_get (M := mX12_types) dX12_types_24 FX12 11 wd1184 (by decide) (pv_sn (by decide) (pv_se (pv_sn (by decide) (pv_se (pv_sn (by decide) e123))))) rfl 27 rfl ?_
  refine pv_iconst (M := mX12_types) (v := 1) dX12_types_27 28 rfl (by decide) ?_
  refine pv_iadd (M := mX12_types) (v := 15) dX12_types_28 29 rfl (by decide) ?_
  refine pv_put (M := mX12_types) (fs2 := [.int 0, .int 0, .int 1, .int 0, .int 0, .ref 124, .ref 125, .ref 126, .ref 127, .ref 128, .ref 129, .int 15, .int 0, .int 0, .int 0, .int 0, .int 0, .int 0, .int 0, .int 0, .int 0, .ref 130, .ref 131, .ref 132, .ref 133, .ref 134, .ref 135, .ref 136, .ref 137, .ref 138, .ref 139, .ref 140, .ref 141, .ref 142, .ref 143, .ref 144, .ref 145, .ref 146, .ref 147, .ref 148, .int 0, .int 0, .ref 149, .ref 150, .ref 151, .ref 152, .ref 153, .ref 154, .ref 155, .ref 156, .int 0, .ref 157, .ref 158, .ref 159, .ref 160, .ref 161, .ref 162, .ref 163, .ref 164, .ref 165, .ref 166, .int 0, .ref 167, .ref 168]) dX12_types_29 FX12 11 wd1184 (by decide) rfl (pv_sn (by decide) (pv_se (pv_sn (by decide) (pv_se (pv_sn (by decide) e123))))) (Nat.le_of_ble_eq_true rfl) (fun _ => rfl) (fun _ => rfl) rfl rfl 32 rfl ?_
  refine pv_iinc (M := mX12_types) (v := 0) (lo2 := [.ref 123, .int a1, .int 0]) dX12_types_32 35 rfl rfl (by decide) (by decide) rfl rfl ?_
  refine pv_goto (M := mX12_types) (tgt := 2) dX12_types_35 (by decide) ?_
  refine pv_iload_n (M := mX12_types) 2 dX12_types_2 3 rfl rfl rfl ?_
  refine pv_if_lt (M := mX12_types) (tgt := 38) dX12_types_3 6 rfl (by decide) (fun q => absurd q (by decide)) (fun _ => ?_)
  refine pv_aload_n (M := mX12_types) 0 dX12_types_6 7 rfl rfl rfl ?_
  refine pv_get (M := mX12_types) dX12_types_7 FX12 10 wd1183 (by decide) (pv_se (pv_sn (by decide) (pv_se (pv_sn (by decide) (pv_se (pv_sn (by decide) e123)))))) rfl 10 rfl ?_
  refine pv_aload_n (M := mX12_types) 0 dX12_types_10 11 rfl rfl rfl ?_
  refine pv_get (M := mX12_types) dX12_types_11 FX12 11 wd1184 (by decide) (pv_se (pv_sn (by decide) (pv_se (pv_sn (by decide) (pv_se (pv_sn (by decide) e123)))))) rfl 14 rfl ?_
  refine pv_iload_n (M := mX12_types) 1 dX12_types_14 15 rfl rfl rfl ?_
  refine pv_bipush (M := mX12_types) (v := 8) dX12_types_15 17 rfl (by decide) ?_
  refine pv_iload_n (M := mX12_types) 2 dX12_types_17 18 rfl rfl rfl ?_
  refine pv_imul (M := mX12_types) (v := 0) dX12_types_18 19 rfl (by decide) ?_
  refine pv_ishr (M := mX12_types) (v := a1 >>> (0 &&& 31)) dX12_types_19 20 rfl rfl ?_
  refine pv_i2b (M := mX12_types) (v := (a1 >>> (0 &&& 31)).toInt8.toInt32) dX12_types_20 21 rfl rfl ?_
  refine pv_bast (M := mX12_types) dX12_types_21 (pv_sn (by decide) (pv_se (pv_sn (by decide) (pv_se (pv_sn (by decide) (pv_se e129)))))) (pv_in0 (by decide)) (j := 15) (by decide) rfl 22 rfl ?_
  refine pv_aload_n (M := mX12_types) 0 dX12_types_22 23 rfl rfl rfl ?_
  refine pv_aload_n (M := mX12_types) 0 dX12_types_23 24 rfl rfl rfl ?_
  refine pv_get (M := mX12_types) dX12_types_24 FX12 11 wd1184 (by decide) (pv_sn (by decide) (pv_se (pv_sn (by decide) (pv_se (pv_sn (by decide) (pv_se (pv_sn (by decide) e123))))))) rfl 27 rfl ?_
  refine pv_iconst (M := mX12_types) (v := 1) dX12_types_27 28 rfl (by decide) ?_
  refine pv_iadd (M := mX12_types) (v := 16) dX12_types_28 29 rfl (by decide) ?_
  refine pv_put (M := mX12_types) (fs2 := [.int 0, .int 0, .int 1, .int 0, .int 0, .ref 124, .ref 125, .ref 126, .ref 127, .ref 128, .ref 129, .int 16, .int 0, .int 0, .int 0, .int 0, .int 0, .int 0, .int 0, .int 0, .int 0, .ref 130, .ref 131, .ref 132, .ref 133, .ref 134, .ref 135, .ref 136, .ref 137, .ref 138, .ref 139, .ref 140, .ref 141, .ref 142, .ref 143, .ref 144, .ref 145, .ref 146, .ref 147, .ref 148, .int 0, .int 0, .ref 149, .ref 150, .ref 151, .ref 152, .ref 153, .ref 154, .ref 155, .ref 156, .int 0, .ref 157, .ref 158, .ref 159, .ref 160, .ref 161, .ref 162, .ref 163, .ref 164, .ref 165, .ref 166, .int 0, .ref 167, .ref 168]) dX12_types_29 FX12 11 wd1184 (by decide) rfl (pv_sn (by decide) (pv_se (pv_sn (by decide) (pv_se (pv_sn (by decide) (pv_se (pv_sn (by decide) e123))))))) (Nat.le_of_ble_eq_true rfl) (fun _ => rfl) (fun _ => rfl) rfl rfl 32 rfl ?_
  refine pv_iinc (M := mX12_types) (v := (-1)) (lo2 := [.ref 123, .int a1, .int (-1)]) dX12_types_32 35 rfl rfl (by decide) (by decide) rfl rfl ?_
  refine pv_goto (M := mX12_types) (tgt := 2) dX12_types_35 (by decide) ?_
  refine pv_iload_n (M := mX12_types) 2 dX12_types_2 3 rfl rfl rfl ?_
  refine pv_if_lt (M := mX12_types) (tgt := 38) dX12_types_3 6 rfl (by decide) (fun _ => ?_) (fun q => absurd (by decide) q)
  exact pv_vret (M := mX12_types) dX12_types_38 rfl ⟨rfl, rfl⟩

set_option maxHeartbeats 400000 in
set_option maxRecDepth 20000 in
theorem k_X12_types_5 (g : pv_G) {h : List pv_C} (a1 : Int32) (F129 : Nat → Int32) (e123 : h[123]? = some (pv_o 12 [.int 0, .int 0, .int 1, .int 0, .int 0, .ref 124, .ref 125, .ref 126, .ref 127, .ref 128, .ref 129, .int 16, .int 0, .int 0, .int 0, .int 0, .int 0, .int 0, .int 0, .int 0, .int 0, .ref 130, .ref 131, .ref 132, .ref 133, .ref 134, .ref 135, .ref 136, .ref 137, .ref 138, .ref 139, .ref 140, .ref 141, .ref 142, .ref 143, .ref 144, .ref 145, .ref 146, .ref 147, .ref 148, .int 0, .int 0, .ref 149, .ref 150, .ref 151, .ref 152, .ref 153, .ref 154, .ref 155, .ref 156, .int 0, .ref 157, .ref 158, .ref 159, .ref 160, .ref 161, .ref 162, .ref 163, .ref 164, .ref 165, .ref 166, .int 0, .ref 167, .ref 168])) (e129 : h[129]? = some (pv_b 200 F129)) : PM g mX12_types yX12_types (pv_is none (((((((((h.set 129 (pv_b 200 (upd F129 16 (vp_nar .byte ((a1 >>> (24 &&& 31)).toInt8.toInt32))))).set 123 (pv_o 12 [.int 0, .int 0, .int 1, .int 0, .int 0, .ref 124, .ref 125, .ref 126, .ref 127, .ref 128, .ref 129, .int 17, .int 0, .int 0, .int 0, .int 0, .int 0, .int 0, .int 0, .int 0, .int 0, .ref 130, .ref 131, .ref 132, .ref 133, .ref 134, .ref 135, .ref 136, .ref 137, .ref 138, .ref 139, .ref 140, .ref 141, .ref 142, .ref 143, .ref 144, .ref 145, .ref 146, .ref 147, .ref 148, .int 0, .int 0, .ref 149, .ref 150, .ref 151, .ref 152, .ref 153, .ref 154, .ref 155, .ref 156, .int 0, .ref 157, .ref 158, .ref 159, .ref 160, .ref 161, .ref 162, .ref 163, .ref 164, .ref 165, .ref 166, .int 0, .ref 167, .ref 168])).set 129 (pv_b 200 (upd (upd F129 16 (vp_nar .byte ((a1 >>> (24 &&& 31)).toInt8.toInt32))) 17 (vp_nar .byte ((a1 >>> (16 &&& 31)).toInt8.toInt32))))).set 123 (pv_o 12 [.int 0, .int 0, .int 1, .int 0, .int 0, .ref 124, .ref 125, .ref 126, .ref 127, .ref 128, .ref 129, .int 18, .int 0, .int 0, .int 0, .int 0, .int 0, .int 0, .int 0, .int 0, .int 0, .ref 130, .ref 131, .ref 132, .ref 133, .ref 134, .ref 135, .ref 136, .ref 137, .ref 138, .ref 139, .ref 140, .ref 141, .ref 142, .ref 143, .ref 144, .ref 145, .ref 146, .ref 147, .ref 148, .int 0, .int 0, .ref 149, .ref 150, .ref 151, .ref 152, .ref 153, .ref 154, .ref 155, .ref 156, .int 0, .ref 157, .ref 158, .ref 159, .ref 160, .ref 161, .ref 162, .ref 163, .ref 164, .ref 165, .ref 166, .int 0, .ref 167, .ref 168])).set 129 (pv_b 200 (upd (upd (upd F129 16 (vp_nar .byte ((a1 >>> (24 &&& 31)).toInt8.toInt32))) 17 (vp_nar .byte ((a1 >>> (16 &&& 31)).toInt8.toInt32))) 18 (vp_nar .byte ((a1 >>> (8 &&& 31)).toInt8.toInt32))))).set 123 (pv_o 12 [.int 0, .int 0, .int 1, .int 0, .int 0, .ref 124, .ref 125, .ref 126, .ref 127, .ref 128, .ref 129, .int 19, .int 0, .int 0, .int 0, .int 0, .int 0, .int 0, .int 0, .int 0, .int 0, .ref 130, .ref 131, .ref 132, .ref 133, .ref 134, .ref 135, .ref 136, .ref 137, .ref 138, .ref 139, .ref 140, .ref 141, .ref 142, .ref 143, .ref 144, .ref 145, .ref 146, .ref 147, .ref 148, .int 0, .int 0, .ref 149, .ref 150, .ref 151, .ref 152, .ref 153, .ref 154, .ref 155, .ref 156, .int 0, .ref 157, .ref 158, .ref 159, .ref 160, .ref 161, .ref 162, .ref 163, .ref 164, .ref 165, .ref 166, .int 0, .ref 167, .ref 168])).set 129 (pv_b 200 (upd (upd (upd (upd F129 16 (vp_nar .byte ((a1 >>> (24 &&& 31)).toInt8.toInt32))) 17 (vp_nar .byte ((a1 >>> (16 &&& 31)).toInt8.toInt32))) 18 (vp_nar .byte ((a1 >>> (8 &&& 31)).toInt8.toInt32))) 19 (vp_nar .byte ((a1 >>> (0 &&& 31)).toInt8.toInt32))))).set 123 (pv_o 12 [.int 0, .int 0, .int 1, .int 0, .int 0, .ref 124, .ref 125, .ref 126, .ref 127, .ref 128, .ref 129, .int 20, .int 0, .int 0, .int 0, .int 0, .int 0, .int 0, .int 0, .int 0, .int 0, .ref 130, .ref 131, .ref 132, .ref 133, .ref 134, .ref 135, .ref 136, .ref 137, .ref 138, .ref 139, .ref 140, .ref 141, .ref 142, .ref 143, .ref 144, .ref 145, .ref 146, .ref 147, .ref 148, .int 0, .int 0, .ref 149, .ref 150, .ref 151, .ref 152, .ref 153, .ref 154, .ref 155, .ref 156, .int 0, .ref 157, .ref 158, .ref 159, .ref 160, .ref 161, .ref 162, .ref 163, .ref 164, .ref 165, .ref 166, .int 0, .ref 167, .ref 168])))) 1 0 0 [.ref 123, .int a1] h := by
  refine PM.of 1 (lo := [.ref 123, .int a1, pv_U]) rfl (by decide) rfl rfl (Nat.le_of_ble_eq_true rfl) ?_
  refine pv_iconst (M := mX12_types) (v := 3) dX12_types_0 1 rfl (by decide) ?_
  refine pv_istore_n (M := mX12_types) 2 (lo2 := [.ref 123, .int a1, .int 3]) dX12_types_1 2 rfl rfl (by decide) rfl rfl ?_
  refine pv_iload_n (M := mX12_types) 2 dX12_types_2 3 rfl rfl rfl ?_
  refine pv_if_lt (M := mX12_types) (tgt := 38) dX12_types_3 6 rfl (by decide) (fun q => absurd q (by decide)) (fun _ => ?_)
  refine pv_aload_n (M := mX12_types) 0 dX12_types_6 7 rfl rfl rfl ?_
  refine pv_get (M := mX12_types) dX12_types_7 FX12 10 wd1183 (by decide) e123 rfl 10 rfl ?_
  refine pv_aload_n (M := mX12_types) 0 dX12_types_10 11 rfl rfl rfl ?_
  refine pv_get (M := mX12_types) dX12_types_11 FX12 11 wd1184 (by decide) e123 rfl 14 rfl ?_
  refine pv_iload_n (M := mX12_types) 1 dX12_types_14 15 rfl rfl rfl ?_
  refine pv_bipush (M := mX12_types) (v := 8) dX12_types_15 17 rfl (by decide) ?_
  refine pv_iload_n (M := mX12_types) 2 dX12_types_17 18 rfl rfl rfl ?_
  refine pv_imul (M := mX12_types) (v := 24) dX12_types_18 19 rfl (by decide) ?_
  refine pv_ishr (M := mX12_types) (v := a1 >>> (24 &&& 31)) dX12_types_19 20 rfl rfl ?_
  refine pv_i2b (M := mX12_types) (v := (a1 >>> (24 &&& 31)).toInt8.toInt32) dX12_types_20 21 rfl rfl ?_
  refine pv_bast (M := mX12_types) dX12_types_21 e129 (pv_in0 (by decide)) (j := 16) (by decide) rfl 22 rfl ?_
  refine pv_aload_n (M := mX12_types) 0 dX12_types_22 23 rfl rfl rfl ?_
  refine pv_aload_n (M := mX12_types) 0 dX12_types_23 24 rfl rfl rfl ?_
  refine pv_get (M := mX12_types) dX12_types_24 FX12 11 wd1184 (by decide) (pv_sn (by decide) e123) rfl 27 rfl ?_
  refine pv_iconst (M := mX12_types) (v := 1) dX12_types_27 28 rfl (by decide) ?_
  refine pv_iadd (M := mX12_types) (v := 17) dX12_types_28 29 rfl (by decide) ?_
  refine pv_put (M := mX12_types) (fs2 := [.int 0, .int 0, .int 1, .int 0, .int 0, .ref 124, .ref 125, .ref 126, .ref 127, .ref 128, .ref 129, .int 17, .int 0, .int 0, .int 0, .int 0, .int 0, .int 0, .int 0, .int 0, .int 0, .ref 130, .ref 131, .ref 132, .ref 133, .ref 134, .ref 135, .ref 136, .ref 137, .ref 138, .ref 139, .ref 140, .ref 141, .ref 142, .ref 143, .ref 144, .ref 145, .ref 146, .ref 147, .ref 148, .int 0, .int 0, .ref 149, .ref 150, .ref 151, .ref 152, .ref 153, .ref 154, .ref 155, .ref 156, .int 0, .ref 157, .ref 158, .ref 159, .ref 160, .ref 161, .ref 162, .ref 163, .ref 164, .ref 165, .ref 166, .int 0, .ref 167, .ref 168]) dX12_types_29 FX12 11 wd1184 (by decide) rfl (pv_sn (by decide) e123) (Nat.le_of_ble_eq_true rfl) (fun _ => rfl) (fun _ => rfl) rfl rfl 32 rfl ?_
  refine pv_iinc (M := mX12_types) (v := 2) (lo2 := [.ref 123, .int a1, .int 2]) dX12_types_32 35 rfl rfl (by decide) (by decide) rfl rfl ?_
  refine pv_goto (M := mX12_types) (tgt := 2) dX12_types_35 (by decide) ?_
  refine pv_iload_n (M := mX12_types) 2 dX12_types_2 3 rfl rfl rfl ?_
  refine pv_if_lt (M := mX12_types) (tgt := 38) dX12_types_3 6 rfl (by decide) (fun q => absurd q (by decide)) (fun _ => ?_)
  refine pv_aload_n (M := mX12_types) 0 dX12_types_6 7 rfl rfl rfl ?_
  refine pv_get (M := mX12_types) dX12_types_7 FX12 10 wd1183 (by decide) (pv_se (pv_sn (by decide) e123)) rfl 10 rfl ?_
  refine pv_aload_n (M := mX12_types) 0 dX12_types_10 11 rfl rfl rfl ?_
  refine pv_get (M := mX12_types) dX12_types_11 FX12 11 wd1184 (by decide) (pv_se (pv_sn (by decide) e123)) rfl 14 rfl ?_
  refine pv_iload_n (M := mX12_types) 1 dX12_types_14 15 rfl rfl rfl ?_
  refine pv_bipush (M := mX12_types) (v := 8) dX12_types_15 17 rfl (by decide) ?_
  refine pv_iload_n (M := mX12_types) 2 dX12_types_17 18 rfl rfl rfl ?_
  refine pv_imul (M := mX12_types) (v := 16) dX12_types_18 19 rfl (by decide) ?_
  refine pv_ishr (M := mX12_types) (v := a1 >>> (16 &&& 31)) dX12_types_19 20 rfl rfl ?_
  refine pv_i2b (M := mX12_types) (v := (a1 >>> (16 &&& 31)).toInt8.toInt32) dX12_types_20 21 rfl rfl ?_
  refine pv_bast (M := mX12_types) dX12_types_21 (pv_sn (by decide) (pv_se e129)) (pv_in0 (by decide)) (j := 17) (by decide) rfl 22 rfl ?_
  refine pv_aload_n (M := mX12_types) 0 dX12_types_22 23 rfl rfl rfl ?_
  refine pv_aload_n (M := mX12_types) 0 dX12_types_23 24 rfl rfl rfl ?_
  refine pv_get (M := mX12_types) dX12_types_24 FX12 11 wd1184 (by decide) (pv_sn (by decide) (pv_se (pv_sn (by decide) e123))) rfl 27 rfl ?_
  refine pv_iconst (M := mX12_types) (v := 1) dX12_types_27 28 rfl (by decide) ?_
  refine pv_iadd (M := mX12_types) (v := 18) dX12_types_28 29 rfl (by decide) ?_
  refine pv_put (M := mX12_types) (fs2 := [.int 0, .int 0, .int 1, .int 0, .int 0, .ref 124, .ref 125, .ref 126, .ref 127, .ref 128, .ref 129, .int 18, .int 0, .int 0, .int 0, .int 0, .int 0, .int 0, .int 0, .int 0, .int 0, .ref 130, .ref 131, .ref 132, .ref 133, .ref 134, .ref 135, .ref 136, .ref 137, .ref 138, .ref 139, .ref 140, .ref 141, .ref 142, .ref 143, .ref 144, .ref 145, .ref 146, .ref 147, .ref 148, .int 0, .int 0, .ref 149, .ref 150, .ref 151, .ref 152, .ref 153, .ref 154, .ref 155, .ref 156, .int 0, .ref 157, .ref 158, .ref 159, .ref 160, .ref 161, .ref 162, .ref 163, .ref 164, .ref 165, .ref 166, .int 0, .ref 167, .ref 168]) dX12_types_29 FX12 11 wd1184 (by decide) rfl (pv_sn (by decide) (pv_se (pv_sn (by decide) e123))) (Nat.le_of_ble_eq_true rfl) (fun _ => rfl) (fun _ => rfl) rfl rfl 32 rfl ?_
  refine pv_iinc (M := mX12_types) (v := 1) (lo2 := [.ref 123, .int a1, .int 1]) dX12_types_32 35 rfl rfl (by decide) (by decide) rfl rfl ?_
  refine pv_goto (M := mX12_types) (tgt := 2) dX12_types_35 (by decide) ?_
  refine pv_iload_n (M := mX12_types) 2 dX12_types_2 3 rfl rfl rfl ?_
  refine pv_if_lt (M := mX12_types) (tgt := 38) dX12_types_3 6 rfl (by decide) (fun q => absurd q (by decide)) (fun _ => ?_)
  refine pv_aload_n (M := mX12_types) 0 dX12_types_6 7 rfl rfl rfl ?_
  refine pv_get (M := mX12_types) dX12_types_7 FX12 10 wd1183 (by decide) (pv_se (pv_sn (by decide) (pv_se (pv_sn (by decide) e123)))) rfl 10 rfl ?_
  refine pv_aload_n (M := mX12_types) 0 dX12_types_10 11 rfl rfl rfl ?_
  refine pv_get (M := mX12_types) dX12_types_11 FX12 11 wd1184 (by decide) (pv_se (pv_sn (by decide) (pv_se (pv_sn (by decide) e123)))) rfl 14 rfl ?_
  refine pv_iload_n (M := mX12_types) 1 dX12_types_14 15 rfl rfl rfl ?_
  refine pv_bipush (M := mX12_types) (v := 8) dX12_types_15 17 rfl (by decide) ?_
  refine pv_iload_n (M := mX12_types) 2 dX12_types_17 18 rfl rfl rfl ?_
  refine pv_imul (M := mX12_types) (v := 8) dX12_types_18 19 rfl (by decide) ?_
  refine pv_ishr (M := mX12_types) (v := a1 >>> (8 &&& 31)) dX12_types_19 20 rfl rfl ?_
  refine pv_i2b (M := mX12_types) (v := (a1 >>> (8 &&& 31)).toInt8.toInt32) dX12_types_20 21 rfl rfl ?_
  refine pv_bast (M := mX12_types) dX12_types_21 (pv_sn (by decide) (pv_se (pv_sn (by decide) (pv_se e129)))) (pv_in0 (by decide)) (j := 18) (by decide) rfl 22 rfl ?_
  refine pv_aload_n (M := mX12_types) 0 dX12_types_22 23 rfl rfl rfl ?_
  refine pv_aload_n (M := mX12_types) 0 dX12_types_23 24 rfl rfl rfl ?_
  refine pv_get (M := mX12_types) dX12_types_24 FX12 11 wd1184 (by decide) (pv_sn (by decide) (pv_se (pv_sn (by decide) (pv_se (pv_sn (by decide) e123))))) rfl 27 rfl ?_
  refine pv_iconst (M := mX12_types) (v := 1) dX12_types_27 28 rfl (by decide) ?_
  refine pv_iadd (M := mX12_types) (v := 19) dX12_types_28 29 rfl (by decide) ?_
  refine pv_put (M := mX12_types) (fs2 := [.int 0, .int 0, .int 1, .int 0, .int 0, .ref 124, .ref 125, .ref 126, .ref 127, .ref 128, .ref 129, .int 19, .int 0, .int 0, .int 0, .int 0, .int 0, .int 0, .int 0, .int 0, .int 0, .ref 130, .ref 131, .ref 132, .ref 133, .ref 134, .ref 135, .ref 136, .ref 137, .ref 138, .ref 139, .ref 140, .ref 141, .ref 142, .ref 143, .ref 144, .ref 145, .ref 146, .ref 147, .ref 148, .int 0, .int 0, .ref 149, .ref 150, .ref 151, .ref 152, .ref 153, .ref 154, .ref 155, .ref 156, .int 0, .ref 157, .ref 158, .ref 159, .ref 160, .ref 161, .ref 162, .ref 163, .ref 164, .ref 165, .ref 166, .int 0, .ref 167, .ref 168]) dX12_types_29 FX12 11 wd1184 (by decide) rfl (pv_sn (by decide) (pv_se (pv_sn (by decide) (pv_se (pv_sn (by decide) e123))))) (Nat.le_of_ble_eq_true rfl) (fun _ => rfl) (fun _ => rfl) rfl rfl 32 rfl ?_
  refine pv_iinc (M := mX12_types) (v := 0) (lo2 := [.ref 123, .int a1, .int 0]) dX12_types_32 35 rfl rfl (by decide) (by decide) rfl rfl ?_
  refine pv_goto (M := mX12_types) (tgt := 2) dX12_types_35 (by decide) ?_
  refine pv_iload_n (M := mX12_types) 2 dX12_types_2 3 rfl rfl rfl ?_
  refine pv_if_lt (M := mX12_types) (tgt := 38) dX12_types_3 6 rfl (by decide) (fun q => absurd q (by decide)) (fun _ => ?_)
  refine pv_aload_n (M := mX12_types) 0 dX12_types_6 7 rfl rfl rfl ?_
  refine pv_get (M := mX12_types) dX12_types_7 FX12 10 wd1183 (by decide) (pv_se (pv_sn (by decide) (pv_se (pv_sn (by decide) (pv_se (pv_sn (by decide) e123)))))) rfl 10 rfl ?_
  refine pv_aload_n (M := mX12_types) 0 dX12_types_10 11 rfl rfl rfl ?_
  refine pv_get (M := mX12_types) dX12_types_11 FX12 11 wd1184 (by decide) (pv_se (pv_sn (by decide) (pv_se (pv_sn (by decide) (pv_se (pv_sn (by decide) e123)))))) rfl 14 rfl ?_
  refine pv_iload_n (M := mX12_types) 1 dX12_types_14 15 rfl rfl rfl ?_
  refine pv_bipush (M := mX12_types) (v := 8) dX12_types_15 17 rfl (by decide) ?_
  refine pv_iload_n (M := mX12_types) 2 dX12_types_17 18 rfl rfl rfl ?_
  refine pv_imul (M := mX12_types) (v := 0) dX12_types_18 19 rfl (by decide) ?_
  refine pv_ishr (M := mX12_types) (v := a1 >>> (0 &&& 31)) dX12_types_19 20 rfl rfl ?_
  refine pv_i2b (M := mX12_types) (v := (a1 >>> (0 &&& 31)).toInt8.toInt32) dX12_types_20 21 rfl rfl ?_
  refine pv_bast (M := mX12_types) dX12_types_21 (pv_sn (by decide) (pv_se (pv_sn (by decide) (pv_se (pv_sn (by decide) (pv_se e129)))))) (pv_in0 (by decide)) (j := 19) (by decide) rfl 22 rfl ?_
  refine pv_aload_n (M := mX12_types) 0 dX12_types_22 23 rfl rfl rfl ?_
  refine pv_aload_n (M := mX12_types) 0 dX12_types_23 24 rfl rfl rfl ?_
  refine pv_get (M := mX12_types) dX12_types_24 FX12 11 wd1184 (by decide) (pv_sn (by decide) (pv_se (pv_sn (by decide) (pv_se (pv_sn (by decide) (pv_se (pv_sn (by decide) e123))))))) rfl 27 rfl ?_
  refine pv_iconst (M := mX12_types) (v := 1) dX12_types_27 28 rfl (by decide) ?_
  refine pv_iadd (M := mX12_types) (v := 20) dX12_types_28 29 rfl (by decide) ?_
  refine pv_put (M := mX12_types) (fs2 := [.int 0, .int 0, .int 1, .int 0, .int 0, .ref 124, .ref 125, .ref 126, .ref 127, .ref 128, .ref 129, .int 20, .int 0, .int 0, .int 0, .int 0, .int 0, .int 0, .int 0, .int 0, .int 0, .ref 130, .ref 131, .ref 132, .ref 133, .ref 134, .ref 135, .ref 136, .ref 137, .ref 138, .ref 139, .ref 140, .ref 141, .ref 142, .ref 143, .ref 144, .ref 145, .ref 146, .ref 147, .ref 148, .int 0, .int 0, .ref 149, .ref 150, .ref 151, .ref 152, .ref 153, .ref 154, .ref 155, .ref 156, .int 0, .ref 157, .ref 158, .ref 159, .ref 160, .ref 161, .ref 162, .ref 163, .ref 164, .ref 165, .ref 166, .int 0, .ref 167, .ref 168]) dX12_types_29 FX12 11 wd1184 (by decide) rfl (pv_sn (by decide) (pv_se (pv_sn (by decide) (pv_se (pv_sn (by decide) (pv_se (pv_sn (by decide) e123))))))) (Nat.le_of_ble_eq_true rfl) (fun _ => rfl) (fun _ => rfl) rfl rfl 32 rfl ?_
  refine pv_iinc (M := mX12_types) (v := (-1)) (lo2 := [.ref 123, .int a1, .int (-1)]) dX12_types_32 35 rfl rfl (by decide) (by decide) rfl rfl ?_
  refine pv_goto (M := mX12_types) (tgt := 2) dX12_types_35 (by decide) ?_
  refine pv_iload_n (M := mX12_types) 2 dX12_types_2 3 rfl rfl rfl ?_
  refine pv_if_lt (M := mX12_types) (tgt := 38) dX12_types_3 6 rfl (by decide) (fun _ => ?_) (fun q => absurd (by decide) q)
  exact pv_vret (M := mX12_types) dX12_types_38 rfl ⟨rfl, rfl⟩

set_option maxHeartbeats 400000 in
set_option maxRecDepth 20000 in
theorem k_X12_feed (g : pv_G) {h : List pv_C} (a1 : Int32) (a2 : Int32) (a3 : Int32) (a4 : Int32) (a5 : Int32) (e123 : h[123]? = some (pv_o 12 [.int 0, .int 0, .int 1, .int 0, .int 0, .ref 124, .ref 125, .ref 126, .ref 127, .ref 128, .ref 129, .int 0, .int 0, .int 0, .int 0, .int 0, .int 0, .int 0, .int 0, .int 0, .int 0, .ref 130, .ref 131, .ref 132, .ref 133, .ref 134, .ref 135, .ref 136, .ref 137, .ref 138, .ref 139, .ref 140, .ref 141, .ref 142, .ref 143, .ref 144, .ref 145, .ref 146, .ref 147, .ref 148, .int 0, .int 0, .ref 149, .ref 150, .ref 151, .ref 152, .ref 153, .ref 154, .ref 155, .ref 156, .int 0, .ref 157, .ref 158, .ref 159, .ref 160, .ref 161, .ref 162, .ref 163, .ref 164, .ref 165, .ref 166, .int 0, .ref 167, .ref 168])) (e129 : h[129]? = some (pv_b 200 (fun _ => 0))) : PM g mX12_feed yX12_feed (pv_is (some (.int 20)) (((((((((((((((((((((((((((((((((((((((((h.set 129 (pv_b 200 (upd (fun _ => 0) 0 (vp_nar .byte ((a1 >>> (24 &&& 31)).toInt8.toInt32))))).set 123 (pv_o 12 [.int 0, .int 0, .int 1, .int 0, .int 0, .ref 124, .ref 125, .ref 126, .ref 127, .ref 128, .ref 129, .int 1, .int 0, .int 0, .int 0, .int 0, .int 0, .int 0, .int 0, .int 0, .int 0, .ref 130, .ref 131, .ref 132, .ref 133, .ref 134, .ref 135, .ref 136, .ref 137, .ref 138, .ref 139, .ref 140, .ref 141, .ref 142, .ref 143, .ref 144, .ref 145, .ref 146, .ref 147, .ref 148, .int 0, .int 0, .ref 149, .ref 150, .ref 151, .ref 152, .ref 153, .ref 154, .ref 155, .ref 156, .int 0, .ref 157, .ref 158, .ref 159, .ref 160, .ref 161, .ref 162, .ref 163, .ref 164, .ref 165, .ref 166, .int 0, .ref 167, .ref 168])).set 129 (pv_b 200 (upd (upd (fun _ => 0) 0 (vp_nar .byte ((a1 >>> (24 &&& 31)).toInt8.toInt32))) 1 (vp_nar .byte ((a1 >>> (16 &&& 31)).toInt8.toInt32))))).set 123 (pv_o 12 [.int 0, .int 0, .int 1, .int 0, .int 0, .ref 124, .ref 125, .ref 126, .ref 127, .ref 128, .ref 129, .int 2, .int 0, .int 0, .int 0, .int 0, .int 0, .int 0, .int 0, .int 0, .int 0, .ref 130, .ref 131, .ref 132, .ref 133, .ref 134, .ref 135, .ref 136, .ref 137, .ref 138, .ref 139, .ref 140, .ref 141, .ref 142, .ref 143, .ref 144, .ref 145, .ref 146, .ref 147, .ref 148, .int 0, .int 0, .ref 149, .ref 150, .ref 151, .ref 152, .ref 153, .ref 154, .ref 155, .ref 156, .int 0, .ref 157, .ref 158, .ref 159, .ref 160, .ref 161, .ref 162, .ref 163, .ref 164, .ref 165, .ref 166, .int 0, .ref 167, .ref 168])).set 129 (pv_b 200 (upd (upd (upd (fun _ => 0) 0 (vp_nar .byte ((a1 >>> (24 &&& 31)).toInt8.toInt32))) 1 (vp_nar .byte ((a1 >>> (16 &&& 31)).toInt8.toInt32))) 2 (vp_nar .byte ((a1 >>> (8 &&& 31)).toInt8.toInt32))))).set 123 (pv_o 12 [.int 0, .int 0, .int 1, .int 0, .int 0, .ref 124, .ref 125, .ref 126, .ref 127, .ref 128, .ref 129, .int 3, .int 0, .int 0, .int 0, .int 0, .int 0, .int 0, .int 0, .int 0, .int 0, .ref 130, .ref 131, .ref 132, .ref 133, .ref 134, .ref 135, .ref 136, .ref 137, .ref 138, .ref 139, .ref 140, .ref 141, .ref 142, .ref 143, .ref 144, .ref 145, .ref 146, .ref 147, .ref 148, .int 0, .int 0, .ref 149, .ref 150, .ref 151, .ref 152, .ref 153, .ref 154, .ref 155, .ref 156, .int 0, .ref 157, .ref 158, .ref 159, .ref 160, .ref 161, .ref 162, .ref 163, .ref 164, .ref 165, .ref 166, .int 0, .ref 167, .ref 168])).set 129 (pv_b 200 (upd (upd (upd (upd (fun _ => 0) 0 (vp_nar .byte ((a1 >>> (24 &&& 31)).toInt8.toInt32))) 1 (vp_nar .byte ((a1 >>> (16 &&& 31)).toInt8.toInt32))) 2 (vp_nar .byte ((a1 >>> (8 &&& 31)).toInt8.toInt32))) 3 (vp_nar .byte ((a1 >>> (0 &&& 31)).toInt8.toInt32))))).set 123 (pv_o 12 [.int 0, .int 0, .int 1, .int 0, .int 0, .ref 124, .ref 125, .ref 126, .ref 127, .ref 128, .ref 129, .int 4, .int 0, .int 0, .int 0, .int 0, .int 0, .int 0, .int 0, .int 0, .int 0, .ref 130, .ref 131, .ref 132, .ref 133, .ref 134, .ref 135, .ref 136, .ref 137, .ref 138, .ref 139, .ref 140, .ref 141, .ref 142, .ref 143, .ref 144, .ref 145, .ref 146, .ref 147, .ref 148, .int 0, .int 0, .ref 149, .ref 150, .ref 151, .ref 152, .ref 153, .ref 154, .ref 155, .ref 156, .int 0, .ref 157, .ref 158, .ref 159, .ref 160, .ref 161, .ref 162, .ref 163, .ref 164, .ref 165, .ref 166, .int 0, .ref 167, .ref 168])).set 129 (pv_b 200 (upd (upd (upd (upd (upd (fun _ => 0) 0 (vp_nar .byte ((a1 >>> (24 &&& 31)).toInt8.toInt32))) 1 (vp_nar .byte ((a1 >>> (16 &&& 31)).toInt8.toInt32))) 2 (vp_nar .byte ((a1 >>> (8 &&& 31)).toInt8.toInt32))) 3 (vp_nar .byte ((a1 >>> (0 &&& 31)).toInt8.toInt32))) 4 (vp_nar .byte ((a2 >>> (24 &&& 31)).toInt8.toInt32))))).set 123 (pv_o 12 [.int 0, .int 0, .int 1, .int 0, .int 0, .ref 124, .ref 125, .ref 126, .ref 127, .ref 128, .ref 129, .int 5, .int 0, .int 0, .int 0, .int 0, .int 0, .int 0, .int 0, .int 0, .int 0, .ref 130, .ref 131, .ref 132, .ref 133, .ref 134, .ref 135, .ref 136, .ref 137, .ref 138, .ref 139, .ref 140, .ref 141, .ref 142, .ref 143, .ref 144, .ref 145, .ref 146, .ref 147, .ref 148, .int 0, .int 0, .ref 149, .ref 150, .ref 151, .ref 152, .ref 153, .ref 154, .ref 155, .ref 156, .int 0, .ref 157, .ref 158, .ref 159, .ref 160, .ref 161, .ref 162, .ref 163, .ref 164, .ref 165, .ref 166, .int 0, .ref 167, .ref 168])).set 129 (pv_b 200 (upd (upd (upd (upd (upd (upd (fun _ => 0) 0 (vp_nar .byte ((a1 >>> (24 &&& 31)).toInt8.toInt32))) 1 (vp_nar .byte ((a1 >>> (16 &&& 31)).toInt8.toInt32))) 2 (vp_nar .byte ((a1 >>> (8 &&& 31)).toInt8.toInt32))) 3 (vp_nar .byte ((a1 >>> (0 &&& 31)).toInt8.toInt32))) 4 (vp_nar .byte ((a2 >>> (24 &&& 31)).toInt8.toInt32))) 5 (vp_nar .byte ((a2 >>> (16 &&& 31)).toInt8.toInt32))))).set 123 (pv_o 12 [.int 0, .int 0, .int 1, .int 0, .int 0, .ref 124, .ref 125, .ref 126, .ref 127, .ref 128, .ref 129, .int 6, .int 0, .int 0, .int 0, .int 0, .int 0, .int 0, .int 0, .int 0, .int 0, .ref 130, .ref 131, .ref 132, .ref 133, .ref 134, .ref 135, .ref 136, .ref 137, .ref 138, .ref 139, .ref 140, .ref 141, .ref 142, .ref 143, .ref 144, .ref 145, .ref 146, .ref 147, .ref 148, .int 0, .int 0, .ref 149, .ref 150, .ref 151, .ref 152, .ref 153, .ref 154, .ref 155, .ref 156, .int 0, .ref 157, .ref 158, .ref 159, .ref 160, .ref 161, .ref 162, .ref 163, .ref 164, .ref 165, .ref 166, .int 0, .ref 167, .ref 168])).set 129 (pv_b 200 (upd (upd (upd (upd (upd (upd (upd (fun _ => 0) 0 (vp_nar .byte ((a1 >>> (24 &&& 31)).toInt8.toInt32))) 1 (vp_nar .byte ((a1 >>> (16 &&& 31)).toInt8.toInt32))) 2 (vp_nar .byte ((a1 >>> (8 &&& 31)).toInt8.toInt32))) 3 (vp_nar .byte ((a1 >>> (0 &&& 31)).toInt8.toInt32))) 4 (vp_nar .byte ((a2 >>> (24 &&& 31)).toInt8.toInt32))) 5 (vp_nar .byte ((a2 >>> (16 &&& 31)).toInt8.toInt32))) 6 (vp_nar .byte ((a2 >>> (8 &&& 31)).toInt8.toInt32))))).set 123 (pv_o 12 [.int 0, .int 0, .int 1, .int 0, .int 0, .ref 124, .ref 125, .ref 126, .ref 127, .ref 128, .ref 129, .int 7, .int 0, .int 0, .int 0, .int 0, .int 0, .int 0, .int 0, .int 0, .int 0, .ref 130, .ref 131, .ref 132, .ref 133, .ref 134, .ref 135, .ref 136, .ref 137, .ref 138, .ref 139, .ref 140, .ref 141, .ref 142, .ref 143, .ref 144, .ref 145, .ref 146, .ref 147, .ref 148, .int 0, .int 0, .ref 149, .ref 150, .ref 151, .ref 152, .ref 153, .ref 154, .ref 155, .ref 156, .int 0, .ref 157, .ref 158, .ref 159, .ref 160, .ref 161, .ref 162, .ref 163, .ref 164, .ref 165, .ref 166, .int 0, .ref 167, .ref 168])).set 129 (pv_b 200 (upd (upd (upd (upd (upd (upd (upd (upd (fun _ => 0) 0 (vp_nar .byte ((a1 >>> (24 &&& 31)).toInt8.toInt32))) 1 (vp_nar .byte ((a1 >>> (16 &&& 31)).toInt8.toInt32))) 2 (vp_nar .byte ((a1 >>> (8 &&& 31)).toInt8.toInt32))) 3 (vp_nar .byte ((a1 >>> (0 &&& 31)).toInt8.toInt32))) 4 (vp_nar .byte ((a2 >>> (24 &&& 31)).toInt8.toInt32))) 5 (vp_nar .byte ((a2 >>> (16 &&& 31)).toInt8.toInt32))) 6 (vp_nar .byte ((a2 >>> (8 &&& 31)).toInt8.toInt32))) 7 (vp_nar .byte ((a2 >>> (0 &&& 31)).toInt8.toInt32))))).set 123 (pv_o 12 [.int 0, .int 0, .int 1, .int 0, .int 0, .ref 124, .ref 125, .ref 126, .ref 127, .ref 128, .ref 129, .int 8, .int 0, .int 0, .int 0, .int 0, .int 0, .int 0, .int 0, .int 0, .int 0, .ref 130, .ref 131, .ref 132, .ref 133, .ref 134, .ref 135, .ref 136, .ref 137, .ref 138, .ref 139, .ref 140, .ref 141, .ref 142, .ref 143, .ref 144, .ref 145, .ref 146, .ref 147, .ref 148, .int 0, .int 0, .ref 149, .ref 150, .ref 151, .ref 152, .ref 153, .ref 154, .ref 155, .ref 156, .int 0, .ref 157, .ref 158, .ref 159, .ref 160, .ref 161, .ref 162, .ref 163, .ref 164, .ref 165, .ref 166, .int 0, .ref 167, .ref 168])).set 129 (pv_b 200 (upd (upd (upd (upd (upd (upd (upd (upd (upd (fun _ => 0) 0 (vp_nar .byte ((a1 >>> (24 &&& 31)).toInt8.toInt32))) 1 (vp_nar .byte ((a1 >>> (16 &&& 31)).toInt8.toInt32))) 2 (vp_nar .byte ((a1 >>> (8 &&& 31)).toInt8.toInt32))) 3 (vp_nar .byte ((a1 >>> (0 &&& 31)).toInt8.toInt32))) 4 (vp_nar .byte ((a2 >>> (24 &&& 31)).toInt8.toInt32))) 5 (vp_nar .byte ((a2 >>> (16 &&& 31)).toInt8.toInt32))) 6 (vp_nar .byte ((a2 >>> (8 &&& 31)).toInt8.toInt32))) 7 (vp_nar .byte ((a2 >>> (0 &&& 31)).toInt8.toInt32))) 8 (vp_nar .byte ((a3 >>> (24 &&& 31)).toInt8.toInt32))))).set 123 (pv_o 12 [.int 0, .int 0, .int 1, .int 0, .int 0, .ref 124, .ref 125, .ref 126, .ref 127, .ref 128, .ref 129, .int 9, .int 0, .int 0, .int 0, .int 0, .int 0, .int 0, .int 0, .int 0, .int 0, .ref 130, .ref 131, .ref 132, .ref 133, .ref 134, .ref 135, .ref 136, .ref 137, .ref 138, .ref 139, .ref 140, .ref 141, .ref 142, .ref 143, .ref 144, .ref 145, .ref 146, .ref 147, .ref 148, .int 0, .int 0, .ref 149, .ref 150, .ref 151, .ref 152, .ref 153, .ref 154, .ref 155, .ref 156, .int 0, .ref 157, .ref 158, .ref 159, .ref 160, .ref 161, .ref 162, .ref 163, .ref 164, .ref 165, .ref 166, .int 0, .ref 167, .ref 168])).set 129 (pv_b 200 (upd (upd (upd (upd (upd (upd (upd (upd (upd (upd (fun _ => 0) 0 (vp_nar .byte ((a1 >>> (24 &&& 31)).toInt8.toInt32))) 1 (vp_nar .byte ((a1 >>> (16 &&& 31)).toInt8.toInt32))) 2 (vp_nar .byte ((a1 >>> (8 &&& 31)).toInt8.toInt32))) 3 (vp_nar .byte ((a1 >>> (0 &&& 31)).toInt8.toInt32))) 4 (vp_nar .byte ((a2 >>> (24 &&& 31)).toInt8.toInt32))) 5 (vp_nar .byte ((a2 >>> (16 &&& 31)).toInt8.toInt32))) 6 (vp_nar .byte ((a2 >>> (8 &&& 31)).toInt8.toInt32))) 7 (vp_nar .byte ((a2 >>> (0 &&& 31)).toInt8.toInt32))) 8 (vp_nar .byte ((a3 >>> (24 &&& 31)).toInt8.toInt32))) 9 (vp_nar .byte ((a3 >>> (16 &&& 31)).toInt8.toInt32))))).set 123 (pv_o 12 [.int 0, .int 0, .int 1, .int 0, .int 0, .ref 124, .ref 125, .ref 126, .ref 127, .ref 128, .ref 129, .int 10, .int 0, .int 0, .int 0, .int 0, .int 0, .int 0, .int 0, .int 0, .int 0, .ref 130, .ref 131, .ref 132, .ref 133, .ref 134, .ref 135, .ref 136, .ref 137, .ref 138, .ref 139, .ref 140, .ref 141, .ref 142, .ref 143, .ref 144, .ref 145, .ref 146, .ref 147, .ref 148, .int 0, .int 0, .ref 149, .ref 150, .ref 151, .ref 152, .ref 153, .ref 154, .ref 155, .ref 156, .int 0, .ref 157, .ref 158, .ref 159, .ref 160, .ref 161, .ref 162, .ref 163, .ref 164, .ref 165, .ref 166, .int 0, .ref 167, .ref 168])).set 129 (pv_b 200 (upd (upd (upd (upd (upd (upd (upd (upd (upd (upd (upd (fun _ => 0) 0 (vp_nar .byte ((a1 >>> (24 &&& 31)).toInt8.toInt32))) 1 (vp_nar .byte ((a1 >>> (16 &&& 31)).toInt8.toInt32))) 2 (vp_nar .byte ((a1 >>> (8 &&& 31)).toInt8.toInt32))) 3 (vp_nar .byte ((a1 >>> (0 &&& 31)).toInt8.toInt32))) 4 (vp_nar .byte ((a2 >>> (24 &&& 31)).toInt8.toInt32))) 5 (vp_nar .byte ((a2 >>> (16 &&& 31)).toInt8.toInt32))) 6 (vp_nar .byte ((a2 >>> (8 &&& 31)).toInt8.toInt32))) 7 (vp_nar .byte ((a2 >>> (0 &&& 31)).toInt8.toInt32))) 8 (vp_nar .byte ((a3 >>> (24 &&& 31)).toInt8.toInt32))) 9 (vp_nar .byte ((a3 >>> (16 &&& 31)).toInt8.toInt32))) 10 (vp_nar .byte ((a3 >>> (8 &&& 31)).toInt8.toInt32))))).set 123 (pv_o 12 [.int 0, .int 0, .int 1, .int 0, .int 0, .ref 124, .ref 125, .ref 126, .ref 127, .ref 128, .ref 129, .int 11, .int 0, .int 0, .int 0, .int 0, .int 0, .int 0, .int 0, .int 0, .int 0, .ref 130, .ref 131, .ref 132, .ref 133, .ref 134, .ref 135, .ref 136, .ref 137, .ref 138, .ref 139, .ref 140, .ref 141, .ref 142, .ref 143, .ref 144, .ref 145, .ref 146, .ref 147, .ref 148, .int 0, .int 0, .ref 149, .ref 150, .ref 151, .ref 152, .ref 153, .ref 154, .ref 155, .ref 156, .int 0, .ref 157, .ref 158, .ref 159, .ref 160, .ref 161, .ref 162, .ref 163, .ref 164, .ref 165, .ref 166, .int 0, .ref 167, .ref 168])).set 129 (pv_b 200 (upd (upd (upd (upd (upd (upd (upd (upd (upd (upd (upd (upd (fun _ => 0) 0 (vp_nar .byte ((a1 >>> (24 &&& 31)).toInt8.toInt32))) 1 (vp_nar .byte ((a1 >>> (16 &&& 31)).toInt8.toInt32))) 2 (vp_nar .byte ((a1 >>> (8 &&& 31)).toInt8.toInt32))) 3 (vp_nar .byte ((a1 >>> (0 &&& 31)).toInt8.toInt32))) 4 (vp_nar .byte ((a2 >>> (24 &&& 31)).toInt8.toInt32))) 5 (vp_nar .byte ((a2 >>> (16 &&& 31)).toInt8.toInt32))) 6 (vp_nar .byte ((a2 >>> (8 &&& 31)).toInt8.toInt32))) 7 (vp_nar .byte ((a2 >>> (0 &&& 31)).toInt8.toInt32))) 8 (vp_nar .byte ((a3 >>> (24 &&& 31)).toInt8.toInt32))) 9 (vp_nar .byte ((a3 >>> (16 &&& 31)).toInt8.toInt32))) 10 (vp_nar .byte ((a3 >>> (8 &&& 31)).toInt8.toInt32))) 11 (vp_nar .byte ((a3 >>> (0 &&& 31)).toInt8.toInt32))))).set 123 (pv_o 12 [.int 0, .int 0, .int 1, .int 0, .int 0, .ref 124, .ref 125, .ref 126, .ref 127, .ref 128, .ref 129, .int 12, .int 0, .int 0, .int 0, .int 0, .int 0, .int 0, .int 0, .int 0, .int 0, .ref 130, .ref 131, .ref 132, .ref 133, .ref 134, .ref 135, .ref 136, .ref 137, .ref 138, .ref 139, .ref 140, .ref 141, .ref 142, .ref 143, .ref 144, .ref 145, .ref 146, .ref 147, .ref 148, .int 0, .int 0, .ref 149, .ref 150, .ref 151, .ref 152, .ref 153, .ref 154, .ref 155, .ref 156, .int 0, .ref 157, .ref 158, .ref 159, .ref 160, .ref 161, .ref 162, .ref 163, .ref 164, .ref 165, .ref 166, .int 0, .ref 167, .ref 168])).set 129 (pv_b 200 (upd (upd (upd (upd (upd (upd (upd (upd (upd (upd (upd (upd (upd (fun _ => 0) 0 (vp_nar .byte ((a1 >>> (24 &&& 31)).toInt8.toInt32))) 1 (vp_nar .byte ((a1 >>> (16 &&& 31)).toInt8.toInt32))) 2 (vp_nar .byte ((a1 >>> (8 &&& 31)).toInt8.toInt32))) 3 (vp_nar .byte ((a1 >>> (0 &&& 31)).toInt8.toInt32))) 4 (vp_nar .byte ((a2 >>> (24 &&& 31)).toInt8.toInt32))) 5 (vp_nar .byte ((a2 >>> (16 &&& 31)).toInt8.toInt32))) 6 (vp_nar .byte ((a2 >>> (8 &&& 31)).toInt8.toInt32))) 7 (vp_nar .byte ((a2 >>> (0 &&& 31)).toInt8.toInt32))) 8 (vp_nar .byte ((a3 >>> (24 &&& 31)).toInt8.toInt32))) 9 (vp_nar .byte ((a3 >>> (16 &&& 31)).toInt8.toInt32))) 10 (vp_nar .byte ((a3 >>> (8 &&& 31)).toInt8.toInt32))) 11 (vp_nar .byte ((a3 >>> (0 &&& 31)).toInt8.toInt32))) 12 (vp_nar .byte ((a4 >>> (24 &&& 31)).toInt8.toInt32))))).set 123 (pv_o 12 [.int 0, .int 0, .int 1, .int 0, .int 0, .ref 124, .ref 125, .ref 126, .ref 127, .ref 128, .ref 129, .int 13, .int 0, .int 0, .int 0, .int 0, .int 0, .int 0, .int 0, .int 0, .int 0, .ref 130, .ref 131, .ref 132, .ref 133, .ref 134, .ref 135, .ref 136, .ref 137, .ref 138, .ref 139, .ref 140, .ref 141, .ref 142, .ref 143, .ref 144, .ref 145, .ref 146, .ref 147, .ref 148, .int 0, .int 0, .ref 149, .ref 150, .ref 151, .ref 152, .ref 153, .ref 154, .ref 155, .ref 156, .int 0, .ref 157, .ref 158, .ref 159, .ref 160, .ref 161, .ref 162, .ref 163, .ref 164, .ref 165, .ref 166, .int 0, .ref 167, .ref 168])).set 129 (pv_b 200 (upd (upd (upd (upd (upd (upd (upd (upd (upd (upd (upd (upd (upd (upd (fun _ => 0) 0 (vp_nar .byte ((a1 >>> (24 &&& 31)).toInt8.toInt32))) 1 (vp_nar .byte ((a1 >>> (16 &&& 31)).toInt8.toInt32))) 2 (vp_nar .byte ((a1 >>> (8 &&& 31)).toInt8.toInt32))) 3 (vp_nar .byte ((a1 >>> (0 &&& 31)).toInt8.toInt32))) 4 (vp_nar .byte ((a2 >>> (24 &&& 31)).toInt8.toInt32))) 5 (vp_nar .byte ((a2 >>> (16 &&& 31)).toInt8.toInt32))) 6 (vp_nar .byte ((a2 >>> (8 &&& 31)).toInt8.toInt32))) 7 (vp_nar .byte ((a2 >>> (0 &&& 31)).toInt8.toInt32))) 8 (vp_nar .byte ((a3 >>> (24 &&& 31)).toInt8.toInt32))) 9 (vp_nar .byte ((a3 >>> (16 &&& 31)).toInt8.toInt32))) 10 (vp_nar .byte ((a3 >>> (8 &&& 31)).toInt8.toInt32))) 11 (vp_nar .byte ((a3 >>> (0 &&& 31)).toInt8.toInt32))) 12 (vp_nar .byte ((a4 >>> (24 &&& 31)).toInt8.toInt32))) 13 (vp_nar .byte ((a4 >>> (16 &&& 31)).toInt8.toInt32))))).set 123 (pv_o 12 [.int 0, .int 0, .int 1, .int 0, .int 0, .ref 124, .ref 125, .ref 126, .ref 127, .ref 128, .ref 129, .int 14, .int 0, .int 0, .int 0, .int 0, .int 0, .int 0, .int 0, .int 0, .int 0, .ref 130, .ref 131, .ref 132, .ref 133, .ref 134, .ref 135, .ref 136, .ref 137, .ref 138, .ref 139, .ref 140, .ref 141, .ref 142, .ref 143, .ref 144, .ref 145, .ref 146, .ref 147, .ref 148, .int 0, .int 0, .ref 149, .ref 150, .ref 151, .ref 152, .ref 153, .ref 154, .ref 155, .ref 156, .int 0, .ref 157, .ref 158, .ref 159, .ref 160, .ref 161, .ref 162, .ref 163, .ref 164, .ref 165, .ref 166, .int 0, .ref 167, .ref 168])).set 129 (pv_b 200 (upd (upd (upd (upd (upd (upd (upd (upd (upd (upd (upd (upd (upd (upd (upd (fun _ => 0) 0 (vp_nar .byte ((a1 >>> (24 &&& 31)).toInt8.toInt32))) 1 (vp_nar .byte ((a1 >>> (16 &&& 31)).toInt8.toInt32))) 2 (vp_nar .byte ((a1 >>> (8 &&& 31)).toInt8.toInt32))) 3 (vp_nar .byte ((a1 >>> (0 &&& 31)).toInt8.toInt32))) 4 (vp_nar .byte ((a2 >>> (24 &&& 31)).toInt8.toInt32))) 5 (vp_nar .byte ((a2 >>> (16 &&& 31)).toInt8.toInt32))) 6 (vp_nar .byte ((a2 >>> (8 &&& 31)).toInt8.toInt32))) 7 (vp_nar .byte ((a2 >>> (0 &&& 31)).toInt8.toInt32))) 8 (vp_nar .byte ((a3 >>> (24 &&& 31)).toInt8.toInt32))) 9 (vp_nar .byte ((a3 >>> (16 &&& 31)).toInt8.toInt32))) 10 (vp_nar .byte ((a3 >>> (8 &&& 31)).toInt8.toInt32))) 11 (vp_nar .byte ((a3 >>> (0 &&& 31)).toInt8.toInt32))) 12 (vp_nar .byte ((a4 >>> (24 &&& 31)).toInt8.toInt32))) 13 (vp_nar .byte ((a4 >>> (16 &&& 31)).toInt8.toInt32))) 14 (vp_nar .byte ((a4 >>> (8 &&& 31)).toInt8.toInt32))))).set 123 (pv_o 12 [.int 0, .int 0, .int 1, .int 0, .int 0, .ref 124, .ref 125, .ref 126, .ref 127, .ref 128, .ref 129, .int 15, .int 0, .int 0, .int 0, .int 0, .int 0, .int 0, .int 0, .int 0, .int 0, .ref 130, .ref 131, .ref 132, .ref 133, .ref 134, .ref 135, .ref 136, .ref 137, .ref 138, .ref 139, .ref 140, .ref 141, .ref 142, .ref 143, .ref 144, .ref 145, .ref 146, .ref 147, .ref 148, .int 0, .int 0, .ref 149, .ref 150, .ref 151, .ref 152, .ref 153, .ref 154, .ref 155, .ref 156, .int 0, .ref 157, .ref 158, .ref 159, .ref 160, .ref 161, .ref 162, .ref 163, .ref 164, .ref 165, .ref 166, .int 0, .ref 167, .ref 168])).set 129 (pv_b 200 (upd (upd (upd (upd (upd (upd (upd (upd (upd (upd (upd (upd (upd (upd (upd (upd (fun _ => 0) 0 (vp_nar .byte ((a1 >>> (24 &&& 31)).toInt8.toInt32))) 1 (vp_nar .byte ((a1 >>> (16 &&& 31)).toInt8.toInt32))) 2 (vp_nar .byte ((a1 >>> (8 &&& 31)).toInt8.toInt32))) 3 (vp_nar .byte ((a1 >>> (0 &&& 31)).toInt8.toInt32))) 4 (vp_nar .byte ((a2 >>> (24 &&& 31)).toInt8.toInt32))) 5 (vp_nar .byte ((a2 >>> (16 &&& 31)).toInt8.toInt32))) 6 (vp_nar .byte ((a2 >>> (8 &&& 31)).toInt8.toInt32))) 7 (vp_nar .byte ((a2 >>> (0 &&& 31)).toInt8.toInt32))) 8 (vp_nar .byte ((a3 >>> (24 &&& 31)).toInt8.toInt32))) 9 (vp_nar .byte ((a3 >>> (16 &&& 31)).toInt8.toInt32))) 10 (vp_nar .byte ((a3 >>> (8 &&& 31)).toInt8.toInt32))) 11 (vp_nar .byte ((a3 >>> (0 &&& 31)).toInt8.toInt32))) 12 (vp_nar .byte ((a4 >>> (24 &&& 31)).toInt8.toInt32))) 13 (vp_nar .byte ((a4 >>> (16 &&& 31)).toInt8.toInt32))) 14 (vp_nar .byte ((a4 >>> (8 &&& 31)).toInt8.toInt32))) 15 (vp_nar .byte ((a4 >>> (0 &&& 31)).toInt8.toInt32))))).set 123 (pv_o 12 [.int 0, .int 0, .int 1, .int 0, .int 0, .ref 124, .ref 125, .ref 126, .ref 127, .ref 128, .ref 129, .int 16, .int 0, .int 0, .int 0, .int 0, .int 0, .int 0, .int 0, .int 0, .int 0, .ref 130, .ref 131, .ref 132, .ref 133, .ref 134, .ref 135, .ref 136, .ref 137, .ref 138, .ref 139, .ref 140, .ref 141, .ref 142, .ref 143, .ref 144, .ref 145, .ref 146, .ref 147, .ref 148, .int 0, .int 0, .ref 149, .ref 150, .ref 151, .ref 152, .ref 153, .ref 154, .ref 155, .ref 156, .int 0, .ref 157, .ref 158, .ref 159, .ref 160, .ref 161, .ref 162, .ref 163, .ref 164, .ref 165, .ref 166, .int 0, .ref 167, .ref 168])).set 129 (pv_b 200 (upd (upd (upd (upd (upd (upd (upd (upd (upd (upd (upd (upd (upd (upd (upd (upd (upd (fun _ => 0) 0 (vp_nar .byte ((a1 >>> (24 &&& 31)).toInt8.toInt32))) 1 (vp_nar .byte ((a1 >>> (16 &&& 31)).toInt8.toInt32))) 2 (vp_nar .byte ((a1 >>> (8 &&& 31)).toInt8.toInt32))) 3 (vp_nar .byte ((a1 >>> (0 &&& 31)).toInt8.toInt32))) 4 (vp_nar .byte ((a2 >>> (24 &&& 31)).toInt8.toInt32))) 5 (vp_nar .byte ((a2 >>> (16 &&& 31)).toInt8.toInt32))) 6 (vp_nar .byte ((a2 >>> (8 &&& 31)).toInt8.toInt32))) 7 (vp_nar .byte ((a2 >>> (0 &&& 31)).toInt8.toInt32))) 8 (vp_nar .byte ((a3 >>> (24 &&& 31)).toInt8.toInt32))) 9 (vp_nar .byte ((a3 >>> (16 &&& 31)).toInt8.toInt32))) 10 (vp_nar .byte ((a3 >>> (8 &&& 31)).toInt8.toInt32))) 11 (vp_nar .byte ((a3 >>> (0 &&& 31)).toInt8.toInt32))) 12 (vp_nar .byte ((a4 >>> (24 &&& 31)).toInt8.toInt32))) 13 (vp_nar .byte ((a4 >>> (16 &&& 31)).toInt8.toInt32))) 14 (vp_nar .byte ((a4 >>> (8 &&& 31)).toInt8.toInt32))) 15 (vp_nar .byte ((a4 >>> (0 &&& 31)).toInt8.toInt32))) 16 (vp_nar .byte ((a5 >>> (24 &&& 31)).toInt8.toInt32))))).set 123 (pv_o 12 [.int 0, .int 0, .int 1, .int 0, .int 0, .ref 124, .ref 125, .ref 126, .ref 127, .ref 128, .ref 129, .int 17, .int 0, .int 0, .int 0, .int 0, .int 0, .int 0, .int 0, .int 0, .int 0, .ref 130, .ref 131, .ref 132, .ref 133, .ref 134, .ref 135, .ref 136, .ref 137, .ref 138, .ref 139, .ref 140, .ref 141, .ref 142, .ref 143, .ref 144, .ref 145, .ref 146, .ref 147, .ref 148, .int 0, .int 0, .ref 149, .ref 150, .ref 151, .ref 152, .ref 153, .ref 154, .ref 155, .ref 156, .int 0, .ref 157, .ref 158, .ref 159, .ref 160, .ref 161, .ref 162, .ref 163, .ref 164, .ref 165, .ref 166, .int 0, .ref 167, .ref 168])).set 129 (pv_b 200 (upd (upd (upd (upd (upd (upd (upd (upd (upd (upd (upd (upd (upd (upd (upd (upd (upd (upd (fun _ => 0) 0 (vp_nar .byte ((a1 >>> (24 &&& 31)).toInt8.toInt32))) 1 (vp_nar .byte ((a1 >>> (16 &&& 31)).toInt8.toInt32))) 2 (vp_nar .byte ((a1 >>> (8 &&& 31)).toInt8.toInt32))) 3 (vp_nar .byte ((a1 >>> (0 &&& 31)).toInt8.toInt32))) 4 (vp_nar .byte ((a2 >>> (24 &&& 31)).toInt8.toInt32))) 5 (vp_nar .byte ((a2 >>> (16 &&& 31)).toInt8.toInt32))) 6 (vp_nar .byte ((a2 >>> (8 &&& 31)).toInt8.toInt32))) 7 (vp_nar .byte ((a2 >>> (0 &&& 31)).toInt8.toInt32))) 8 (vp_nar .byte ((a3 >>> (24 &&& 31)).toInt8.toInt32))) 9 (vp_nar .byte ((a3 >>> (16 &&& 31)).toInt8.toInt32))) 10 (vp_nar .byte ((a3 >>> (8 &&& 31)).toInt8.toInt32))) 11 (vp_nar .byte ((a3 >>> (0 &&& 31)).toInt8.toInt32))) 12 (vp_nar .byte ((a4 >>> (24 &&& 31)).toInt8.toInt32))) 13 (vp_nar .byte ((a4 >>> (16 &&& 31)).toInt8.toInt32))) 14 (vp_nar .byte ((a4 >>> (8 &&& 31)).toInt8.toInt32))) 15 (vp_nar .byte ((a4 >>> (0 &&& 31)).toInt8.toInt32))) 16 (vp_nar .byte ((a5 >>> (24 &&& 31)).toInt8.toInt32))) 17 (vp_nar .byte ((a5 >>> (16 &&& 31)).toInt8.toInt32))))).set 123 (pv_o 12 [.int 0, .int 0, .int 1, .int 0, .int 0, .ref 124, .ref 125, .ref 126, .ref 127, .ref 128, .ref 129, .int 18, .int 0, .int 0, .int 0, .int 0, .int 0, .int 0, .int 0, .int 0, .int 0, .ref 130, .ref 131, .ref 132, .ref 133, .ref 134, .ref 135, .ref 136, .ref 137, .ref 138, .ref 139, .ref 140, .ref 141, .ref 142, .ref 143, .ref 144, .ref 145, .ref 146, .ref 147, .ref 148, .int 0, .int 0, .ref 149, .ref 150, .ref 151, .ref 152, .ref 153, .ref 154, .ref 155, .ref 156, .int 0, .ref 157, .ref 158, .ref 159, .ref 160, .ref 161, .ref 162, .ref 163, .ref 164, .ref 165, .ref 166, .int 0, .ref 167, .ref 168])).set 129 (pv_b 200 (upd (upd (upd (upd (upd (upd (upd (upd (upd (upd (upd (upd (upd (upd (upd (upd (upd (upd (upd (fun _ => 0) 0 (vp_nar .byte ((a1 >>> (24 &&& 31)).toInt8.toInt32))) 1 (vp_nar .byte ((a1 >>> (16 &&& 31)).toInt8.toInt32))) 2 (vp_nar .byte ((a1 >>> (8 &&& 31)).toInt8.toInt32))) 3 (vp_nar .byte ((a1 >>> (0 &&& 31)).toInt8.toInt32))) 4 (vp_nar .byte ((a2 >>> (24 &&& 31)).toInt8.toInt32))) 5 (vp_nar .byte ((a2 >>> (16 &&& 31)).toInt8.toInt32))) 6 (vp_nar .byte ((a2 >>> (8 &&& 31)).toInt8.toInt32))) 7 (vp_nar .byte ((a2 >>> (0 &&& 31)).toInt8.toInt32))) 8 (vp_nar .byte ((a3 >>> (24 &&& 31)).toInt8.toInt32))) 9 (vp_nar .byte ((a3 >>> (16 &&& 31)).toInt8.toInt32))) 10 (vp_nar .byte ((a3 >>> (8 &&& 31)).toInt8.toInt32))) 11 (vp_nar .byte ((a3 >>> (0 &&& 31)).toInt8.toInt32))) 12 (vp_nar .byte ((a4 >>> (24 &&& 31)).toInt8.toInt32))) 13 (vp_nar .byte ((a4 >>> (16 &&& 31)).toInt8.toInt32))) 14 (vp_nar .byte ((a4 >>> (8 &&& 31)).toInt8.toInt32))) 15 (vp_nar .byte ((a4 >>> (0 &&& 31)).toInt8.toInt32))) 16 (vp_nar .byte ((a5 >>> (24 &&& 31)).toInt8.toInt32))) 17 (vp_nar .byte ((a5 >>> (16 &&& 31)).toInt8.toInt32))) 18 (vp_nar .byte ((a5 >>> (8 &&& 31)).toInt8.toInt32))))).set 123 (pv_o 12 [.int 0, .int 0, .int 1, .int 0, .int 0, .ref 124, .ref 125, .ref 126, .ref 127, .ref 128, .ref 129, .int 19, .int 0, .int 0, .int 0, .int 0, .int 0, .int 0, .int 0, .int 0, .int 0, .ref 130, .ref 131, .ref 132, .ref 133, .ref 134, .ref 135, .ref 136, .ref 137, .ref 138, .ref 139, .ref 140, .ref 141, .ref 142, .ref 143, .ref 144, .ref 145, .ref 146, .ref 147, .ref 148, .int 0, .int 0, .ref 149, .ref 150, .ref 151, .ref 152, .ref 153, .ref 154, .ref 155, .ref 156, .int 0, .ref 157, .ref 158, .ref 159, .ref 160, .ref 161, .ref 162, .ref 163, .ref 164, .ref 165, .ref 166, .int 0, .ref 167, .ref 168])).set 129 (pv_b 200 (upd (upd (upd (upd (upd (upd (upd (upd (upd (upd (upd (upd (upd (upd (upd (upd (upd (upd (upd (upd (fun _ => 0) 0 (vp_nar .byte ((a1 >>> (24 &&& 31)).toInt8.toInt32))) 1 (vp_nar .byte ((a1 >>> (16 &&& 31)).toInt8.toInt32))) 2 (vp_nar .byte ((a1 >>> (8 &&& 31)).toInt8.toInt32))) 3 (vp_nar .byte ((a1 >>> (0 &&& 31)).toInt8.toInt32))) 4 (vp_nar .byte ((a2 >>> (24 &&& 31)).toInt8.toInt32))) 5 (vp_nar .byte ((a2 >>> (16 &&& 31)).toInt8.toInt32))) 6 (vp_nar .byte ((a2 >>> (8 &&& 31)).toInt8.toInt32))) 7 (vp_nar .byte ((a2 >>> (0 &&& 31)).toInt8.toInt32))) 8 (vp_nar .byte ((a3 >>> (24 &&& 31)).toInt8.toInt32))) 9 (vp_nar .byte ((a3 >>> (16 &&& 31)).toInt8.toInt32))) 10 (vp_nar .byte ((a3 >>> (8 &&& 31)).toInt8.toInt32))) 11 (vp_nar .byte ((a3 >>> (0 &&& 31)).toInt8.toInt32))) 12 (vp_nar .byte ((a4 >>> (24 &&& 31)).toInt8.toInt32))) 13 (vp_nar .byte ((a4 >>> (16 &&& 31)).toInt8.toInt32))) 14 (vp_nar .byte ((a4 >>> (8 &&& 31)).toInt8.toInt32))) 15 (vp_nar .byte ((a4 >>> (0 &&& 31)).toInt8.toInt32))) 16 (vp_nar .byte ((a5 >>> (24 &&& 31)).toInt8.toInt32))) 17 (vp_nar .byte ((a5 >>> (16 &&& 31)).toInt8.toInt32))) 18 (vp_nar .byte ((a5 >>> (8 &&& 31)).toInt8.toInt32))) 19 (vp_nar .byte ((a5 >>> (0 &&& 31)).toInt8.toInt32))))).set 123 (pv_o 12 [.int 0, .int 0, .int 1, .int 0, .int 0, .ref 124, .ref 125, .ref 126, .ref 127, .ref 128, .ref 129, .int 20, .int 0, .int 0, .int 0, .int 0, .int 0, .int 0, .int 0, .int 0, .int 0, .ref 130, .ref 131, .ref 132, .ref 133, .ref 134, .ref 135, .ref 136, .ref 137, .ref 138, .ref 139, .ref 140, .ref 141, .ref 142, .ref 143, .ref 144, .ref 145, .ref 146, .ref 147, .ref 148, .int 0, .int 0, .ref 149, .ref 150, .ref 151, .ref 152, .ref 153, .ref 154, .ref 155, .ref 156, .int 0, .ref 157, .ref 158, .ref 159, .ref 160, .ref 161, .ref 162, .ref 163, .ref 164, .ref 165, .ref 166, .int 0, .ref 167, .ref 168])))) 2 0 0 [.ref 123, .int a1, .int a2, .int a3, .int a4, .int a5] h := by
  refine PM.of 0 (lo := [.ref 123, .int a1, .int a2, .int a3, .int a4, .int a5]) rfl (by decide) rfl rfl (Nat.le_of_ble_eq_true rfl) ?_
  refine pv_aload_n (M := mX12_feed) 0 dX12_feed_0 1 rfl rfl rfl ?_
  refine pv_get (M := mX12_feed) dX12_feed_1 FX12 11 wd1184 (by decide) e123 rfl 4 rfl ?_
  refine pv_bipush (M := mX12_feed) (v := 20) dX12_feed_4 6 rfl (by decide) ?_
  refine pv_iadd (M := mX12_feed) (v := 20) dX12_feed_6 7 rfl (by decide) ?_
  refine pv_sipush (M := mX12_feed) (v := 200) dX12_feed_7 10 rfl (by decide) ?_
  refine pv_icmp_le (M := mX12_feed) (tgt := 15) dX12_feed_10 13 rfl (by decide) (fun _ => ?_) (fun q => absurd (by decide) q)
  refine pv_aload_n (M := mX12_feed) 0 dX12_feed_15 16 rfl rfl rfl ?_
  refine pv_iload_n (M := mX12_feed) 1 dX12_feed_16 17 rfl rfl rfl ?_
  refine pv_callv (M := mX12_feed) (as := [.int a1]) (st := []) (kc2 := 0) (ks2 := 0) dX12_feed_17 wd1405 YX12_types ⟨wd1407, wd58⟩ e123 rfl rfl (k_X12_types g a1 e123 e129) rfl rfl (Nat.le_of_ble_eq_true rfl) (by decide) rfl rfl 20 rfl (pv_k0 ?_)
  refine pv_aload_n (M := mX12_feed) 0 dX12_feed_20 21 rfl rfl rfl ?_
  refine pv_iload_n (M := mX12_feed) 2 dX12_feed_21 22 rfl rfl rfl ?_
  refine pv_callv (M := mX12_feed) (as := [.int a2]) (st := []) (kc2 := 0) (ks2 := 0) dX12_feed_22 wd1405 YX12_types ⟨wd1407, wd58⟩ (pv_se (pv_sn (by decide) (pv_se (pv_sn (by decide) (pv_se (pv_sn (by decide) (pv_se (pv_sn (by decide) e123)))))))) rfl rfl (k_X12_types_2 g a2 (upd (upd (upd (upd (fun _ => 0) 0 (vp_nar .byte ((a1 >>> (24 &&& 31)).toInt8.toInt32))) 1 (vp_nar .byte ((a1 >>> (16 &&& 31)).toInt8.toInt32))) 2 (vp_nar .byte ((a1 >>> (8 &&& 31)).toInt8.toInt32))) 3 (vp_nar .byte ((a1 >>> (0 &&& 31)).toInt8.toInt32))) (pv_se (pv_sn (by decide) (pv_se (pv_sn (by decide) (pv_se (pv_sn (by decide) (pv_se (pv_sn (by decide) e123)))))))) (pv_sn (by decide) (pv_se (pv_sn (by decide) (pv_se (pv_sn (by decide) (pv_se (pv_sn (by decide) (pv_se e129))))))))) rfl rfl (Nat.le_of_ble_eq_true rfl) (by decide) rfl rfl 25 rfl (pv_k0 ?_)
  refine pv_aload_n (M := mX12_feed) 0 dX12_feed_25 26 rfl rfl rfl ?_
  refine pv_iload_n (M := mX12_feed) 3 dX12_feed_26 27 rfl rfl rfl ?_
  refine pv_callv (M := mX12_feed) (as := [.int a3]) (st := []) (kc2 := 0) (ks2 := 0) dX12_feed_27 wd1405 YX12_types ⟨wd1407, wd58⟩ (pv_se (pv_sn (by decide) (pv_se (pv_sn (by decide) (pv_se (pv_sn (by decide) (pv_se (pv_sn (by decide) (pv_se (pv_sn (by decide) (pv_se (pv_sn (by decide) (pv_se (pv_sn (by decide) (pv_se (pv_sn (by decide) e123)))))))))))))))) rfl rfl (k_X12_types_3 g a3 (upd (upd (upd (upd (upd (upd (upd (upd (fun _ => 0) 0 (vp_nar .byte ((a1 >>> (24 &&& 31)).toInt8.toInt32))) 1 (vp_nar .byte ((a1 >>> (16 &&& 31)).toInt8.toInt32))) 2 (vp_nar .byte ((a1 >>> (8 &&& 31)).toInt8.toInt32))) 3 (vp_nar .byte ((a1 >>> (0 &&& 31)).toInt8.toInt32))) 4 (vp_nar .byte ((a2 >>> (24 &&& 31)).toInt8.toInt32))) 5 (vp_nar .byte ((a2 >>> (16 &&& 31)).toInt8.toInt32))) 6 (vp_nar .byte ((a2 >>> (8 &&& 31)).toInt8.toInt32))) 7 (vp_nar .byte ((a2 >>> (0 &&& 31)).toInt8.toInt32))) (pv_se (pv_sn (by decide) (pv_se (pv_sn (by decide) (pv_se (pv_sn (by decide) (pv_se (pv_sn (by decide) (pv_se (pv_sn (by decide) (pv_se (pv_sn (by decide) (pv_se (pv_sn (by decide) (pv_se (pv_sn (by decide) e123)))))))))))))))) (pv_sn (by decide) (pv_se (pv_sn (by decide) (pv_se (pv_sn (by decide) (pv_se (pv_sn (by decide) (pv_se (pv_sn (by decide) (pv_se (pv_sn (by decide) (pv_se (pv_sn (by decide) (pv_se (pv_sn (by decide) (pv_se e129))))))))))))))))) rfl rfl (Nat.le_of_ble_eq_true rfl) (by decide) rfl rfl 30 rfl (pv_k0 ?_)
  refine pv_aload_n (M := mX12_feed) 0 dX12_feed_30 31 rfl rfl rfl ?_
  refine pv_iload (M := mX12_feed) dX12_feed_31 33 rfl rfl ?_
  refine pv_callv (M := mX12_feed) (as := [.int a4]) (st := []) (kc2 := 0) (ks2 := 0) dX12_feed_33 wd1405 YX12_types ⟨wd1407, wd58⟩ (pv_se (pv_sn (by decide) (pv_se (pv_sn (by decide) (pv_se (pv_sn (by decide) (pv_se (pv_sn (by decide) (pv_se (pv_sn (by decide) (pv_se (pv_sn (by decide) (pv_se (pv_sn (by decide) (pv_se (pv_sn (by decide) (pv_se (pv_sn (by decide) (pv_se (pv_sn (by decide) (pv_se (pv_sn (by decide) (pv_se (pv_sn (by decide) e123)))))))))))))))))))))))) rfl rfl (k_X12_types_4 g a4 (upd (upd (upd (upd (upd (upd (upd (upd (upd (upd (upd (upd (fun _ => 0) 0 (vp_nar .byte ((a1 >>> (24 &&& 31)).toInt8.toInt32))) 1 (vp_nar .byte ((a1 >>> (16 &&& 31)).toInt8.toInt32))) 2 (vp_nar .byte ((a1 >>> (8 &&& 31)).toInt8.toInt32))) 3 (vp_nar .byte ((a1 >>> (0 &&& 31)).toInt8.toInt32))) 4 (vp_nar .byte ((a2 >>> (24 &&& 31)).toInt8.toInt32))) 5 (vp_nar .byte ((a2 >>> (16 &&& 31)).toInt8.toInt32))) 6 (vp_nar .byte ((a2 >>> (8 &&& 31)).toInt8.toInt32))) 7 (vp_nar .byte ((a2 >>> (0 &&& 31)).toInt8.toInt32))) 8 (vp_nar .byte ((a3 >>> (24 &&& 31)).toInt8.toInt32))) 9 (vp_nar .byte ((a3 >>> (16 &&& 31)).toInt8.toInt32))) 10 (vp_nar .byte ((a3 >>> (8 &&& 31)).toInt8.toInt32))) 11 (vp_nar .byte ((a3 >>> (0 &&& 31)).toInt8.toInt32))) (pv_se (pv_sn (by decide) (pv_se (pv_sn (by decide) (pv_se (pv_sn (by decide) (pv_se (pv_sn (by decide) (pv_se (pv_sn (by decide) (pv_se (pv_sn (by decide) (pv_se (pv_sn (by decide) (pv_se (pv_sn (by decide) (pv_se (pv_sn (by decide) (pv_se (pv_sn (by decide) (pv_se (pv_sn (by decide) (pv_se (pv_sn (by decide) e123)))))))))))))))))))))))) (pv_sn (by decide) (pv_se (pv_sn (by decide) (pv_se (pv_sn (by decide) (pv_se (pv_sn (by decide) (pv_se (pv_sn (by decide) (pv_se (pv_sn (by decide) (pv_se (pv_sn (by decide) (pv_se (pv_sn (by decide) (pv_se (pv_sn (by decide) (pv_se (pv_sn (by decide) (pv_se (pv_sn (by decide) (pv_se (pv_sn (by decide) (pv_se e129))))))))))))))))))))))))) rfl rfl (Nat.le_of_ble_eq_true rfl) (by decide) rfl rfl 36 rfl (pv_k0 ?_)
  refine pv_aload_n (M := mX12_feed) 0 dX12_feed_36 37 rfl rfl rfl ?_
  refine pv_iload (M := mX12_feed) dX12_feed_37 39 rfl rfl ?_
  refine pv_callv (M := mX12_feed) (as := [.int a5]) (st := []) (kc2 := 0) (ks2 := 0) dX12_feed_39 wd1405 YX12_types ⟨wd1407, wd58⟩ (pv_se (pv_sn (by decide) (pv_se (pv_sn (by decide) (pv_se (pv_sn (by decide) (pv_se (pv_sn (by decide) (pv_se (pv_sn (by decide) (pv_se (pv_sn (by decide) (pv_se (pv_sn (by decide) (pv_se (pv_sn (by decide) (pv_se (pv_sn (by decide) (pv_se (pv_sn (by decide) (pv_se (pv_sn (by decide) (pv_se (pv_sn (by decide) (pv_se (pv_sn (by decide) (pv_se (pv_sn (by decide) (pv_se (pv_sn (by decide) (pv_se (pv_sn (by decide) e123)))))))))))))))))))))))))))))))) rfl rfl (k_X12_types_5 g a5 (upd (upd (upd (upd (upd (upd (upd (upd (upd (upd (upd (upd (upd (upd (upd (upd (fun _ => 0) 0 (vp_nar .byte ((a1 >>> (24 &&& 31)).toInt8.toInt32))) 1 (vp_nar .byte ((a1 >>> (16 &&& 31)).toInt8.toInt32))) 2 (vp_nar .byte ((a1 >>> (8 &&& 31)).toInt8.toInt32))) 3 (vp_nar .byte ((a1 >>> (0 &&& 31)).toInt8.toInt32))) 4 (vp_nar .byte ((a2 >>> (24 &&& 31)).toInt8.toInt32))) 5 (vp_nar .byte ((a2 >>> (16 &&& 31)).toInt8.toInt32))) 6 (vp_nar .byte ((a2 >>> (8 &&& 31)).toInt8.toInt32))) 7 (vp_nar .byte ((a2 >>> (0 &&& 31)).toInt8.toInt32))) 8 (vp_nar .byte ((a3 >>> (24 &&& 31)).toInt8.toInt32))) 9 (vp_nar .byte ((a3 >>> (16 &&& 31)).toInt8.toInt32))) 10 (vp_nar .byte ((a3 >>> (8 &&& 31)).toInt8.toInt32))) 11 (vp_nar .byte ((a3 >>> (0 &&& 31)).toInt8.toInt32))) 12 (vp_nar .byte ((a4 >>> (24 &&& 31)).toInt8.toInt32))) 13 (vp_nar .byte ((a4 >>> (16 &&& 31)).toInt8.toInt32))) 14 (vp_nar .byte ((a4 >>> (8 &&& 31)).toInt8.toInt32))) 15 (vp_nar .byte ((a4 >>> (0 &&& 31)).toInt8.toInt32))) (pv_se (pv_sn (by decide) (pv_se (pv_sn (by decide) (pv_se (pv_sn (by decide) (pv_se (pv_sn (by decide) (pv_se (pv_sn (by decide) (pv_se (pv_sn (by decide) (pv_se (pv_sn (by decide) (pv_se (pv_sn (by decide) (pv_se (pv_sn (by decide) (pv_se (pv_sn (by decide) (pv_se (pv_sn (by decide) (pv_se (pv_sn (by decide) (pv_se (pv_sn (by decide) (pv_se (pv_sn (by decide) (pv_se (pv_sn (by decide) (pv_se (pv_sn (by decide) e123)))))))))))))))))))))))))))))))) (pv_sn (by decide) (pv_se (pv_sn (by decide) (pv_se (pv_sn (by decide) (pv_se (pv_sn (by decide) (pv_se (pv_sn (by decide) (pv_se (pv_sn (by decide) (pv_se (pv_sn (by decide) (pv_se (pv_sn (by decide) (pv_se (pv_sn (by decide) (pv_se (pv_sn (by decide) (pv_se (pv_sn (by decide) (pv_se (pv_sn (by decide) (pv_se (pv_sn (by decide) (pv_se (pv_sn (by decide) (pv_se (pv_sn (by decide) (pv_se (pv_sn (by decide) (pv_se e129))))))))))))))))))))))))))))))))) rfl rfl (Nat.le_of_ble_eq_true rfl) (by decide) rfl rfl 42 rfl (pv_k0 ?_)
  refine pv_aload_n (M := mX12_feed) 0 dX12_feed_42 43 rfl rfl rfl ?_
  refine pv_get (M := mX12_feed) dX12_feed_43 FX12 11 wd1184 (by decide) (pv_se (pv_sn (by decide) (pv_se (pv_sn (by decide) (pv_se (pv_sn (by decide) (pv_se (pv_sn (by decide) (pv_se (pv_sn (by decide) (pv_se (pv_sn (by decide) (pv_se (pv_sn (by decide) (pv_se (pv_sn (by decide) (pv_se (pv_sn (by decide) (pv_se (pv_sn (by decide) (pv_se (pv_sn (by decide) (pv_se (pv_sn (by decide) (pv_se (pv_sn (by decide) (pv_se (pv_sn (by decide) (pv_se (pv_sn (by decide) (pv_se (pv_sn (by decide) (pv_se (pv_sn (by decide) (pv_se (pv_sn (by decide) (pv_se (pv_sn (by decide) (pv_se (pv_sn (by decide) e123)))))))))))))))))))))))))))))))))))))))) rfl 46 rfl ?_
  exact pv_iret (M := mX12_feed) dX12_feed_46 rfl rfl ⟨rfl, rfl⟩

set_option maxHeartbeats 400000 in
set_option maxRecDepth 20000 in
theorem k_X12_in_2 (g : pv_G) {h : List pv_C} (a0 : Int32) : PM g mX12_in yX12_in (pv_is (some (.int (if a0 < 1 then 0 else (if 40 < a0 then 0 else 1)))) (h)) 1 0 0 [.int a0, .int 1, .int 40] h := by
  refine PM.of 0 (lo := [.int a0, .int 1, .int 40]) rfl (by decide) rfl rfl (Nat.le_of_ble_eq_true rfl) ?_
  refine pv_iload_n (M := mX12_in) 0 dX12_in_0 1 rfl rfl rfl ?_
  refine pv_iload_n (M := mX12_in) 1 dX12_in_1 2 rfl rfl rfl ?_
  refine pv_icmp_lt (M := mX12_in) (tgt := 14) dX12_in_2 5 rfl (by decide) (fun c1 => ?_) (fun c1 => ?_)
  · refine pv_iconst (M := mX12_in) (v := 0) dX12_in_14 15 rfl (by decide) ?_
    exact pv_iret (M := mX12_in) dX12_in_15 rfl rfl ⟨(by rw [if_pos c1] <;> rfl), rfl⟩
  · refine pv_iload_n (M := mX12_in) 0 dX12_in_5 6 rfl rfl rfl ?_
    refine pv_iload_n (M := mX12_in) 2 dX12_in_6 7 rfl rfl rfl ?_
    refine pv_icmp_gt (M := mX12_in) (tgt := 14) dX12_in_7 10 rfl (by decide) (fun c2 => ?_) (fun c2 => ?_)
    · refine pv_iconst (M := mX12_in) (v := 0) dX12_in_14 15 rfl (by decide) ?_
      exact pv_iret (M := mX12_in) dX12_in_15 rfl rfl ⟨(by rw [if_neg c1, if_pos c2] <;> rfl), rfl⟩
    · refine pv_iconst (M := mX12_in) (v := 1) dX12_in_10 11 rfl (by decide) ?_
      refine pv_goto (M := mX12_in) (tgt := 15) dX12_in_11 (by decide) ?_
      exact pv_iret (M := mX12_in) dX12_in_15 rfl rfl ⟨(by rw [if_neg c1, if_neg c2] <;> rfl), rfl⟩

set_option maxHeartbeats 400000 in
set_option maxRecDepth 20000 in
theorem k_X12_blank (g : pv_G) {h : List pv_C} (a1 : Int32) (e123 : h[123]? = some (pv_o 12 [.int 0, .int 0, .int 1, .int 0, .int 0, .ref 124, .ref 125, .ref 126, .ref 127, .ref 128, .ref 129, .int 0, .int 0, .int 0, .int 0, .int 0, .int 0, .int 0, .int 0, .int 0, .int 0, .ref 130, .ref 131, .ref 132, .ref 133, .ref 134, .ref 135, .ref 136, .ref 137, .ref 138, .ref 139, .ref 140, .ref 141, .ref 142, .ref 143, .ref 144, .ref 145, .ref 146, .ref 147, .ref 148, .int 0, .int 0, .ref 149, .ref 150, .ref 151, .ref 152, .ref 153, .ref 154, .ref 155, .ref 156, .int 0, .ref 157, .ref 158, .ref 159, .ref 160, .ref 161, .ref 162, .ref 163, .ref 164, .ref 165, .ref 166, .int 0, .ref 167, .ref 168])) : PM g mX12_blank yX12_blank (pv_is (some (.int (-1))) (h)) 2 0 0 [.ref 123, .int a1] h := by
  refine PM.of 1 (lo := [.ref 123, .int a1, pv_U]) rfl (by decide) rfl rfl (Nat.le_of_ble_eq_true rfl) ?_
  refine pv_iload_n (M := mX12_blank) 1 dX12_blank_0 1 rfl rfl rfl ?_
  refine pv_iconst (M := mX12_blank) (v := 1) dX12_blank_1 2 rfl (by decide) ?_
  refine pv_bipush (M := mX12_blank) (v := 40) dX12_blank_2 4 rfl (by decide) ?_
  refine pv_calls (M := mX12_blank) (as := [.int a1, .int 1, .int 40]) (st := []) (kc2 := 0) (ks2 := 0) dX12_blank_4 wd1370 YX12_in wd1371 (k_X12_in_2 g a1) rfl rfl (Nat.le_of_ble_eq_true rfl) (by decide) rfl rfl 7 rfl (pv_k1 ?_)
  by_cases c1 : a1 < 1
  · refine pv_top (M := mX12_blank) (if_pos c1) ?_
    refine pv_if_eq (M := mX12_blank) (tgt := 27) dX12_blank_7 10 rfl (by decide) (fun _ => ?_) (fun q => absurd (by decide) q)
    refine pv_iconst (M := mX12_blank) (v := (-1)) dX12_blank_27 28 rfl (by decide) ?_
    exact pv_iret (M := mX12_blank) dX12_blank_28 rfl rfl ⟨rfl, rfl⟩
  · refine pv_top (M := mX12_blank) (if_neg c1) ?_
    by_cases c2 : 40 < a1
    · refine pv_top (M := mX12_blank) (if_pos c2) ?_
      refine pv_if_eq (M := mX12_blank) (tgt := 27) dX12_blank_7 10 rfl (by decide) (fun _ => ?_) (fun q => absurd (by decide) q)
      refine pv_iconst (M := mX12_blank) (v := (-1)) dX12_blank_27 28 rfl (by decide) ?_
      exact pv_iret (M := mX12_blank) dX12_blank_28 rfl rfl ⟨rfl, rfl⟩
    · refine pv_top (M := mX12_blank) (if_neg c2) ?_
      refine pv_if_eq (M := mX12_blank) (tgt := 27) dX12_blank_7 10 rfl (by decide) (fun q => absurd q (by decide)) (fun _ => ?_)
      refine pv_aload_n (M := mX12_blank) 0 dX12_blank_10 11 rfl rfl rfl ?_
      refine pv_get (M := mX12_blank) dX12_blank_11 FX12 0 wd1173 (by decide) e123 rfl 14 rfl ?_
      refine pv_bipush (M := mX12_blank) (v := 8) dX12_blank_14 16 rfl (by decide) ?_
      refine pv_icmp_eq (M := mX12_blank) (tgt := 27) dX12_blank_16 19 rfl (by decide) (fun q => absurd q (by decide)) (fun _ => ?_)
      refine pv_iload_n (M := mX12_blank) 1 dX12_blank_19 20 rfl rfl rfl ?_
      refine pv_aload_n (M := mX12_blank) 0 dX12_blank_20 21 rfl rfl rfl ?_
      refine pv_get (M := mX12_blank) dX12_blank_21 FX12 11 wd1184 (by decide) e123 rfl 24 rfl ?_
      refine pv_icmp_le (M := mX12_blank) (tgt := 29) dX12_blank_24 27 rfl (by decide) (fun c3 => ?_) (fun c3 => ?_)
      · exact absurd (Int.le_trans (pv_b2 c1) (pv_b3 c3)) (by decide)
      · refine pv_iconst (M := mX12_blank) (v := (-1)) dX12_blank_27 28 rfl (by decide) ?_
        exact pv_iret (M := mX12_blank) dX12_blank_28 rfl rfl ⟨rfl, rfl⟩

set_option maxHeartbeats 400000 in
set_option maxRecDepth 20000 in
theorem k_X12_in_3 (g : pv_G) {h : List pv_C} (a0 : Int32) : PM g mX12_in yX12_in (pv_is (some (.int (if a0 < 0 then 0 else (if 7 < a0 then 0 else 1)))) (h)) 1 0 0 [.int a0, .int 0, .int 7] h := by
  refine PM.of 0 (lo := [.int a0, .int 0, .int 7]) rfl (by decide) rfl rfl (Nat.le_of_ble_eq_true rfl) ?_
  refine pv_iload_n (M := mX12_in) 0 dX12_in_0 1 rfl rfl rfl ?_
  refine pv_iload_n (M := mX12_in) 1 dX12_in_1 2 rfl rfl rfl ?_
  refine pv_icmp_lt (M := mX12_in) (tgt := 14) dX12_in_2 5 rfl (by decide) (fun c1 => ?_) (fun c1 => ?_)
  · refine pv_iconst (M := mX12_in) (v := 0) dX12_in_14 15 rfl (by decide) ?_
    exact pv_iret (M := mX12_in) dX12_in_15 rfl rfl ⟨(by rw [if_pos c1] <;> rfl), rfl⟩
  · refine pv_iload_n (M := mX12_in) 0 dX12_in_5 6 rfl rfl rfl ?_
    refine pv_iload_n (M := mX12_in) 2 dX12_in_6 7 rfl rfl rfl ?_
    refine pv_icmp_gt (M := mX12_in) (tgt := 14) dX12_in_7 10 rfl (by decide) (fun c2 => ?_) (fun c2 => ?_)
    · refine pv_iconst (M := mX12_in) (v := 0) dX12_in_14 15 rfl (by decide) ?_
      exact pv_iret (M := mX12_in) dX12_in_15 rfl rfl ⟨(by rw [if_neg c1, if_pos c2] <;> rfl), rfl⟩
    · refine pv_iconst (M := mX12_in) (v := 1) dX12_in_10 11 rfl (by decide) ?_
      refine pv_goto (M := mX12_in) (tgt := 15) dX12_in_11 (by decide) ?_
      exact pv_iret (M := mX12_in) dX12_in_15 rfl rfl ⟨(by rw [if_neg c1, if_neg c2] <;> rfl), rfl⟩

set_option maxHeartbeats 400000 in
set_option maxRecDepth 20000 in
theorem k_X12_in_4 (g : pv_G) {h : List pv_C} (a0 : Int32) : PM g mX12_in yX12_in (pv_is (some (.int (if a0 < 1 then 0 else (if 16 < a0 then 0 else 1)))) (h)) 1 0 0 [.int a0, .int 1, .int 16] h := by
  refine PM.of 0 (lo := [.int a0, .int 1, .int 16]) rfl (by decide) rfl rfl (Nat.le_of_ble_eq_true rfl) ?_
  refine pv_iload_n (M := mX12_in) 0 dX12_in_0 1 rfl rfl rfl ?_
  refine pv_iload_n (M := mX12_in) 1 dX12_in_1 2 rfl rfl rfl ?_
  refine pv_icmp_lt (M := mX12_in) (tgt := 14) dX12_in_2 5 rfl (by decide) (fun c1 => ?_) (fun c1 => ?_)
  · refine pv_iconst (M := mX12_in) (v := 0) dX12_in_14 15 rfl (by decide) ?_
    exact pv_iret (M := mX12_in) dX12_in_15 rfl rfl ⟨(by rw [if_pos c1] <;> rfl), rfl⟩
  · refine pv_iload_n (M := mX12_in) 0 dX12_in_5 6 rfl rfl rfl ?_
    refine pv_iload_n (M := mX12_in) 2 dX12_in_6 7 rfl rfl rfl ?_
    refine pv_icmp_gt (M := mX12_in) (tgt := 14) dX12_in_7 10 rfl (by decide) (fun c2 => ?_) (fun c2 => ?_)
    · refine pv_iconst (M := mX12_in) (v := 0) dX12_in_14 15 rfl (by decide) ?_
      exact pv_iret (M := mX12_in) dX12_in_15 rfl rfl ⟨(by rw [if_neg c1, if_pos c2] <;> rfl), rfl⟩
    · refine pv_iconst (M := mX12_in) (v := 1) dX12_in_10 11 rfl (by decide) ?_
      refine pv_goto (M := mX12_in) (tgt := 15) dX12_in_11 (by decide) ?_
      exact pv_iret (M := mX12_in) dX12_in_15 rfl rfl ⟨(by rw [if_neg c1, if_neg c2] <;> rfl), rfl⟩

set_option maxHeartbeats 400000 in
set_option maxRecDepth 20000 in
theorem k_X12_deed (g : pv_G) {h : List pv_C} (a1 : Int32) (a2 : Int32) (e123 : h[123]? = some (pv_o 12 [.int 0, .int 0, .int 1, .int 0, .int 0, .ref 124, .ref 125, .ref 126, .ref 127, .ref 128, .ref 129, .int 0, .int 0, .int 0, .int 0, .int 0, .int 0, .int 0, .int 0, .int 0, .int 0, .ref 130, .ref 131, .ref 132, .ref 133, .ref 134, .ref 135, .ref 136, .ref 137, .ref 138, .ref 139, .ref 140, .ref 141, .ref 142, .ref 143, .ref 144, .ref 145, .ref 146, .ref 147, .ref 148, .int 0, .int 0, .ref 149, .ref 150, .ref 151, .ref 152, .ref 153, .ref 154, .ref 155, .ref 156, .int 0, .ref 157, .ref 158, .ref 159, .ref 160, .ref 161, .ref 162, .ref 163, .ref 164, .ref 165, .ref 166, .int 0, .ref 167, .ref 168])) : PM g mX12_deed yX12_deed (pv_is (some (.int (-1))) (h)) 2 0 0 [.ref 123, .int a1, .int a2] h := by
  refine PM.of 1 (lo := [.ref 123, .int a1, .int a2, pv_U]) rfl (by decide) rfl rfl (Nat.le_of_ble_eq_true rfl) ?_
  refine pv_iload_n (M := mX12_deed) 1 dX12_deed_0 1 rfl rfl rfl ?_
  refine pv_iconst (M := mX12_deed) (v := 0) dX12_deed_1 2 rfl (by decide) ?_
  refine pv_bipush (M := mX12_deed) (v := 7) dX12_deed_2 4 rfl (by decide) ?_
  refine pv_calls (M := mX12_deed) (as := [.int a1, .int 0, .int 7]) (st := []) (kc2 := 0) (ks2 := 0) dX12_deed_4 wd1370 YX12_in wd1371 (k_X12_in_3 g a1) rfl rfl (Nat.le_of_ble_eq_true rfl) (by decide) rfl rfl 7 rfl (pv_k1 ?_)
  by_cases c1 : a1 < 0
  · refine pv_top (M := mX12_deed) (if_pos c1) ?_
    refine pv_if_eq (M := mX12_deed) (tgt := 28) dX12_deed_7 10 rfl (by decide) (fun _ => ?_) (fun q => absurd (by decide) q)
    refine pv_iconst (M := mX12_deed) (v := (-1)) dX12_deed_28 29 rfl (by decide) ?_
    exact pv_iret (M := mX12_deed) dX12_deed_29 rfl rfl ⟨rfl, rfl⟩
  · refine pv_top (M := mX12_deed) (if_neg c1) ?_
    by_cases c2 : 7 < a1
    · refine pv_top (M := mX12_deed) (if_pos c2) ?_
      refine pv_if_eq (M := mX12_deed) (tgt := 28) dX12_deed_7 10 rfl (by decide) (fun _ => ?_) (fun q => absurd (by decide) q)
      refine pv_iconst (M := mX12_deed) (v := (-1)) dX12_deed_28 29 rfl (by decide) ?_
      exact pv_iret (M := mX12_deed) dX12_deed_29 rfl rfl ⟨rfl, rfl⟩
    · refine pv_top (M := mX12_deed) (if_neg c2) ?_
      refine pv_if_eq (M := mX12_deed) (tgt := 28) dX12_deed_7 10 rfl (by decide) (fun q => absurd q (by decide)) (fun _ => ?_)
      refine pv_iload_n (M := mX12_deed) 2 dX12_deed_10 11 rfl rfl rfl ?_
      refine pv_iconst (M := mX12_deed) (v := 1) dX12_deed_11 12 rfl (by decide) ?_
      refine pv_bipush (M := mX12_deed) (v := 16) dX12_deed_12 14 rfl (by decide) ?_
      refine pv_calls (M := mX12_deed) (as := [.int a2, .int 1, .int 16]) (st := []) (kc2 := 0) (ks2 := 0) dX12_deed_14 wd1370 YX12_in wd1371 (k_X12_in_4 g a2) rfl rfl (Nat.le_of_ble_eq_true rfl) (by decide) rfl rfl 17 rfl (pv_k1 ?_)
      by_cases c3 : a2 < 1
      · refine pv_top (M := mX12_deed) (if_pos c3) ?_
        refine pv_if_eq (M := mX12_deed) (tgt := 28) dX12_deed_17 20 rfl (by decide) (fun _ => ?_) (fun q => absurd (by decide) q)
        refine pv_iconst (M := mX12_deed) (v := (-1)) dX12_deed_28 29 rfl (by decide) ?_
        exact pv_iret (M := mX12_deed) dX12_deed_29 rfl rfl ⟨rfl, rfl⟩
      · refine pv_top (M := mX12_deed) (if_neg c3) ?_
        by_cases c4 : 16 < a2
        · refine pv_top (M := mX12_deed) (if_pos c4) ?_
          refine pv_if_eq (M := mX12_deed) (tgt := 28) dX12_deed_17 20 rfl (by decide) (fun _ => ?_) (fun q => absurd (by decide) q)
          refine pv_iconst (M := mX12_deed) (v := (-1)) dX12_deed_28 29 rfl (by decide) ?_
          exact pv_iret (M := mX12_deed) dX12_deed_29 rfl rfl ⟨rfl, rfl⟩
        · refine pv_top (M := mX12_deed) (if_neg c4) ?_
          refine pv_if_eq (M := mX12_deed) (tgt := 28) dX12_deed_17 20 rfl (by decide) (fun q => absurd q (by decide)) (fun _ => ?_)
          refine pv_iload_n (M := mX12_deed) 2 dX12_deed_20 21 rfl rfl rfl ?_
          refine pv_aload_n (M := mX12_deed) 0 dX12_deed_21 22 rfl rfl rfl ?_
          refine pv_get (M := mX12_deed) dX12_deed_22 FX12 11 wd1184 (by decide) e123 rfl 25 rfl ?_
          refine pv_icmp_le (M := mX12_deed) (tgt := 30) dX12_deed_25 28 rfl (by decide) (fun c5 => ?_) (fun c5 => ?_)
          · exact absurd (Int.le_trans (pv_b2 c3) (pv_b3 c5)) (by decide)
          · refine pv_iconst (M := mX12_deed) (v := (-1)) dX12_deed_28 29 rfl (by decide) ?_
            exact pv_iret (M := mX12_deed) dX12_deed_29 rfl rfl ⟨rfl, rfl⟩

set_option maxHeartbeats 400000 in
set_option maxRecDepth 20000 in
theorem k_X12_in_5 (g : pv_G) {h : List pv_C} (a0 : Int32) : PM g mX12_in yX12_in (pv_is (some (.int (if a0 < 1 then 0 else (if 160 < a0 then 0 else 1)))) (h)) 1 0 0 [.int a0, .int 1, .int 160] h := by
  refine PM.of 0 (lo := [.int a0, .int 1, .int 160]) rfl (by decide) rfl rfl (Nat.le_of_ble_eq_true rfl) ?_
  refine pv_iload_n (M := mX12_in) 0 dX12_in_0 1 rfl rfl rfl ?_
  refine pv_iload_n (M := mX12_in) 1 dX12_in_1 2 rfl rfl rfl ?_
  refine pv_icmp_lt (M := mX12_in) (tgt := 14) dX12_in_2 5 rfl (by decide) (fun c1 => ?_) (fun c1 => ?_)
  · refine pv_iconst (M := mX12_in) (v := 0) dX12_in_14 15 rfl (by decide) ?_
    exact pv_iret (M := mX12_in) dX12_in_15 rfl rfl ⟨(by rw [if_pos c1] <;> rfl), rfl⟩
  · refine pv_iload_n (M := mX12_in) 0 dX12_in_5 6 rfl rfl rfl ?_
    refine pv_iload_n (M := mX12_in) 2 dX12_in_6 7 rfl rfl rfl ?_
    refine pv_icmp_gt (M := mX12_in) (tgt := 14) dX12_in_7 10 rfl (by decide) (fun c2 => ?_) (fun c2 => ?_)
    · refine pv_iconst (M := mX12_in) (v := 0) dX12_in_14 15 rfl (by decide) ?_
      exact pv_iret (M := mX12_in) dX12_in_15 rfl rfl ⟨(by rw [if_neg c1, if_pos c2] <;> rfl), rfl⟩
    · refine pv_iconst (M := mX12_in) (v := 1) dX12_in_10 11 rfl (by decide) ?_
      refine pv_goto (M := mX12_in) (tgt := 15) dX12_in_11 (by decide) ?_
      exact pv_iret (M := mX12_in) dX12_in_15 rfl rfl ⟨(by rw [if_neg c1, if_neg c2] <;> rfl), rfl⟩

set_option maxHeartbeats 400000 in
set_option maxRecDepth 20000 in
theorem k_X12_law (g : pv_G) {h : List pv_C} (a1 : Int32) (e123 : h[123]? = some (pv_o 12 [.int 0, .int 0, .int 1, .int 0, .int 0, .ref 124, .ref 125, .ref 126, .ref 127, .ref 128, .ref 129, .int 0, .int 0, .int 0, .int 0, .int 0, .int 0, .int 0, .int 0, .int 0, .int 0, .ref 130, .ref 131, .ref 132, .ref 133, .ref 134, .ref 135, .ref 136, .ref 137, .ref 138, .ref 139, .ref 140, .ref 141, .ref 142, .ref 143, .ref 144, .ref 145, .ref 146, .ref 147, .ref 148, .int 0, .int 0, .ref 149, .ref 150, .ref 151, .ref 152, .ref 153, .ref 154, .ref 155, .ref 156, .int 0, .ref 157, .ref 158, .ref 159, .ref 160, .ref 161, .ref 162, .ref 163, .ref 164, .ref 165, .ref 166, .int 0, .ref 167, .ref 168])) : PM g mX12_law yX12_law (pv_is (some (.int (-1))) (h)) 2 0 0 [.ref 123, .int a1] h := by
  refine PM.of 2 (lo := [.ref 123, .int a1, pv_U, pv_U]) rfl (by decide) rfl rfl (Nat.le_of_ble_eq_true rfl) ?_
  refine pv_iload_n (M := mX12_law) 1 dX12_law_0 1 rfl rfl rfl ?_
  refine pv_iconst (M := mX12_law) (v := 1) dX12_law_1 2 rfl (by decide) ?_
  refine pv_sipush (M := mX12_law) (v := 160) dX12_law_2 5 rfl (by decide) ?_
  refine pv_calls (M := mX12_law) (as := [.int a1, .int 1, .int 160]) (st := []) (kc2 := 0) (ks2 := 0) dX12_law_5 wd1370 YX12_in wd1371 (k_X12_in_5 g a1) rfl rfl (Nat.le_of_ble_eq_true rfl) (by decide) rfl rfl 8 rfl (pv_k1 ?_)
  by_cases c1 : a1 < 1
  · refine pv_top (M := mX12_law) (if_pos c1) ?_
    refine pv_if_eq (M := mX12_law) (tgt := 19) dX12_law_8 11 rfl (by decide) (fun _ => ?_) (fun q => absurd (by decide) q)
    refine pv_iconst (M := mX12_law) (v := (-1)) dX12_law_19 20 rfl (by decide) ?_
    exact pv_iret (M := mX12_law) dX12_law_20 rfl rfl ⟨rfl, rfl⟩
  · refine pv_top (M := mX12_law) (if_neg c1) ?_
    by_cases c2 : 160 < a1
    · refine pv_top (M := mX12_law) (if_pos c2) ?_
      refine pv_if_eq (M := mX12_law) (tgt := 19) dX12_law_8 11 rfl (by decide) (fun _ => ?_) (fun q => absurd (by decide) q)
      refine pv_iconst (M := mX12_law) (v := (-1)) dX12_law_19 20 rfl (by decide) ?_
      exact pv_iret (M := mX12_law) dX12_law_20 rfl rfl ⟨rfl, rfl⟩
    · refine pv_top (M := mX12_law) (if_neg c2) ?_
      refine pv_if_eq (M := mX12_law) (tgt := 19) dX12_law_8 11 rfl (by decide) (fun q => absurd q (by decide)) (fun _ => ?_)
      refine pv_iload_n (M := mX12_law) 1 dX12_law_11 12 rfl rfl rfl ?_
      refine pv_aload_n (M := mX12_law) 0 dX12_law_12 13 rfl rfl rfl ?_
      refine pv_get (M := mX12_law) dX12_law_13 FX12 11 wd1184 (by decide) e123 rfl 16 rfl ?_
      refine pv_icmp_le (M := mX12_law) (tgt := 21) dX12_law_16 19 rfl (by decide) (fun c3 => ?_) (fun c3 => ?_)
      · exact absurd (Int.le_trans (pv_b2 c1) (pv_b3 c3)) (by decide)
      · refine pv_iconst (M := mX12_law) (v := (-1)) dX12_law_19 20 rfl (by decide) ?_
        exact pv_iret (M := mX12_law) dX12_law_20 rfl rfl ⟨rfl, rfl⟩

set_option maxHeartbeats 400000 in
set_option maxRecDepth 20000 in
theorem k_X12_isBlank (g : pv_G) {h : List pv_C} (a1 : Int32) (e123 : h[123]? = some (pv_o 12 [.int 0, .int 0, .int 1, .int 0, .int 0, .ref 124, .ref 125, .ref 126, .ref 127, .ref 128, .ref 129, .int 0, .int 0, .int 0, .int 0, .int 0, .int 0, .int 0, .int 0, .int 0, .int 0, .ref 130, .ref 131, .ref 132, .ref 133, .ref 134, .ref 135, .ref 136, .ref 137, .ref 138, .ref 139, .ref 140, .ref 141, .ref 142, .ref 143, .ref 144, .ref 145, .ref 146, .ref 147, .ref 148, .int 0, .int 0, .ref 149, .ref 150, .ref 151, .ref 152, .ref 153, .ref 154, .ref 155, .ref 156, .int 0, .ref 157, .ref 158, .ref 159, .ref 160, .ref 161, .ref 162, .ref 163, .ref 164, .ref 165, .ref 166, .int 0, .ref 167, .ref 168])) : PM g mX12_isBlank yX12_isBlank (pv_is (some (.int 0)) (h)) 1 0 0 [.ref 123, .int a1] h := by
  refine PM.of 0 (lo := [.ref 123, .int a1]) rfl (by decide) rfl rfl (Nat.le_of_ble_eq_true rfl) ?_
  refine pv_iload_n (M := mX12_isBlank) 1 dX12_isBlank_0 1 rfl rfl rfl ?_
  refine pv_if_lt (M := mX12_isBlank) (tgt := 16) dX12_isBlank_1 4 rfl (by decide) (fun c1 => ?_) (fun c1 => ?_)
  · refine pv_iconst (M := mX12_isBlank) (v := 0) dX12_isBlank_16 17 rfl (by decide) ?_
    exact pv_iret (M := mX12_isBlank) dX12_isBlank_17 rfl rfl ⟨rfl, rfl⟩
  · refine pv_iload_n (M := mX12_isBlank) 1 dX12_isBlank_4 5 rfl rfl rfl ?_
    refine pv_aload_n (M := mX12_isBlank) 0 dX12_isBlank_5 6 rfl rfl rfl ?_
    refine pv_get (M := mX12_isBlank) dX12_isBlank_6 FX12 0 wd1173 (by decide) e123 rfl 9 rfl ?_
    refine pv_icmp_ge (M := mX12_isBlank) (tgt := 16) dX12_isBlank_9 12 rfl (by decide) (fun c2 => ?_) (fun c2 => ?_)
    · refine pv_iconst (M := mX12_isBlank) (v := 0) dX12_isBlank_16 17 rfl (by decide) ?_
      exact pv_iret (M := mX12_isBlank) dX12_isBlank_17 rfl rfl ⟨rfl, rfl⟩
    · exact absurd (Int.le_trans (pv_b2 c1) (pv_b8 c2)) (by decide)

set_option maxHeartbeats 400000 in
set_option maxRecDepth 20000 in
theorem k_X12_left (g : pv_G) {h : List pv_C} (a1 : Int32) (a2 : Int32) (a3 : Int32) (e123 : h[123]? = some (pv_o 12 [.int 0, .int 0, .int 1, .int 0, .int 0, .ref 124, .ref 125, .ref 126, .ref 127, .ref 128, .ref 129, .int 0, .int 0, .int 0, .int 0, .int 0, .int 0, .int 0, .int 0, .int 0, .int 0, .ref 130, .ref 131, .ref 132, .ref 133, .ref 134, .ref 135, .ref 136, .ref 137, .ref 138, .ref 139, .ref 140, .ref 141, .ref 142, .ref 143, .ref 144, .ref 145, .ref 146, .ref 147, .ref 148, .int 0, .int 0, .ref 149, .ref 150, .ref 151, .ref 152, .ref 153, .ref 154, .ref 155, .ref 156, .int 0, .ref 157, .ref 158, .ref 159, .ref 160, .ref 161, .ref 162, .ref 163, .ref 164, .ref 165, .ref 166, .int 0, .ref 167, .ref 168])) : PM g mX12_left yX12_left (pv_is (some (.int (-1))) (h)) 2 0 0 [.ref 123, .int a1, .int a2, .int a3] h := by
  refine PM.of 1 (lo := [.ref 123, .int a1, .int a2, .int a3, pv_U]) rfl (by decide) rfl rfl (Nat.le_of_ble_eq_true rfl) ?_
  refine pv_aload_n (M := mX12_left) 0 dX12_left_0 1 rfl rfl rfl ?_
  refine pv_iload_n (M := mX12_left) 1 dX12_left_1 2 rfl rfl rfl ?_
  refine pv_callv (M := mX12_left) (as := [.int a1]) (st := []) (kc2 := 0) (ks2 := 0) dX12_left_2 wd1389 YX12_isBlank ⟨wd1391, wd55⟩ e123 rfl rfl (k_X12_isBlank g a1 e123) rfl rfl (Nat.le_of_ble_eq_true rfl) (by decide) rfl rfl 5 rfl (pv_k1 ?_)
  refine pv_if_eq (M := mX12_left) (tgt := 30) dX12_left_5 8 rfl (by decide) (fun _ => ?_) (fun q => absurd (by decide) q)
  refine pv_iconst (M := mX12_left) (v := (-1)) dX12_left_30 31 rfl (by decide) ?_
  exact pv_iret (M := mX12_left) dX12_left_31 rfl rfl ⟨rfl, rfl⟩

set_option maxHeartbeats 400000 in
set_option maxRecDepth 20000 in
theorem k_X12_may (g : pv_G) {h : List pv_C} (a1 : Int32) (a2 : Int32) (a3 : Int32) (a4 : Int32) (e123 : h[123]? = some (pv_o 12 [.int 0, .int 0, .int 1, .int 0, .int 0, .ref 124, .ref 125, .ref 126, .ref 127, .ref 128, .ref 129, .int 0, .int 0, .int 0, .int 0, .int 0, .int 0, .int 0, .int 0, .int 0, .int 0, .ref 130, .ref 131, .ref 132, .ref 133, .ref 134, .ref 135, .ref 136, .ref 137, .ref 138, .ref 139, .ref 140, .ref 141, .ref 142, .ref 143, .ref 144, .ref 145, .ref 146, .ref 147, .ref 148, .int 0, .int 0, .ref 149, .ref 150, .ref 151, .ref 152, .ref 153, .ref 154, .ref 155, .ref 156, .int 0, .ref 157, .ref 158, .ref 159, .ref 160, .ref 161, .ref 162, .ref 163, .ref 164, .ref 165, .ref 166, .int 0, .ref 167, .ref 168])) : PM g mX12_may yX12_may (pv_is (some (.int (-1))) (h)) 2 0 0 [.ref 123, .int a1, .int a2, .int a3, .int a4] h := by
  refine PM.of 0 (lo := [.ref 123, .int a1, .int a2, .int a3, .int a4]) rfl (by decide) rfl rfl (Nat.le_of_ble_eq_true rfl) ?_
  refine pv_aload_n (M := mX12_may) 0 dX12_may_0 1 rfl rfl rfl ?_
  refine pv_iload_n (M := mX12_may) 1 dX12_may_1 2 rfl rfl rfl ?_
  refine pv_callv (M := mX12_may) (as := [.int a1]) (st := []) (kc2 := 0) (ks2 := 0) dX12_may_2 wd1389 YX12_isBlank ⟨wd1391, wd55⟩ e123 rfl rfl (k_X12_isBlank g a1 e123) rfl rfl (Nat.le_of_ble_eq_true rfl) (by decide) rfl rfl 5 rfl (pv_k1 ?_)
  refine pv_if_eq (M := mX12_may) (tgt := 38) dX12_may_5 8 rfl (by decide) (fun _ => ?_) (fun q => absurd (by decide) q)
  refine pv_iconst (M := mX12_may) (v := (-1)) dX12_may_38 39 rfl (by decide) ?_
  exact pv_iret (M := mX12_may) dX12_may_39 rfl rfl ⟨rfl, rfl⟩

set_option maxHeartbeats 400000 in
set_option maxRecDepth 20000 in
theorem k_X12_strike (g : pv_G) {h : List pv_C} (a1 : Int32) (a2 : Int32) (a3 : Int32) (a4 : Int32) (e123 : h[123]? = some (pv_o 12 [.int 0, .int 0, .int 1, .int 0, .int 0, .ref 124, .ref 125, .ref 126, .ref 127, .ref 128, .ref 129, .int 0, .int 0, .int 0, .int 0, .int 0, .int 0, .int 0, .int 0, .int 0, .int 0, .ref 130, .ref 131, .ref 132, .ref 133, .ref 134, .ref 135, .ref 136, .ref 137, .ref 138, .ref 139, .ref 140, .ref 141, .ref 142, .ref 143, .ref 144, .ref 145, .ref 146, .ref 147, .ref 148, .int 0, .int 0, .ref 149, .ref 150, .ref 151, .ref 152, .ref 153, .ref 154, .ref 155, .ref 156, .int 0, .ref 157, .ref 158, .ref 159, .ref 160, .ref 161, .ref 162, .ref 163, .ref 164, .ref 165, .ref 166, .int 0, .ref 167, .ref 168])) : PM g mX12_strike yX12_strike (pv_is (some (.int (-1))) (h)) 2 0 0 [.ref 123, .int a1, .int a2, .int a3, .int a4] h := by
  refine PM.of 2 (lo := [.ref 123, .int a1, .int a2, .int a3, .int a4, pv_U, pv_U]) rfl (by decide) rfl rfl (Nat.le_of_ble_eq_true rfl) ?_
  refine pv_aload_n (M := mX12_strike) 0 dX12_strike_0 1 rfl rfl rfl ?_
  refine pv_iload_n (M := mX12_strike) 1 dX12_strike_1 2 rfl rfl rfl ?_
  refine pv_callv (M := mX12_strike) (as := [.int a1]) (st := []) (kc2 := 0) (ks2 := 0) dX12_strike_2 wd1389 YX12_isBlank ⟨wd1391, wd55⟩ e123 rfl rfl (k_X12_isBlank g a1 e123) rfl rfl (Nat.le_of_ble_eq_true rfl) (by decide) rfl rfl 5 rfl (pv_k1 ?_)
  refine pv_if_eq (M := mX12_strike) (tgt := 41) dX12_strike_5 8 rfl (by decide) (fun _ => ?_) (fun q => absurd (by decide) q)
  refine pv_iconst (M := mX12_strike) (v := (-1)) dX12_strike_41 42 rfl (by decide) ?_
  exact pv_iret (M := mX12_strike) dX12_strike_42 rfl rfl ⟨rfl, rfl⟩

set_option maxHeartbeats 400000 in
set_option maxRecDepth 20000 in
theorem k_X12_back (g : pv_G) {h : List pv_C} (a1 : Int32) (e123 : h[123]? = some (pv_o 12 [.int 0, .int 0, .int 1, .int 0, .int 0, .ref 124, .ref 125, .ref 126, .ref 127, .ref 128, .ref 129, .int 0, .int 0, .int 0, .int 0, .int 0, .int 0, .int 0, .int 0, .int 0, .int 0, .ref 130, .ref 131, .ref 132, .ref 133, .ref 134, .ref 135, .ref 136, .ref 137, .ref 138, .ref 139, .ref 140, .ref 141, .ref 142, .ref 143, .ref 144, .ref 145, .ref 146, .ref 147, .ref 148, .int 0, .int 0, .ref 149, .ref 150, .ref 151, .ref 152, .ref 153, .ref 154, .ref 155, .ref 156, .int 0, .ref 157, .ref 158, .ref 159, .ref 160, .ref 161, .ref 162, .ref 163, .ref 164, .ref 165, .ref 166, .int 0, .ref 167, .ref 168])) : PM g mX12_back yX12_back (pv_is (some (.int (-1))) (h)) 2 0 0 [.ref 123, .int a1] h := by
  refine PM.of 3 (lo := [.ref 123, .int a1, pv_U, pv_U, pv_U]) rfl (by decide) rfl rfl (Nat.le_of_ble_eq_true rfl) ?_
  refine pv_aload_n (M := mX12_back) 0 dX12_back_0 1 rfl rfl rfl ?_
  refine pv_iload_n (M := mX12_back) 1 dX12_back_1 2 rfl rfl rfl ?_
  refine pv_callv (M := mX12_back) (as := [.int a1]) (st := []) (kc2 := 0) (ks2 := 0) dX12_back_2 wd1389 YX12_isBlank ⟨wd1391, wd55⟩ e123 rfl rfl (k_X12_isBlank g a1 e123) rfl rfl (Nat.le_of_ble_eq_true rfl) (by decide) rfl rfl 5 rfl (pv_k1 ?_)
  refine pv_if_ne (M := mX12_back) (tgt := 10) dX12_back_5 8 rfl (by decide) (fun q => absurd (by decide) q) (fun _ => ?_)
  refine pv_iconst (M := mX12_back) (v := (-1)) dX12_back_8 9 rfl (by decide) ?_
  exact pv_iret (M := mX12_back) dX12_back_9 rfl rfl ⟨rfl, rfl⟩

set_option maxHeartbeats 400000 in
set_option maxRecDepth 20000 in
theorem k_X12_book (g : pv_G) {h : List pv_C} (a1 : Int32) (a2 : Int32) (e123 : h[123]? = some (pv_o 12 [.int 0, .int 0, .int 1, .int 0, .int 0, .ref 124, .ref 125, .ref 126, .ref 127, .ref 128, .ref 129, .int 0, .int 0, .int 0, .int 0, .int 0, .int 0, .int 0, .int 0, .int 0, .int 0, .ref 130, .ref 131, .ref 132, .ref 133, .ref 134, .ref 135, .ref 136, .ref 137, .ref 138, .ref 139, .ref 140, .ref 141, .ref 142, .ref 143, .ref 144, .ref 145, .ref 146, .ref 147, .ref 148, .int 0, .int 0, .ref 149, .ref 150, .ref 151, .ref 152, .ref 153, .ref 154, .ref 155, .ref 156, .int 0, .ref 157, .ref 158, .ref 159, .ref 160, .ref 161, .ref 162, .ref 163, .ref 164, .ref 165, .ref 166, .int 0, .ref 167, .ref 168])) : PM g mX12_book yX12_book (pv_is (some (.int (-1000))) (h)) 1 0 0 [.ref 123, .int a1, .int a2] h := by
  refine PM.of 0 (lo := [.ref 123, .int a1, .int a2]) rfl (by decide) rfl rfl (Nat.le_of_ble_eq_true rfl) ?_
  refine pv_iload_n (M := mX12_book) 1 dX12_book_0 1 rfl rfl rfl ?_
  refine pv_if_lt (M := mX12_book) (tgt := 12) dX12_book_1 4 rfl (by decide) (fun c1 => ?_) (fun c1 => ?_)
  · refine pv_sipush (M := mX12_book) (v := (-1000)) dX12_book_12 15 rfl (by decide) ?_
    exact pv_iret (M := mX12_book) dX12_book_15 rfl rfl ⟨rfl, rfl⟩
  · refine pv_iload_n (M := mX12_book) 1 dX12_book_4 5 rfl rfl rfl ?_
    refine pv_aload_n (M := mX12_book) 0 dX12_book_5 6 rfl rfl rfl ?_
    refine pv_get (M := mX12_book) dX12_book_6 FX12 3 wd1176 (by decide) e123 rfl 9 rfl ?_
    refine pv_icmp_lt (M := mX12_book) (tgt := 16) dX12_book_9 12 rfl (by decide) (fun c2 => ?_) (fun c2 => ?_)
    · exact absurd (Int.le_trans (pv_b2 c1) (pv_b1 c2)) (by decide)
    · refine pv_sipush (M := mX12_book) (v := (-1000)) dX12_book_12 15 rfl (by decide) ?_
      exact pv_iret (M := mX12_book) dX12_book_15 rfl rfl ⟨rfl, rfl⟩

set_option maxHeartbeats 400000 in
set_option maxRecDepth 20000 in
theorem k_X12_isAsked (g : pv_G) {h : List pv_C} (a1 : Int32) (a2 : Int32) (e123 : h[123]? = some (pv_o 12 [.int 0, .int 0, .int 1, .int 0, .int 0, .ref 124, .ref 125, .ref 126, .ref 127, .ref 128, .ref 129, .int 0, .int 0, .int 0, .int 0, .int 0, .int 0, .int 0, .int 0, .int 0, .int 0, .ref 130, .ref 131, .ref 132, .ref 133, .ref 134, .ref 135, .ref 136, .ref 137, .ref 138, .ref 139, .ref 140, .ref 141, .ref 142, .ref 143, .ref 144, .ref 145, .ref 146, .ref 147, .ref 148, .int 0, .int 0, .ref 149, .ref 150, .ref 151, .ref 152, .ref 153, .ref 154, .ref 155, .ref 156, .int 0, .ref 157, .ref 158, .ref 159, .ref 160, .ref 161, .ref 162, .ref 163, .ref 164, .ref 165, .ref 166, .int 0, .ref 167, .ref 168])) : PM g mX12_isAsked yX12_isAsked (pv_is (some (.int 0)) (h)) 2 0 0 [.ref 123, .int a1, .int a2] h := by
  refine PM.of 0 (lo := [.ref 123, .int a1, .int a2]) rfl (by decide) rfl rfl (Nat.le_of_ble_eq_true rfl) ?_
  refine pv_aload_n (M := mX12_isAsked) 0 dX12_isAsked_0 1 rfl rfl rfl ?_
  refine pv_iload_n (M := mX12_isAsked) 1 dX12_isAsked_1 2 rfl rfl rfl ?_
  refine pv_callv (M := mX12_isAsked) (as := [.int a1]) (st := []) (kc2 := 0) (ks2 := 0) dX12_isAsked_2 wd1389 YX12_isBlank ⟨wd1391, wd55⟩ e123 rfl rfl (k_X12_isBlank g a1 e123) rfl rfl (Nat.le_of_ble_eq_true rfl) (by decide) rfl rfl 5 rfl (pv_k1 ?_)
  refine pv_if_eq (M := mX12_isAsked) (tgt := 20) dX12_isAsked_5 8 rfl (by decide) (fun _ => ?_) (fun q => absurd (by decide) q)
  refine pv_iconst (M := mX12_isAsked) (v := 0) dX12_isAsked_20 21 rfl (by decide) ?_
  exact pv_iret (M := mX12_isAsked) dX12_isAsked_21 rfl rfl ⟨rfl, rfl⟩

set_option maxHeartbeats 400000 in
set_option maxRecDepth 20000 in
theorem k_X12_ways (g : pv_G) {h : List pv_C} (a1 : Int32) (a2 : Int32) (e123 : h[123]? = some (pv_o 12 [.int 0, .int 0, .int 1, .int 0, .int 0, .ref 124, .ref 125, .ref 126, .ref 127, .ref 128, .ref 129, .int 0, .int 0, .int 0, .int 0, .int 0, .int 0, .int 0, .int 0, .int 0, .int 0, .ref 130, .ref 131, .ref 132, .ref 133, .ref 134, .ref 135, .ref 136, .ref 137, .ref 138, .ref 139, .ref 140, .ref 141, .ref 142, .ref 143, .ref 144, .ref 145, .ref 146, .ref 147, .ref 148, .int 0, .int 0, .ref 149, .ref 150, .ref 151, .ref 152, .ref 153, .ref 154, .ref 155, .ref 156, .int 0, .ref 157, .ref 158, .ref 159, .ref 160, .ref 161, .ref 162, .ref 163, .ref 164, .ref 165, .ref 166, .int 0, .ref 167, .ref 168])) : PM g mX12_ways yX12_ways (pv_is (some (.long (-1))) (h)) 3 0 0 [.ref 123, .int a1, .int a2] h := by
  refine PM.of 2 (lo := [.ref 123, .int a1, .int a2, pv_U, pv_U]) rfl (by decide) rfl rfl (Nat.le_of_ble_eq_true rfl) ?_
  refine pv_aload_n (M := mX12_ways) 0 dX12_ways_0 1 rfl rfl rfl ?_
  refine pv_iload_n (M := mX12_ways) 1 dX12_ways_1 2 rfl rfl rfl ?_
  refine pv_iload_n (M := mX12_ways) 2 dX12_ways_2 3 rfl rfl rfl ?_
  refine pv_callv (M := mX12_ways) (as := [.int a1, .int a2]) (st := []) (kc2 := 0) (ks2 := 0) dX12_ways_3 wd1554 YX12_isAsked ⟨wd1556, wd86⟩ e123 rfl rfl (k_X12_isAsked g a1 a2 e123) rfl rfl (Nat.le_of_ble_eq_true rfl) (by decide) rfl rfl 6 rfl (pv_k1 ?_)
  refine pv_if_ne (M := mX12_ways) (tgt := 13) dX12_ways_6 9 rfl (by decide) (fun q => absurd (by decide) q) (fun _ => ?_)
  refine pv_ldc2 (M := mX12_ways) (v := (-1)) dX12_ways_9 12 rfl wd1562 ?_
  exact pv_lret (M := mX12_ways) dX12_ways_12 rfl ⟨rfl, rfl⟩

set_option maxHeartbeats 400000 in
set_option maxRecDepth 20000 in
theorem k_X12_cheapest (g : pv_G) {h : List pv_C} (a1 : Int32) (a2 : Int32) (a3 : Int32) (a4 : Int32) (e123 : h[123]? = some (pv_o 12 [.int 0, .int 0, .int 1, .int 0, .int 0, .ref 124, .ref 125, .ref 126, .ref 127, .ref 128, .ref 129, .int 0, .int 0, .int 0, .int 0, .int 0, .int 0, .int 0, .int 0, .int 0, .int 0, .ref 130, .ref 131, .ref 132, .ref 133, .ref 134, .ref 135, .ref 136, .ref 137, .ref 138, .ref 139, .ref 140, .ref 141, .ref 142, .ref 143, .ref 144, .ref 145, .ref 146, .ref 147, .ref 148, .int 0, .int 0, .ref 149, .ref 150, .ref 151, .ref 152, .ref 153, .ref 154, .ref 155, .ref 156, .int 0, .ref 157, .ref 158, .ref 159, .ref 160, .ref 161, .ref 162, .ref 163, .ref 164, .ref 165, .ref 166, .int 0, .ref 167, .ref 168])) : PM g mX12_cheapest yX12_cheapest (pv_is (some (.int (-1))) (h)) 3 0 0 [.ref 123, .int a1, .int a2, .int a3, .int a4] h := by
  refine PM.of 1 (lo := [.ref 123, .int a1, .int a2, .int a3, .int a4, pv_U]) rfl (by decide) rfl rfl (Nat.le_of_ble_eq_true rfl) ?_
  refine pv_aload_n (M := mX12_cheapest) 0 dX12_cheapest_0 1 rfl rfl rfl ?_
  refine pv_iload_n (M := mX12_cheapest) 1 dX12_cheapest_1 2 rfl rfl rfl ?_
  refine pv_iload_n (M := mX12_cheapest) 2 dX12_cheapest_2 3 rfl rfl rfl ?_
  refine pv_callv (M := mX12_cheapest) (as := [.int a1, .int a2]) (st := []) (kc2 := 0) (ks2 := 0) dX12_cheapest_3 wd1554 YX12_isAsked ⟨wd1556, wd86⟩ e123 rfl rfl (k_X12_isAsked g a1 a2 e123) rfl rfl (Nat.le_of_ble_eq_true rfl) (by decide) rfl rfl 6 rfl (pv_k1 ?_)
  refine pv_if_eq (M := mX12_cheapest) (tgt := 33) dX12_cheapest_6 9 rfl (by decide) (fun _ => ?_) (fun q => absurd (by decide) q)
  refine pv_iconst (M := mX12_cheapest) (v := (-1)) dX12_cheapest_33 34 rfl (by decide) ?_
  exact pv_iret (M := mX12_cheapest) dX12_cheapest_34 rfl rfl ⟨rfl, rfl⟩

set_option maxHeartbeats 400000 in
set_option maxRecDepth 20000 in
theorem k_X12_done (g : pv_G) {h : List pv_C} (a1 : Int32) (a2 : Int32) (a3 : Int32) (e123 : h[123]? = some (pv_o 12 [.int 0, .int 0, .int 1, .int 0, .int 0, .ref 124, .ref 125, .ref 126, .ref 127, .ref 128, .ref 129, .int 0, .int 0, .int 0, .int 0, .int 0, .int 0, .int 0, .int 0, .int 0, .int 0, .ref 130, .ref 131, .ref 132, .ref 133, .ref 134, .ref 135, .ref 136, .ref 137, .ref 138, .ref 139, .ref 140, .ref 141, .ref 142, .ref 143, .ref 144, .ref 145, .ref 146, .ref 147, .ref 148, .int 0, .int 0, .ref 149, .ref 150, .ref 151, .ref 152, .ref 153, .ref 154, .ref 155, .ref 156, .int 0, .ref 157, .ref 158, .ref 159, .ref 160, .ref 161, .ref 162, .ref 163, .ref 164, .ref 165, .ref 166, .int 0, .ref 167, .ref 168])) : PM g mX12_done yX12_done (pv_is (some (.int (-1))) (h)) 3 0 0 [.ref 123, .int a1, .int a2, .int a3] h := by
  refine PM.of 7 (lo := [.ref 123, .int a1, .int a2, .int a3, pv_U, pv_U, pv_U, pv_U, pv_U, pv_U, pv_U]) rfl (by decide) rfl rfl (Nat.le_of_ble_eq_true rfl) ?_
  refine pv_aload_n (M := mX12_done) 0 dX12_done_0 1 rfl rfl rfl ?_
  refine pv_iload_n (M := mX12_done) 1 dX12_done_1 2 rfl rfl rfl ?_
  refine pv_iload_n (M := mX12_done) 2 dX12_done_2 3 rfl rfl rfl ?_
  refine pv_callv (M := mX12_done) (as := [.int a1, .int a2]) (st := []) (kc2 := 0) (ks2 := 0) dX12_done_3 wd1554 YX12_isAsked ⟨wd1556, wd86⟩ e123 rfl rfl (k_X12_isAsked g a1 a2 e123) rfl rfl (Nat.le_of_ble_eq_true rfl) (by decide) rfl rfl 6 rfl (pv_k1 ?_)
  refine pv_if_eq (M := mX12_done) (tgt := 16) dX12_done_6 9 rfl (by decide) (fun _ => ?_) (fun q => absurd (by decide) q)
  refine pv_iconst (M := mX12_done) (v := (-1)) dX12_done_16 17 rfl (by decide) ?_
  exact pv_iret (M := mX12_done) dX12_done_17 rfl rfl ⟨rfl, rfl⟩

set_option maxHeartbeats 400000 in
set_option maxRecDepth 20000 in
theorem k_X12_strokes (g : pv_G) {h : List pv_C} (a1 : Int32) (a2 : Int32) (a3 : Int32) (e123 : h[123]? = some (pv_o 12 [.int 0, .int 0, .int 1, .int 0, .int 0, .ref 124, .ref 125, .ref 126, .ref 127, .ref 128, .ref 129, .int 0, .int 0, .int 0, .int 0, .int 0, .int 0, .int 0, .int 0, .int 0, .int 0, .ref 130, .ref 131, .ref 132, .ref 133, .ref 134, .ref 135, .ref 136, .ref 137, .ref 138, .ref 139, .ref 140, .ref 141, .ref 142, .ref 143, .ref 144, .ref 145, .ref 146, .ref 147, .ref 148, .int 0, .int 0, .ref 149, .ref 150, .ref 151, .ref 152, .ref 153, .ref 154, .ref 155, .ref 156, .int 0, .ref 157, .ref 158, .ref 159, .ref 160, .ref 161, .ref 162, .ref 163, .ref 164, .ref 165, .ref 166, .int 0, .ref 167, .ref 168])) : PM g mX12_strokes yX12_strokes (pv_is (some (.int (-1))) (h)) 3 0 0 [.ref 123, .int a1, .int a2, .int a3] h := by
  refine PM.of 1 (lo := [.ref 123, .int a1, .int a2, .int a3, pv_U]) rfl (by decide) rfl rfl (Nat.le_of_ble_eq_true rfl) ?_
  refine pv_aload_n (M := mX12_strokes) 0 dX12_strokes_0 1 rfl rfl rfl ?_
  refine pv_iload_n (M := mX12_strokes) 1 dX12_strokes_1 2 rfl rfl rfl ?_
  refine pv_iload_n (M := mX12_strokes) 2 dX12_strokes_2 3 rfl rfl rfl ?_
  refine pv_callv (M := mX12_strokes) (as := [.int a1, .int a2]) (st := []) (kc2 := 0) (ks2 := 0) dX12_strokes_3 wd1554 YX12_isAsked ⟨wd1556, wd86⟩ e123 rfl rfl (k_X12_isAsked g a1 a2 e123) rfl rfl (Nat.le_of_ble_eq_true rfl) (by decide) rfl rfl 6 rfl (pv_k1 ?_)
  refine pv_if_eq (M := mX12_strokes) (tgt := 19) dX12_strokes_6 9 rfl (by decide) (fun _ => ?_) (fun q => absurd (by decide) q)
  refine pv_iconst (M := mX12_strokes) (v := (-1)) dX12_strokes_19 20 rfl (by decide) ?_
  exact pv_iret (M := mX12_strokes) dX12_strokes_20 rfl rfl ⟨rfl, rfl⟩

set_option maxHeartbeats 400000 in
set_option maxRecDepth 20000 in
theorem k_X12_even (g : pv_G) {h : List pv_C} (a1 : Int32) (a2 : Int32) (a3 : Int32) (e123 : h[123]? = some (pv_o 12 [.int 0, .int 0, .int 1, .int 0, .int 0, .ref 124, .ref 125, .ref 126, .ref 127, .ref 128, .ref 129, .int 0, .int 0, .int 0, .int 0, .int 0, .int 0, .int 0, .int 0, .int 0, .int 0, .ref 130, .ref 131, .ref 132, .ref 133, .ref 134, .ref 135, .ref 136, .ref 137, .ref 138, .ref 139, .ref 140, .ref 141, .ref 142, .ref 143, .ref 144, .ref 145, .ref 146, .ref 147, .ref 148, .int 0, .int 0, .ref 149, .ref 150, .ref 151, .ref 152, .ref 153, .ref 154, .ref 155, .ref 156, .int 0, .ref 157, .ref 158, .ref 159, .ref 160, .ref 161, .ref 162, .ref 163, .ref 164, .ref 165, .ref 166, .int 0, .ref 167, .ref 168])) : PM g mX12_even yX12_even (pv_is (some (.long (-1))) (h)) 3 0 0 [.ref 123, .int a1, .int a2, .int a3] h := by
  refine PM.of 5 (lo := [.ref 123, .int a1, .int a2, .int a3, pv_U, pv_U, pv_U, pv_U, pv_U]) rfl (by decide) rfl rfl (Nat.le_of_ble_eq_true rfl) ?_
  refine pv_aload_n (M := mX12_even) 0 dX12_even_0 1 rfl rfl rfl ?_
  refine pv_iload_n (M := mX12_even) 1 dX12_even_1 2 rfl rfl rfl ?_
  refine pv_iload_n (M := mX12_even) 2 dX12_even_2 3 rfl rfl rfl ?_
  refine pv_callv (M := mX12_even) (as := [.int a1, .int a2]) (st := []) (kc2 := 0) (ks2 := 0) dX12_even_3 wd1554 YX12_isAsked ⟨wd1556, wd86⟩ e123 rfl rfl (k_X12_isAsked g a1 a2 e123) rfl rfl (Nat.le_of_ble_eq_true rfl) (by decide) rfl rfl 6 rfl (pv_k1 ?_)
  refine pv_if_eq (M := mX12_even) (tgt := 19) dX12_even_6 9 rfl (by decide) (fun _ => ?_) (fun q => absurd (by decide) q)
  refine pv_ldc2 (M := mX12_even) (v := (-1)) dX12_even_19 22 rfl wd1562 ?_
  exact pv_lret (M := mX12_even) dX12_even_22 rfl ⟨rfl, rfl⟩

set_option maxHeartbeats 400000 in
set_option maxRecDepth 20000 in
theorem k_X12_in_6 (g : pv_G) {h : List pv_C} (a0 : Int32) : PM g mX12_in yX12_in (pv_is (some (.int (if a0 < 0 then 0 else (if 255 < a0 then 0 else 1)))) (h)) 1 0 0 [.int a0, .int 0, .int 255] h := by
  refine PM.of 0 (lo := [.int a0, .int 0, .int 255]) rfl (by decide) rfl rfl (Nat.le_of_ble_eq_true rfl) ?_
  refine pv_iload_n (M := mX12_in) 0 dX12_in_0 1 rfl rfl rfl ?_
  refine pv_iload_n (M := mX12_in) 1 dX12_in_1 2 rfl rfl rfl ?_
  refine pv_icmp_lt (M := mX12_in) (tgt := 14) dX12_in_2 5 rfl (by decide) (fun c1 => ?_) (fun c1 => ?_)
  · refine pv_iconst (M := mX12_in) (v := 0) dX12_in_14 15 rfl (by decide) ?_
    exact pv_iret (M := mX12_in) dX12_in_15 rfl rfl ⟨(by rw [if_pos c1] <;> rfl), rfl⟩
  · refine pv_iload_n (M := mX12_in) 0 dX12_in_5 6 rfl rfl rfl ?_
    refine pv_iload_n (M := mX12_in) 2 dX12_in_6 7 rfl rfl rfl ?_
    refine pv_icmp_gt (M := mX12_in) (tgt := 14) dX12_in_7 10 rfl (by decide) (fun c2 => ?_) (fun c2 => ?_)
    · refine pv_iconst (M := mX12_in) (v := 0) dX12_in_14 15 rfl (by decide) ?_
      exact pv_iret (M := mX12_in) dX12_in_15 rfl rfl ⟨(by rw [if_neg c1, if_pos c2] <;> rfl), rfl⟩
    · refine pv_iconst (M := mX12_in) (v := 1) dX12_in_10 11 rfl (by decide) ?_
      refine pv_goto (M := mX12_in) (tgt := 15) dX12_in_11 (by decide) ?_
      exact pv_iret (M := mX12_in) dX12_in_15 rfl rfl ⟨(by rw [if_neg c1, if_neg c2] <;> rfl), rfl⟩

set_option maxHeartbeats 400000 in
set_option maxRecDepth 20000 in
theorem k_X12_bits (g : pv_G) {h : List pv_C} : PM g mX12_bits yX12_bits (pv_is (some (.int 0)) (h)) 1 0 0 [.int 0] h := by
  refine PM.of 2 (lo := [.int 0, pv_U, pv_U]) rfl (by decide) rfl rfl (Nat.le_of_ble_eq_true rfl) ?_
  refine pv_iconst (M := mX12_bits) (v := 0) dX12_bits_0 1 rfl (by decide) ?_
  refine pv_istore_n (M := mX12_bits) 1 (lo2 := [.int 0, .int 0, pv_U]) dX12_bits_1 2 rfl rfl (by decide) rfl rfl ?_
  refine pv_iconst (M := mX12_bits) (v := 0) dX12_bits_2 3 rfl (by decide) ?_
  refine pv_istore_n (M := mX12_bits) 2 (lo2 := [.int 0, .int 0, .int 0]) dX12_bits_3 4 rfl rfl (by decide) rfl rfl ?_
  refine pv_iload_n (M := mX12_bits) 2 dX12_bits_4 5 rfl rfl rfl ?_
  refine pv_bipush (M := mX12_bits) (v := 8) dX12_bits_5 7 rfl (by decide) ?_
  refine pv_icmp_ge (M := mX12_bits) (tgt := 24) dX12_bits_7 10 rfl (by decide) (fun q => absurd q (by decide)) (fun _ => ?_)
  refine pv_iload_n (M := mX12_bits) 1 dX12_bits_10 11 rfl rfl rfl ?_
  refine pv_iload_n (M := mX12_bits) 0 dX12_bits_11 12 rfl rfl rfl ?_
  refine pv_iload_n (M := mX12_bits) 2 dX12_bits_12 13 rfl rfl rfl ?_
  refine pv_ishr (M := mX12_bits) (v := 0) dX12_bits_13 14 rfl (by decide) ?_
  refine pv_iconst (M := mX12_bits) (v := 1) dX12_bits_14 15 rfl (by decide) ?_
  refine pv_iand (M := mX12_bits) (v := 0) dX12_bits_15 16 rfl (by decide) ?_
  refine pv_iadd (M := mX12_bits) (v := 0) dX12_bits_16 17 rfl (by decide) ?_
  refine pv_istore_n (M := mX12_bits) 1 (lo2 := [.int 0, .int 0, .int 0]) dX12_bits_17 18 rfl rfl (by decide) rfl rfl ?_
  refine pv_iinc (M := mX12_bits) (v := 1) (lo2 := [.int 0, .int 0, .int 1]) dX12_bits_18 21 rfl rfl (by decide) (by decide) rfl rfl ?_
  refine pv_goto (M := mX12_bits) (tgt := 4) dX12_bits_21 (by decide) ?_
  refine pv_iload_n (M := mX12_bits) 2 dX12_bits_4 5 rfl rfl rfl ?_
  refine pv_bipush (M := mX12_bits) (v := 8) dX12_bits_5 7 rfl (by decide) ?_
  refine pv_icmp_ge (M := mX12_bits) (tgt := 24) dX12_bits_7 10 rfl (by decide) (fun q => absurd q (by decide)) (fun _ => ?_)
  refine pv_iload_n (M := mX12_bits) 1 dX12_bits_10 11 rfl rfl rfl ?_
  refine pv_iload_n (M := mX12_bits) 0 dX12_bits_11 12 rfl rfl rfl ?_
  refine pv_iload_n (M := mX12_bits) 2 dX12_bits_12 13 rfl rfl rfl ?_
  refine pv_ishr (M := mX12_bits) (v := 0) dX12_bits_13 14 rfl (by decide) ?_
  refine pv_iconst (M := mX12_bits) (v := 1) dX12_bits_14 15 rfl (by decide) ?_
  refine pv_iand (M := mX12_bits) (v := 0) dX12_bits_15 16 rfl (by decide) ?_
  refine pv_iadd (M := mX12_bits) (v := 0) dX12_bits_16 17 rfl (by decide) ?_
  refine pv_istore_n (M := mX12_bits) 1 (lo2 := [.int 0, .int 0, .int 1]) dX12_bits_17 18 rfl rfl (by decide) rfl rfl ?_
  refine pv_iinc (M := mX12_bits) (v := 2) (lo2 := [.int 0, .int 0, .int 2]) dX12_bits_18 21 rfl rfl (by decide) (by decide) rfl rfl ?_
  refine pv_goto (M := mX12_bits) (tgt := 4) dX12_bits_21 (by decide) ?_
  refine pv_iload_n (M := mX12_bits) 2 dX12_bits_4 5 rfl rfl rfl ?_
  refine pv_bipush (M := mX12_bits) (v := 8) dX12_bits_5 7 rfl (by decide) ?_
  refine pv_icmp_ge (M := mX12_bits) (tgt := 24) dX12_bits_7 10 rfl (by decide) (fun q => absurd q (by decide)) (fun _ => ?_)
  refine pv_iload_n (M := mX12_bits) 1 dX12_bits_10 11 rfl rfl rfl ?_
  refine pv_iload_n (M := mX12_bits) 0 dX12_bits_11 12 rfl rfl rfl ?_
  refine pv_iload_n (M := mX12_bits) 2 dX12_bits_12 13 rfl rfl rfl ?_
  refine pv_ishr (M := mX12_bits) (v := 0) dX12_bits_13 14 rfl (by decide) ?_
  refine pv_iconst (M := mX12_bits) (v := 1) dX12_bits_14 15 rfl (by decide) ?_
  refine pv_iand (M := mX12_bits) (v := 0) dX12_bits_15 16 rfl (by decide) ?_
  refine pv_iadd (M := mX12_bits) (v := 0) dX12_bits_16 17 rfl (by decide) ?_
  refine pv_istore_n (M := mX12_bits) 1 (lo2 := [.int 0, .int 0, .int 2]) dX12_bits_17 18 rfl rfl (by decide) rfl rfl ?_
  refine pv_iinc (M := mX12_bits) (v := 3) (lo2 := [.int 0, .int 0, .int 3]) dX12_bits_18 21 rfl rfl (by decide) (by decide) rfl rfl ?_
  refine pv_goto (M := mX12_bits) (tgt := 4) dX12_bits_21 (by decide) ?_
  refine pv_iload_n (M := mX12_bits) 2 dX12_bits_4 5 rfl rfl rfl ?_
  refine pv_bipush (M := mX12_bits) (v := 8) dX12_bits_5 7 rfl (by decide) ?_
  refine pv_icmp_ge (M := mX12_bits) (tgt := 24) dX12_bits_7 10 rfl (by decide) (fun q => absurd q (by decide)) (fun _ => ?_)
  refine pv_iload_n (M := mX12_bits) 1 dX12_bits_10 11 rfl rfl rfl ?_
  refine pv_iload_n (M := mX12_bits) 0 dX12_bits_11 12 rfl rfl rfl ?_
  refine pv_iload_n (M := mX12_bits) 2 dX12_bits_12 13 rfl rfl rfl ?_
  refine pv_ishr (M := mX12_bits) (v := 0) dX12_bits_13 14 rfl (by decide) ?_
  refine pv_iconst (M := mX12_bits) (v := 1) dX12_bits_14 15 rfl (by decide) ?_
  refine pv_iand (M := mX12_bits) (v := 0) dX12_bits_15 16 rfl (by decide) ?_
  refine pv_iadd (M := mX12_bits) (v := 0) dX12_bits_16 17 rfl (by decide) ?_
  refine pv_istore_n (M := mX12_bits) 1 (lo2 := [.int 0, .int 0, .int 3]) dX12_bits_17 18 rfl rfl (by decide) rfl rfl ?_
  refine pv_iinc (M := mX12_bits) (v := 4) (lo2 := [.int 0, .int 0, .int 4]) dX12_bits_18 21 rfl rfl (by decide) (by decide) rfl rfl ?_
  refine pv_goto (M := mX12_bits) (tgt := 4) dX12_bits_21 (by decide) ?_
  refine pv_iload_n (M := mX12_bits) 2 dX12_bits_4 5 rfl rfl rfl ?_
  refine pv_bipush (M := mX12_bits) (v := 8) dX12_bits_5 7 rfl (by decide) ?_
  refine pv_icmp_ge (M := mX12_bits) (tgt := 24) dX12_bits_7 10 rfl (by decide) (fun q => absurd q (by decide)) (fun _ => ?_)
  refine pv_iload_n (M := mX12_bits) 1 dX12_bits_10 11 rfl rfl rfl ?_
  refine pv_iload_n (M := mX12_bits) 0 dX12_bits_11 12 rfl rfl rfl ?_
  refine pv_iload_n (M := mX12_bits) 2 dX12_bits_12 13 rfl rfl rfl ?_
  refine pv_ishr (M := mX12_bits) (v := 0) dX12_bits_13 14 rfl (by decide) ?_
  refine pv_iconst (M := mX12_bits) (v := 1) dX12_bits_14 15 rfl (by decide) ?_
  refine pv_iand (M := mX12_bits) (v := 0) dX12_bits_15 16 rfl (by decide) ?_
  refine pv_iadd (M := mX12_bits) (v := 0) dX12_bits_16 17 rfl (by decide) ?_
  refine pv_istore_n (M := mX12_bits) 1 (lo2 := [.int 0, .int 0, .int 4]) dX12_bits_17 18 rfl rfl (by decide) rfl rfl ?_
  refine pv_iinc (M := mX12_bits) (v := 5) (lo2 := [.int 0, .int 0, .int 5]) dX12_bits_18 21 rfl rfl (by decide) (by decide) rfl rfl ?_
  refine pv_goto (M := mX12_bits) (tgt := 4) dX12_bits_21 (by decide) ?_
  refine pv_iload_n (M := mX12_bits) 2 dX12_bits_4 5 rfl rfl rfl ?_
  refine pv_bipush (M := mX12_bits) (v := 8) dX12_bits_5 7 rfl (by decide) ?_
  refine pv_icmp_ge (M := mX12_bits) (tgt := 24) dX12_bits_7 10 rfl (by decide) (fun q => absurd q (by decide)) (fun _ => ?_)
  refine pv_iload_n (M := mX12_bits) 1 dX12_bits_10 11 rfl rfl rfl ?_
  refine pv_iload_n (M := mX12_bits) 0 dX12_bits_11 12 rfl rfl rfl ?_
  refine pv_iload_n (M := mX12_bits) 2 dX12_bits_12 13 rfl rfl rfl ?_
  refine pv_ishr (M := mX12_bits) (v := 0) dX12_bits_13 14 rfl (by decide) ?_
  refine pv_iconst (M := mX12_bits) (v := 1) dX12_bits_14 15 rfl (by decide) ?_
  refine pv_iand (M := mX12_bits) (v := 0) dX12_bits_15 16 rfl (by decide) ?_
  refine pv_iadd (M := mX12_bits) (v := 0) dX12_bits_16 17 rfl (by decide) ?_
  refine pv_istore_n (M := mX12_bits) 1 (lo2 := [.int 0, .int 0, .int 5]) dX12_bits_17 18 rfl rfl (by decide) rfl rfl ?_
  refine pv_iinc (M := mX12_bits) (v := 6) (lo2 := [.int 0, .int 0, .int 6]) dX12_bits_18 21 rfl rfl (by decide) (by decide) rfl rfl ?_
  refine pv_goto (M := mX12_bits) (tgt := 4) dX12_bits_21 (by decide) ?_
  refine pv_iload_n (M := mX12_bits) 2 dX12_bits_4 5 rfl rfl rfl ?_
  refine pv_bipush (M := mX12_bits) (v := 8) dX12_bits_5 7 rfl (by decide) ?_
  refine pv_icmp_ge (M := mX12_bits) (tgt := 24) dX12_bits_7 10 rfl (by decide) (fun q => absurd q (by decide)) (fun _ => ?_)
  refine pv_iload_n (M := mX12_bits) 1 dX12_bits_10 11 rfl rfl rfl ?_
  refine pv_iload_n (M := mX12_bits) 0 dX12_bits_11 12 rfl rfl rfl ?_
  refine pv_iload_n (M := mX12_bits) 2 dX12_bits_12 13 rfl rfl rfl ?_
  refine pv_ishr (M := mX12_bits) (v := 0) dX12_bits_13 14 rfl (by decide) ?_
  refine pv_iconst (M := mX12_bits) (v := 1) dX12_bits_14 15 rfl (by decide) ?_
  refine pv_iand (M := mX12_bits) (v := 0) dX12_bits_15 16 rfl (by decide) ?_
  refine pv_iadd (M := mX12_bits) (v := 0) dX12_bits_16 17 rfl (by decide) ?_
  refine pv_istore_n (M := mX12_bits) 1 (lo2 := [.int 0, .int 0, .int 6]) dX12_bits_17 18 rfl rfl (by decide) rfl rfl ?_
  refine pv_iinc (M := mX12_bits) (v := 7) (lo2 := [.int 0, .int 0, .int 7]) dX12_bits_18 21 rfl rfl (by decide) (by decide) rfl rfl ?_
  refine pv_goto (M := mX12_bits) (tgt := 4) dX12_bits_21 (by decide) ?_
  refine pv_iload_n (M := mX12_bits) 2 dX12_bits_4 5 rfl rfl rfl ?_
  refine pv_bipush (M := mX12_bits) (v := 8) dX12_bits_5 7 rfl (by decide) ?_
  refine pv_icmp_ge (M := mX12_bits) (tgt := 24) dX12_bits_7 10 rfl (by decide) (fun q => absurd q (by decide)) (fun _ => ?_)
  refine pv_iload_n (M := mX12_bits) 1 dX12_bits_10 11 rfl rfl rfl ?_
  refine pv_iload_n (M := mX12_bits) 0 dX12_bits_11 12 rfl rfl rfl ?_
  refine pv_iload_n (M := mX12_bits) 2 dX12_bits_12 13 rfl rfl rfl ?_
  refine pv_ishr (M := mX12_bits) (v := 0) dX12_bits_13 14 rfl (by decide) ?_
  refine pv_iconst (M := mX12_bits) (v := 1) dX12_bits_14 15 rfl (by decide) ?_
  refine pv_iand (M := mX12_bits) (v := 0) dX12_bits_15 16 rfl (by decide) ?_
  refine pv_iadd (M := mX12_bits) (v := 0) dX12_bits_16 17 rfl (by decide) ?_
  refine pv_istore_n (M := mX12_bits) 1 (lo2 := [.int 0, .int 0, .int 7]) dX12_bits_17 18 rfl rfl (by decide) rfl rfl ?_
  refine pv_iinc (M := mX12_bits) (v := 8) (lo2 := [.int 0, .int 0, .int 8]) dX12_bits_18 21 rfl rfl (by decide) (by decide) rfl rfl ?_
  refine pv_goto (M := mX12_bits) (tgt := 4) dX12_bits_21 (by decide) ?_
  refine pv_iload_n (M := mX12_bits) 2 dX12_bits_4 5 rfl rfl rfl ?_
  refine pv_bipush (M := mX12_bits) (v := 8) dX12_bits_5 7 rfl (by decide) ?_
  refine pv_icmp_ge (M := mX12_bits) (tgt := 24) dX12_bits_7 10 rfl (by decide) (fun _ => ?_) (fun q => absurd (by decide) q)
  refine pv_iload_n (M := mX12_bits) 1 dX12_bits_24 25 rfl rfl rfl ?_
  exact pv_iret (M := mX12_bits) dX12_bits_25 rfl rfl ⟨rfl, rfl⟩

set_option maxHeartbeats 400000 in
set_option maxRecDepth 20000 in
theorem k_X12_spreads (g : pv_G) {h : List pv_C} (a1 : Int32) (e123 : h[123]? = some (pv_o 12 [.int 0, .int 0, .int 1, .int 0, .int 0, .ref 124, .ref 125, .ref 126, .ref 127, .ref 128, .ref 129, .int 0, .int 0, .int 0, .int 0, .int 0, .int 0, .int 0, .int 0, .int 0, .int 0, .ref 130, .ref 131, .ref 132, .ref 133, .ref 134, .ref 135, .ref 136, .ref 137, .ref 138, .ref 139, .ref 140, .ref 141, .ref 142, .ref 143, .ref 144, .ref 145, .ref 146, .ref 147, .ref 148, .int 0, .int 0, .ref 149, .ref 150, .ref 151, .ref 152, .ref 153, .ref 154, .ref 155, .ref 156, .int 0, .ref 157, .ref 158, .ref 159, .ref 160, .ref 161, .ref 162, .ref 163, .ref 164, .ref 165, .ref 166, .int 0, .ref 167, .ref 168])) : PM g mX12_spreads yX12_spreads (pv_is (some (.int 0)) (h)) 2 0 0 [.ref 123, .int a1, .int 2, .int 3] h := by
  refine PM.of 1 (lo := [.ref 123, .int a1, .int 2, .int 3, pv_U]) rfl (by decide) rfl rfl (Nat.le_of_ble_eq_true rfl) ?_
  refine pv_iload_n (M := mX12_spreads) 1 dX12_spreads_0 1 rfl rfl rfl ?_
  refine pv_iconst (M := mX12_spreads) (v := 0) dX12_spreads_1 2 rfl (by decide) ?_
  refine pv_sipush (M := mX12_spreads) (v := 255) dX12_spreads_2 5 rfl (by decide) ?_
  refine pv_calls (M := mX12_spreads) (as := [.int a1, .int 0, .int 255]) (st := []) (kc2 := 0) (ks2 := 0) dX12_spreads_5 wd1370 YX12_in wd1371 (k_X12_in_6 g a1) rfl rfl (Nat.le_of_ble_eq_true rfl) (by decide) rfl rfl 8 rfl (pv_k1 ?_)
  by_cases c1 : a1 < 0
  · refine pv_top (M := mX12_spreads) (if_pos c1) ?_
    refine pv_if_eq (M := mX12_spreads) (tgt := 38) dX12_spreads_8 11 rfl (by decide) (fun _ => ?_) (fun q => absurd (by decide) q)
    refine pv_iconst (M := mX12_spreads) (v := 0) dX12_spreads_38 39 rfl (by decide) ?_
    exact pv_iret (M := mX12_spreads) dX12_spreads_39 rfl rfl ⟨rfl, rfl⟩
  · refine pv_top (M := mX12_spreads) (if_neg c1) ?_
    by_cases c2 : 255 < a1
    · refine pv_top (M := mX12_spreads) (if_pos c2) ?_
      refine pv_if_eq (M := mX12_spreads) (tgt := 38) dX12_spreads_8 11 rfl (by decide) (fun _ => ?_) (fun q => absurd (by decide) q)
      refine pv_iconst (M := mX12_spreads) (v := 0) dX12_spreads_38 39 rfl (by decide) ?_
      exact pv_iret (M := mX12_spreads) dX12_spreads_39 rfl rfl ⟨rfl, rfl⟩
    · refine pv_top (M := mX12_spreads) (if_neg c2) ?_
      refine pv_if_eq (M := mX12_spreads) (tgt := 38) dX12_spreads_8 11 rfl (by decide) (fun q => absurd q (by decide)) (fun _ => ?_)
      refine pv_iload_n (M := mX12_spreads) 1 dX12_spreads_11 12 rfl rfl rfl ?_
      refine pv_aload_n (M := mX12_spreads) 0 dX12_spreads_12 13 rfl rfl rfl ?_
      refine pv_get (M := mX12_spreads) dX12_spreads_13 FX12 4 wd1177 (by decide) e123 rfl 16 rfl ?_
      refine pv_iconst (M := mX12_spreads) (v := (-1)) dX12_spreads_16 17 rfl (by decide) ?_
      refine pv_ixor (M := mX12_spreads) (v := (-1)) dX12_spreads_17 18 rfl (by decide) ?_
      refine pv_iand (M := mX12_spreads) (v := a1) dX12_spreads_18 19 rfl (pv_z4 _) ?_
      refine pv_if_ne (M := mX12_spreads) (tgt := 38) dX12_spreads_19 22 rfl (by decide) (fun c3 => ?_) (fun c3 => ?_)
      · refine pv_iconst (M := mX12_spreads) (v := 0) dX12_spreads_38 39 rfl (by decide) ?_
        exact pv_iret (M := mX12_spreads) dX12_spreads_39 rfl rfl ⟨rfl, rfl⟩
      · subst c3
        refine pv_iload_n (M := mX12_spreads) 1 dX12_spreads_22 23 rfl rfl rfl ?_
        refine pv_calls (M := mX12_spreads) (as := [.int 0]) (st := []) (kc2 := 0) (ks2 := 0) dX12_spreads_23 wd1626 YX12_bits wd1627 (k_X12_bits g) rfl rfl (Nat.le_of_ble_eq_true rfl) (by decide) rfl rfl 26 rfl (pv_k1 ?_)
        refine pv_iload_n (M := mX12_spreads) 2 dX12_spreads_26 27 rfl rfl rfl ?_
        refine pv_icmp_lt (M := mX12_spreads) (tgt := 38) dX12_spreads_27 30 rfl (by decide) (fun _ => ?_) (fun q => absurd (by decide) q)
        refine pv_iconst (M := mX12_spreads) (v := 0) dX12_spreads_38 39 rfl (by decide) ?_
        exact pv_iret (M := mX12_spreads) dX12_spreads_39 rfl rfl ⟨rfl, rfl⟩

set_option maxHeartbeats 400000 in
set_option maxRecDepth 20000 in
theorem k_X12_hidden (g : pv_G) {h : List pv_C} (a1 : Int32) (a2 : Int32) (e123 : h[123]? = some (pv_o 12 [.int 0, .int 0, .int 1, .int 0, .int 0, .ref 124, .ref 125, .ref 126, .ref 127, .ref 128, .ref 129, .int 0, .int 0, .int 0, .int 0, .int 0, .int 0, .int 0, .int 0, .int 0, .int 0, .ref 130, .ref 131, .ref 132, .ref 133, .ref 134, .ref 135, .ref 136, .ref 137, .ref 138, .ref 139, .ref 140, .ref 141, .ref 142, .ref 143, .ref 144, .ref 145, .ref 146, .ref 147, .ref 148, .int 0, .int 0, .ref 149, .ref 150, .ref 151, .ref 152, .ref 153, .ref 154, .ref 155, .ref 156, .int 0, .ref 157, .ref 158, .ref 159, .ref 160, .ref 161, .ref 162, .ref 163, .ref 164, .ref 165, .ref 166, .int 0, .ref 167, .ref 168])) : PM g mX12_hidden yX12_hidden (pv_is (some (.int (-1))) (h)) 3 0 0 [.ref 123, .int a1, .int a2] h := by
  refine PM.of 6 (lo := [.ref 123, .int a1, .int a2, pv_U, pv_U, pv_U, pv_U, pv_U, pv_U]) rfl (by decide) rfl rfl (Nat.le_of_ble_eq_true rfl) ?_
  refine pv_aload_n (M := mX12_hidden) 0 dX12_hidden_0 1 rfl rfl rfl ?_
  refine pv_iload_n (M := mX12_hidden) 1 dX12_hidden_1 2 rfl rfl rfl ?_
  refine pv_iconst (M := mX12_hidden) (v := 2) dX12_hidden_2 3 rfl (by decide) ?_
  refine pv_iconst (M := mX12_hidden) (v := 3) dX12_hidden_3 4 rfl (by decide) ?_
  refine pv_callv (M := mX12_hidden) (as := [.int a1, .int 2, .int 3]) (st := []) (kc2 := 0) (ks2 := 0) dX12_hidden_4 wd1622 YX12_spreads ⟨wd1624, wd96⟩ e123 rfl rfl (k_X12_spreads g a1 e123) rfl rfl (Nat.le_of_ble_eq_true rfl) (by decide) rfl rfl 7 rfl (pv_k1 ?_)
  refine pv_if_ne (M := mX12_hidden) (tgt := 12) dX12_hidden_7 10 rfl (by decide) (fun q => absurd (by decide) q) (fun _ => ?_)
  refine pv_iconst (M := mX12_hidden) (v := (-1)) dX12_hidden_10 11 rfl (by decide) ?_
  exact pv_iret (M := mX12_hidden) dX12_hidden_11 rfl rfl ⟨rfl, rfl⟩

set_option maxHeartbeats 400000 in
set_option maxRecDepth 20000 in
theorem k_X12_spreads_2 (g : pv_G) {h : List pv_C} (a1 : Int32) (e123 : h[123]? = some (pv_o 12 [.int 0, .int 0, .int 1, .int 0, .int 0, .ref 124, .ref 125, .ref 126, .ref 127, .ref 128, .ref 129, .int 0, .int 0, .int 0, .int 0, .int 0, .int 0, .int 0, .int 0, .int 0, .int 0, .ref 130, .ref 131, .ref 132, .ref 133, .ref 134, .ref 135, .ref 136, .ref 137, .ref 138, .ref 139, .ref 140, .ref 141, .ref 142, .ref 143, .ref 144, .ref 145, .ref 146, .ref 147, .ref 148, .int 0, .int 0, .ref 149, .ref 150, .ref 151, .ref 152, .ref 153, .ref 154, .ref 155, .ref 156, .int 0, .ref 157, .ref 158, .ref 159, .ref 160, .ref 161, .ref 162, .ref 163, .ref 164, .ref 165, .ref 166, .int 0, .ref 167, .ref 168])) : PM g mX12_spreads yX12_spreads (pv_is (some (.int 0)) (h)) 2 0 0 [.ref 123, .int a1, .int 2, .int 4] h := by
  refine PM.of 1 (lo := [.ref 123, .int a1, .int 2, .int 4, pv_U]) rfl (by decide) rfl rfl (Nat.le_of_ble_eq_true rfl) ?_
  refine pv_iload_n (M := mX12_spreads) 1 dX12_spreads_0 1 rfl rfl rfl ?_
  refine pv_iconst (M := mX12_spreads) (v := 0) dX12_spreads_1 2 rfl (by decide) ?_
  refine pv_sipush (M := mX12_spreads) (v := 255) dX12_spreads_2 5 rfl (by decide) ?_
  refine pv_calls (M := mX12_spreads) (as := [.int a1, .int 0, .int 255]) (st := []) (kc2 := 0) (ks2 := 0) dX12_spreads_5 wd1370 YX12_in wd1371 (k_X12_in_6 g a1) rfl rfl (Nat.le_of_ble_eq_true rfl) (by decide) rfl rfl 8 rfl (pv_k1 ?_)
  by_cases c1 : a1 < 0
  · refine pv_top (M := mX12_spreads) (if_pos c1) ?_
    refine pv_if_eq (M := mX12_spreads) (tgt := 38) dX12_spreads_8 11 rfl (by decide) (fun _ => ?_) (fun q => absurd (by decide) q)
    refine pv_iconst (M := mX12_spreads) (v := 0) dX12_spreads_38 39 rfl (by decide) ?_
    exact pv_iret (M := mX12_spreads) dX12_spreads_39 rfl rfl ⟨rfl, rfl⟩
  · refine pv_top (M := mX12_spreads) (if_neg c1) ?_
    by_cases c2 : 255 < a1
    · refine pv_top (M := mX12_spreads) (if_pos c2) ?_
      refine pv_if_eq (M := mX12_spreads) (tgt := 38) dX12_spreads_8 11 rfl (by decide) (fun _ => ?_) (fun q => absurd (by decide) q)
      refine pv_iconst (M := mX12_spreads) (v := 0) dX12_spreads_38 39 rfl (by decide) ?_
      exact pv_iret (M := mX12_spreads) dX12_spreads_39 rfl rfl ⟨rfl, rfl⟩
    · refine pv_top (M := mX12_spreads) (if_neg c2) ?_
      refine pv_if_eq (M := mX12_spreads) (tgt := 38) dX12_spreads_8 11 rfl (by decide) (fun q => absurd q (by decide)) (fun _ => ?_)
      refine pv_iload_n (M := mX12_spreads) 1 dX12_spreads_11 12 rfl rfl rfl ?_
      refine pv_aload_n (M := mX12_spreads) 0 dX12_spreads_12 13 rfl rfl rfl ?_
      refine pv_get (M := mX12_spreads) dX12_spreads_13 FX12 4 wd1177 (by decide) e123 rfl 16 rfl ?_
      refine pv_iconst (M := mX12_spreads) (v := (-1)) dX12_spreads_16 17 rfl (by decide) ?_
      refine pv_ixor (M := mX12_spreads) (v := (-1)) dX12_spreads_17 18 rfl (by decide) ?_
      refine pv_iand (M := mX12_spreads) (v := a1) dX12_spreads_18 19 rfl (pv_z4 _) ?_
      refine pv_if_ne (M := mX12_spreads) (tgt := 38) dX12_spreads_19 22 rfl (by decide) (fun c3 => ?_) (fun c3 => ?_)
      · refine pv_iconst (M := mX12_spreads) (v := 0) dX12_spreads_38 39 rfl (by decide) ?_
        exact pv_iret (M := mX12_spreads) dX12_spreads_39 rfl rfl ⟨rfl, rfl⟩
      · subst c3
        refine pv_iload_n (M := mX12_spreads) 1 dX12_spreads_22 23 rfl rfl rfl ?_
        refine pv_calls (M := mX12_spreads) (as := [.int 0]) (st := []) (kc2 := 0) (ks2 := 0) dX12_spreads_23 wd1626 YX12_bits wd1627 (k_X12_bits g) rfl rfl (Nat.le_of_ble_eq_true rfl) (by decide) rfl rfl 26 rfl (pv_k1 ?_)
        refine pv_iload_n (M := mX12_spreads) 2 dX12_spreads_26 27 rfl rfl rfl ?_
        refine pv_icmp_lt (M := mX12_spreads) (tgt := 38) dX12_spreads_27 30 rfl (by decide) (fun _ => ?_) (fun q => absurd (by decide) q)
        refine pv_iconst (M := mX12_spreads) (v := 0) dX12_spreads_38 39 rfl (by decide) ?_
        exact pv_iret (M := mX12_spreads) dX12_spreads_39 rfl rfl ⟨rfl, rfl⟩

set_option maxHeartbeats 400000 in
set_option maxRecDepth 20000 in
theorem k_X12_shortest (g : pv_G) {h : List pv_C} (a1 : Int32) (a2 : Int32) (e123 : h[123]? = some (pv_o 12 [.int 0, .int 0, .int 1, .int 0, .int 0, .ref 124, .ref 125, .ref 126, .ref 127, .ref 128, .ref 129, .int 0, .int 0, .int 0, .int 0, .int 0, .int 0, .int 0, .int 0, .int 0, .int 0, .ref 130, .ref 131, .ref 132, .ref 133, .ref 134, .ref 135, .ref 136, .ref 137, .ref 138, .ref 139, .ref 140, .ref 141, .ref 142, .ref 143, .ref 144, .ref 145, .ref 146, .ref 147, .ref 148, .int 0, .int 0, .ref 149, .ref 150, .ref 151, .ref 152, .ref 153, .ref 154, .ref 155, .ref 156, .int 0, .ref 157, .ref 158, .ref 159, .ref 160, .ref 161, .ref 162, .ref 163, .ref 164, .ref 165, .ref 166, .int 0, .ref 167, .ref 168])) : PM g mX12_shortest yX12_shortest (pv_is (some (.int (-1))) (h)) 3 0 0 [.ref 123, .int a1, .int a2] h := by
  refine PM.of 4 (lo := [.ref 123, .int a1, .int a2, pv_U, pv_U, pv_U, pv_U]) rfl (by decide) rfl rfl (Nat.le_of_ble_eq_true rfl) ?_
  refine pv_aload_n (M := mX12_shortest) 0 dX12_shortest_0 1 rfl rfl rfl ?_
  refine pv_iload_n (M := mX12_shortest) 1 dX12_shortest_1 2 rfl rfl rfl ?_
  refine pv_iconst (M := mX12_shortest) (v := 2) dX12_shortest_2 3 rfl (by decide) ?_
  refine pv_iconst (M := mX12_shortest) (v := 4) dX12_shortest_3 4 rfl (by decide) ?_
  refine pv_callv (M := mX12_shortest) (as := [.int a1, .int 2, .int 4]) (st := []) (kc2 := 0) (ks2 := 0) dX12_shortest_4 wd1622 YX12_spreads ⟨wd1624, wd96⟩ e123 rfl rfl (k_X12_spreads_2 g a1 e123) rfl rfl (Nat.le_of_ble_eq_true rfl) (by decide) rfl rfl 7 rfl (pv_k1 ?_)
  refine pv_if_eq (M := mX12_shortest) (tgt := 15) dX12_shortest_7 10 rfl (by decide) (fun _ => ?_) (fun q => absurd (by decide) q)
  refine pv_iconst (M := mX12_shortest) (v := (-1)) dX12_shortest_15 16 rfl (by decide) ?_
  exact pv_iret (M := mX12_shortest) dX12_shortest_16 rfl rfl ⟨rfl, rfl⟩

set_option maxHeartbeats 400000 in
set_option maxRecDepth 20000 in
theorem k_X12_shortestMany (g : pv_G) {h : List pv_C} (a1 : Int32) (e123 : h[123]? = some (pv_o 12 [.int 0, .int 0, .int 1, .int 0, .int 0, .ref 124, .ref 125, .ref 126, .ref 127, .ref 128, .ref 129, .int 0, .int 0, .int 0, .int 0, .int 0, .int 0, .int 0, .int 0, .int 0, .int 0, .ref 130, .ref 131, .ref 132, .ref 133, .ref 134, .ref 135, .ref 136, .ref 137, .ref 138, .ref 139, .ref 140, .ref 141, .ref 142, .ref 143, .ref 144, .ref 145, .ref 146, .ref 147, .ref 148, .int 0, .int 0, .ref 149, .ref 150, .ref 151, .ref 152, .ref 153, .ref 154, .ref 155, .ref 156, .int 0, .ref 157, .ref 158, .ref 159, .ref 160, .ref 161, .ref 162, .ref 163, .ref 164, .ref 165, .ref 166, .int 0, .ref 167, .ref 168])) : PM g mX12_shortestMany yX12_shortestMany (pv_is (some (.long (-1))) (h)) 3 0 0 [.ref 123, .int a1] h := by
  refine PM.of 0 (lo := [.ref 123, .int a1]) rfl (by decide) rfl rfl (Nat.le_of_ble_eq_true rfl) ?_
  refine pv_aload_n (M := mX12_shortestMany) 0 dX12_shortestMany_0 1 rfl rfl rfl ?_
  refine pv_iload_n (M := mX12_shortestMany) 1 dX12_shortestMany_1 2 rfl rfl rfl ?_
  refine pv_iconst (M := mX12_shortestMany) (v := 2) dX12_shortestMany_2 3 rfl (by decide) ?_
  refine pv_iconst (M := mX12_shortestMany) (v := 4) dX12_shortestMany_3 4 rfl (by decide) ?_
  refine pv_callv (M := mX12_shortestMany) (as := [.int a1, .int 2, .int 4]) (st := []) (kc2 := 0) (ks2 := 0) dX12_shortestMany_4 wd1622 YX12_spreads ⟨wd1624, wd96⟩ e123 rfl rfl (k_X12_spreads_2 g a1 e123) rfl rfl (Nat.le_of_ble_eq_true rfl) (by decide) rfl rfl 7 rfl (pv_k1 ?_)
  refine pv_if_ne (M := mX12_shortestMany) (tgt := 14) dX12_shortestMany_7 10 rfl (by decide) (fun q => absurd (by decide) q) (fun _ => ?_)
  refine pv_ldc2 (M := mX12_shortestMany) (v := (-1)) dX12_shortestMany_10 13 rfl wd1562 ?_
  exact pv_lret (M := mX12_shortestMany) dX12_shortestMany_13 rfl ⟨rfl, rfl⟩

set_option maxHeartbeats 400000 in
set_option maxRecDepth 20000 in
theorem k_X12_bound (g : pv_G) {h : List pv_C} (a1 : Int32) (e123 : h[123]? = some (pv_o 12 [.int 0, .int 0, .int 1, .int 0, .int 0, .ref 124, .ref 125, .ref 126, .ref 127, .ref 128, .ref 129, .int 0, .int 0, .int 0, .int 0, .int 0, .int 0, .int 0, .int 0, .int 0, .int 0, .ref 130, .ref 131, .ref 132, .ref 133, .ref 134, .ref 135, .ref 136, .ref 137, .ref 138, .ref 139, .ref 140, .ref 141, .ref 142, .ref 143, .ref 144, .ref 145, .ref 146, .ref 147, .ref 148, .int 0, .int 0, .ref 149, .ref 150, .ref 151, .ref 152, .ref 153, .ref 154, .ref 155, .ref 156, .int 0, .ref 157, .ref 158, .ref 159, .ref 160, .ref 161, .ref 162, .ref 163, .ref 164, .ref 165, .ref 166, .int 0, .ref 167, .ref 168])) : PM g mX12_bound yX12_bound (pv_is (some (.int (-1))) (h)) 3 0 0 [.ref 123, .int a1] h := by
  refine PM.of 3 (lo := [.ref 123, .int a1, pv_U, pv_U, pv_U]) rfl (by decide) rfl rfl (Nat.le_of_ble_eq_true rfl) ?_
  refine pv_aload_n (M := mX12_bound) 0 dX12_bound_0 1 rfl rfl rfl ?_
  refine pv_iload_n (M := mX12_bound) 1 dX12_bound_1 2 rfl rfl rfl ?_
  refine pv_iconst (M := mX12_bound) (v := 2) dX12_bound_2 3 rfl (by decide) ?_
  refine pv_iconst (M := mX12_bound) (v := 4) dX12_bound_3 4 rfl (by decide) ?_
  refine pv_callv (M := mX12_bound) (as := [.int a1, .int 2, .int 4]) (st := []) (kc2 := 0) (ks2 := 0) dX12_bound_4 wd1622 YX12_spreads ⟨wd1624, wd96⟩ e123 rfl rfl (k_X12_spreads_2 g a1 e123) rfl rfl (Nat.le_of_ble_eq_true rfl) (by decide) rfl rfl 7 rfl (pv_k1 ?_)
  refine pv_if_ne (M := mX12_bound) (tgt := 12) dX12_bound_7 10 rfl (by decide) (fun q => absurd (by decide) q) (fun _ => ?_)
  refine pv_iconst (M := mX12_bound) (v := (-1)) dX12_bound_10 11 rfl (by decide) ?_
  exact pv_iret (M := mX12_bound) dX12_bound_11 rfl rfl ⟨rfl, rfl⟩

set_option maxHeartbeats 400000 in
set_option maxRecDepth 20000 in
theorem k_X12_isDeed (g : pv_G) {h : List pv_C} (a1 : Int32) (e123 : h[123]? = some (pv_o 12 [.int 0, .int 0, .int 1, .int 0, .int 0, .ref 124, .ref 125, .ref 126, .ref 127, .ref 128, .ref 129, .int 0, .int 0, .int 0, .int 0, .int 0, .int 0, .int 0, .int 0, .int 0, .int 0, .ref 130, .ref 131, .ref 132, .ref 133, .ref 134, .ref 135, .ref 136, .ref 137, .ref 138, .ref 139, .ref 140, .ref 141, .ref 142, .ref 143, .ref 144, .ref 145, .ref 146, .ref 147, .ref 148, .int 0, .int 0, .ref 149, .ref 150, .ref 151, .ref 152, .ref 153, .ref 154, .ref 155, .ref 156, .int 0, .ref 157, .ref 158, .ref 159, .ref 160, .ref 161, .ref 162, .ref 163, .ref 164, .ref 165, .ref 166, .int 0, .ref 167, .ref 168])) : PM g mX12_isDeed yX12_isDeed (pv_is (some (.int 0)) (h)) 1 0 0 [.ref 123, .int a1] h := by
  refine PM.of 0 (lo := [.ref 123, .int a1]) rfl (by decide) rfl rfl (Nat.le_of_ble_eq_true rfl) ?_
  refine pv_iload_n (M := mX12_isDeed) 1 dX12_isDeed_0 1 rfl rfl rfl ?_
  refine pv_if_lt (M := mX12_isDeed) (tgt := 26) dX12_isDeed_1 4 rfl (by decide) (fun c1 => ?_) (fun c1 => ?_)
  · refine pv_iconst (M := mX12_isDeed) (v := 0) dX12_isDeed_26 27 rfl (by decide) ?_
    exact pv_iret (M := mX12_isDeed) dX12_isDeed_27 rfl rfl ⟨rfl, rfl⟩
  · refine pv_iload_n (M := mX12_isDeed) 1 dX12_isDeed_4 5 rfl rfl rfl ?_
    refine pv_bipush (M := mX12_isDeed) (v := 8) dX12_isDeed_5 7 rfl (by decide) ?_
    refine pv_icmp_ge (M := mX12_isDeed) (tgt := 26) dX12_isDeed_7 10 rfl (by decide) (fun c2 => ?_) (fun c2 => ?_)
    · refine pv_iconst (M := mX12_isDeed) (v := 0) dX12_isDeed_26 27 rfl (by decide) ?_
      exact pv_iret (M := mX12_isDeed) dX12_isDeed_27 rfl rfl ⟨rfl, rfl⟩
    · refine pv_aload_n (M := mX12_isDeed) 0 dX12_isDeed_10 11 rfl rfl rfl ?_
      refine pv_get (M := mX12_isDeed) dX12_isDeed_11 FX12 4 wd1177 (by decide) e123 rfl 14 rfl ?_
      refine pv_iload_n (M := mX12_isDeed) 1 dX12_isDeed_14 15 rfl rfl rfl ?_
      refine pv_ishr (M := mX12_isDeed) (v := 0) dX12_isDeed_15 16 rfl (pv_z1 _) ?_
      refine pv_iconst (M := mX12_isDeed) (v := 1) dX12_isDeed_16 17 rfl (by decide) ?_
      refine pv_iand (M := mX12_isDeed) (v := 0) dX12_isDeed_17 18 rfl (by decide) ?_
      refine pv_iconst (M := mX12_isDeed) (v := 1) dX12_isDeed_18 19 rfl (by decide) ?_
      refine pv_icmp_ne (M := mX12_isDeed) (tgt := 26) dX12_isDeed_19 22 rfl (by decide) (fun _ => ?_) (fun q => absurd q (by decide))
      refine pv_iconst (M := mX12_isDeed) (v := 0) dX12_isDeed_26 27 rfl (by decide) ?_
      exact pv_iret (M := mX12_isDeed) dX12_isDeed_27 rfl rfl ⟨rfl, rfl⟩

set_option maxHeartbeats 400000 in
set_option maxRecDepth 20000 in
theorem k_X12_forged (g : pv_G) {h : List pv_C} (a1 : Int32) (e123 : h[123]? = some (pv_o 12 [.int 0, .int 0, .int 1, .int 0, .int 0, .ref 124, .ref 125, .ref 126, .ref 127, .ref 128, .ref 129, .int 0, .int 0, .int 0, .int 0, .int 0, .int 0, .int 0, .int 0, .int 0, .int 0, .ref 130, .ref 131, .ref 132, .ref 133, .ref 134, .ref 135, .ref 136, .ref 137, .ref 138, .ref 139, .ref 140, .ref 141, .ref 142, .ref 143, .ref 144, .ref 145, .ref 146, .ref 147, .ref 148, .int 0, .int 0, .ref 149, .ref 150, .ref 151, .ref 152, .ref 153, .ref 154, .ref 155, .ref 156, .int 0, .ref 157, .ref 158, .ref 159, .ref 160, .ref 161, .ref 162, .ref 163, .ref 164, .ref 165, .ref 166, .int 0, .ref 167, .ref 168])) : PM g mX12_forged yX12_forged (pv_is (some (.int (-1))) (h)) 2 0 0 [.ref 123, .int a1] h := by
  refine PM.of 1 (lo := [.ref 123, .int a1, pv_U]) rfl (by decide) rfl rfl (Nat.le_of_ble_eq_true rfl) ?_
  refine pv_aload_n (M := mX12_forged) 0 dX12_forged_0 1 rfl rfl rfl ?_
  refine pv_iload_n (M := mX12_forged) 1 dX12_forged_1 2 rfl rfl rfl ?_
  refine pv_callv (M := mX12_forged) (as := [.int a1]) (st := []) (kc2 := 0) (ks2 := 0) dX12_forged_2 wd1558 YX12_isDeed ⟨wd1560, wd87⟩ e123 rfl rfl (k_X12_isDeed g a1 e123) rfl rfl (Nat.le_of_ble_eq_true rfl) (by decide) rfl rfl 5 rfl (pv_k1 ?_)
  refine pv_if_ne (M := mX12_forged) (tgt := 10) dX12_forged_5 8 rfl (by decide) (fun q => absurd (by decide) q) (fun _ => ?_)
  refine pv_iconst (M := mX12_forged) (v := (-1)) dX12_forged_8 9 rfl (by decide) ?_
  exact pv_iret (M := mX12_forged) dX12_forged_9 rfl rfl ⟨rfl, rfl⟩

set_option maxHeartbeats 400000 in
set_option maxRecDepth 20000 in
theorem k_X12_spare (g : pv_G) {h : List pv_C} (a1 : Int32) (a2 : Int32) (e123 : h[123]? = some (pv_o 12 [.int 0, .int 0, .int 1, .int 0, .int 0, .ref 124, .ref 125, .ref 126, .ref 127, .ref 128, .ref 129, .int 0, .int 0, .int 0, .int 0, .int 0, .int 0, .int 0, .int 0, .int 0, .int 0, .ref 130, .ref 131, .ref 132, .ref 133, .ref 134, .ref 135, .ref 136, .ref 137, .ref 138, .ref 139, .ref 140, .ref 141, .ref 142, .ref 143, .ref 144, .ref 145, .ref 146, .ref 147, .ref 148, .int 0, .int 0, .ref 149, .ref 150, .ref 151, .ref 152, .ref 153, .ref 154, .ref 155, .ref 156, .int 0, .ref 157, .ref 158, .ref 159, .ref 160, .ref 161, .ref 162, .ref 163, .ref 164, .ref 165, .ref 166, .int 0, .ref 167, .ref 168])) : PM g mX12_spare yX12_spare (pv_is (some (.long (-1))) (h)) 2 0 0 [.ref 123, .int a1, .int a2] h := by
  refine PM.of 3 (lo := [.ref 123, .int a1, .int a2, pv_U, pv_U, pv_U]) rfl (by decide) rfl rfl (Nat.le_of_ble_eq_true rfl) ?_
  refine pv_aload_n (M := mX12_spare) 0 dX12_spare_0 1 rfl rfl rfl ?_
  refine pv_iload_n (M := mX12_spare) 1 dX12_spare_1 2 rfl rfl rfl ?_
  refine pv_callv (M := mX12_spare) (as := [.int a1]) (st := []) (kc2 := 0) (ks2 := 0) dX12_spare_2 wd1389 YX12_isBlank ⟨wd1391, wd55⟩ e123 rfl rfl (k_X12_isBlank g a1 e123) rfl rfl (Nat.le_of_ble_eq_true rfl) (by decide) rfl rfl 5 rfl (pv_k1 ?_)
  refine pv_if_eq (M := mX12_spare) (tgt := 20) dX12_spare_5 8 rfl (by decide) (fun _ => ?_) (fun q => absurd (by decide) q)
  refine pv_ldc2 (M := mX12_spare) (v := (-1)) dX12_spare_20 23 rfl wd1562 ?_
  exact pv_lret (M := mX12_spare) dX12_spare_23 rfl ⟨rfl, rfl⟩

set_option maxHeartbeats 400000 in
set_option maxRecDepth 20000 in
theorem k_X12_areSet (g : pv_G) {h : List pv_C} (a1 : Int32) (e123 : h[123]? = some (pv_o 12 [.int 0, .int 0, .int 1, .int 0, .int 0, .ref 124, .ref 125, .ref 126, .ref 127, .ref 128, .ref 129, .int 0, .int 0, .int 0, .int 0, .int 0, .int 0, .int 0, .int 0, .int 0, .int 0, .ref 130, .ref 131, .ref 132, .ref 133, .ref 134, .ref 135, .ref 136, .ref 137, .ref 138, .ref 139, .ref 140, .ref 141, .ref 142, .ref 143, .ref 144, .ref 145, .ref 146, .ref 147, .ref 148, .int 0, .int 0, .ref 149, .ref 150, .ref 151, .ref 152, .ref 153, .ref 154, .ref 155, .ref 156, .int 0, .ref 157, .ref 158, .ref 159, .ref 160, .ref 161, .ref 162, .ref 163, .ref 164, .ref 165, .ref 166, .int 0, .ref 167, .ref 168])) : PM g mX12_areSet yX12_areSet (pv_is (some (.int (if a1 < 0 then 0 else (if 255 < a1 then 0 else (if a1 = 0 then 1 else 0))))) (h)) 2 0 0 [.ref 123, .int a1] h := by
  refine PM.of 0 (lo := [.ref 123, .int a1]) rfl (by decide) rfl rfl (Nat.le_of_ble_eq_true rfl) ?_
  refine pv_iload_n (M := mX12_areSet) 1 dX12_areSet_0 1 rfl rfl rfl ?_
  refine pv_iconst (M := mX12_areSet) (v := 0) dX12_areSet_1 2 rfl (by decide) ?_
  refine pv_sipush (M := mX12_areSet) (v := 255) dX12_areSet_2 5 rfl (by decide) ?_
  refine pv_calls (M := mX12_areSet) (as := [.int a1, .int 0, .int 255]) (st := []) (kc2 := 0) (ks2 := 0) dX12_areSet_5 wd1370 YX12_in wd1371 (k_X12_in_6 g a1) rfl rfl (Nat.le_of_ble_eq_true rfl) (by decide) rfl rfl 8 rfl (pv_k1 ?_)
  by_cases c1 : a1 < 0
  · refine pv_top (M := mX12_areSet) (if_pos c1) ?_
    refine pv_if_eq (M := mX12_areSet) (tgt := 26) dX12_areSet_8 11 rfl (by decide) (fun _ => ?_) (fun q => absurd (by decide) q)
    refine pv_iconst (M := mX12_areSet) (v := 0) dX12_areSet_26 27 rfl (by decide) ?_
    exact pv_iret (M := mX12_areSet) dX12_areSet_27 rfl rfl ⟨(by rw [if_pos c1] <;> rfl), rfl⟩
  · refine pv_top (M := mX12_areSet) (if_neg c1) ?_
    by_cases c2 : 255 < a1
    · refine pv_top (M := mX12_areSet) (if_pos c2) ?_
      refine pv_if_eq (M := mX12_areSet) (tgt := 26) dX12_areSet_8 11 rfl (by decide) (fun _ => ?_) (fun q => absurd (by decide) q)
      refine pv_iconst (M := mX12_areSet) (v := 0) dX12_areSet_26 27 rfl (by decide) ?_
      exact pv_iret (M := mX12_areSet) dX12_areSet_27 rfl rfl ⟨(by rw [if_neg c1, if_pos c2] <;> rfl), rfl⟩
    · refine pv_top (M := mX12_areSet) (if_neg c2) ?_
      refine pv_if_eq (M := mX12_areSet) (tgt := 26) dX12_areSet_8 11 rfl (by decide) (fun q => absurd q (by decide)) (fun _ => ?_)
      refine pv_iload_n (M := mX12_areSet) 1 dX12_areSet_11 12 rfl rfl rfl ?_
      refine pv_aload_n (M := mX12_areSet) 0 dX12_areSet_12 13 rfl rfl rfl ?_
      refine pv_get (M := mX12_areSet) dX12_areSet_13 FX12 4 wd1177 (by decide) e123 rfl 16 rfl ?_
      refine pv_iconst (M := mX12_areSet) (v := (-1)) dX12_areSet_16 17 rfl (by decide) ?_
      refine pv_ixor (M := mX12_areSet) (v := (-1)) dX12_areSet_17 18 rfl (by decide) ?_
      refine pv_iand (M := mX12_areSet) (v := a1) dX12_areSet_18 19 rfl (pv_z4 _) ?_
      refine pv_if_ne (M := mX12_areSet) (tgt := 26) dX12_areSet_19 22 rfl (by decide) (fun c3 => ?_) (fun c3 => ?_)
      · refine pv_iconst (M := mX12_areSet) (v := 0) dX12_areSet_26 27 rfl (by decide) ?_
        exact pv_iret (M := mX12_areSet) dX12_areSet_27 rfl rfl ⟨(by rw [if_neg c1, if_neg c2, if_neg c3] <;> rfl), rfl⟩
      · subst c3
        refine pv_iconst (M := mX12_areSet) (v := 1) dX12_areSet_22 23 rfl (by decide) ?_
        refine pv_goto (M := mX12_areSet) (tgt := 27) dX12_areSet_23 (by decide) ?_
        exact pv_iret (M := mX12_areSet) dX12_areSet_27 rfl rfl ⟨(by rw [if_neg c1, if_neg c2, if_pos rfl] <;> rfl), rfl⟩

set_option maxHeartbeats 400000 in
set_option maxRecDepth 20000 in
theorem k_X12_dayEnd (g : pv_G) {h : List pv_C} (a1 : Int32) (a2 : Int32) (e123 : h[123]? = some (pv_o 12 [.int 0, .int 0, .int 1, .int 0, .int 0, .ref 124, .ref 125, .ref 126, .ref 127, .ref 128, .ref 129, .int 0, .int 0, .int 0, .int 0, .int 0, .int 0, .int 0, .int 0, .int 0, .int 0, .ref 130, .ref 131, .ref 132, .ref 133, .ref 134, .ref 135, .ref 136, .ref 137, .ref 138, .ref 139, .ref 140, .ref 141, .ref 142, .ref 143, .ref 144, .ref 145, .ref 146, .ref 147, .ref 148, .int 0, .int 0, .ref 149, .ref 150, .ref 151, .ref 152, .ref 153, .ref 154, .ref 155, .ref 156, .int 0, .ref 157, .ref 158, .ref 159, .ref 160, .ref 161, .ref 162, .ref 163, .ref 164, .ref 165, .ref 166, .int 0, .ref 167, .ref 168])) : PM g mX12_dayEnd yX12_dayEnd (pv_is (some (.int (-1))) (h)) 3 0 0 [.ref 123, .int a1, .int a2] h := by
  refine PM.of 0 (lo := [.ref 123, .int a1, .int a2]) rfl (by decide) rfl rfl (Nat.le_of_ble_eq_true rfl) ?_
  refine pv_aload_n (M := mX12_dayEnd) 0 dX12_dayEnd_0 1 rfl rfl rfl ?_
  refine pv_iload_n (M := mX12_dayEnd) 1 dX12_dayEnd_1 2 rfl rfl rfl ?_
  refine pv_callv (M := mX12_dayEnd) (as := [.int a1]) (st := []) (kc2 := 0) (ks2 := 0) dX12_dayEnd_2 wd1704 YX12_areSet ⟨wd1706, wd109⟩ e123 rfl rfl (k_X12_areSet g a1 e123) rfl rfl (Nat.le_of_ble_eq_true rfl) (by decide) rfl rfl 5 rfl (pv_k1 ?_)
  by_cases c1 : a1 < 0
  · refine pv_top (M := mX12_dayEnd) (if_pos c1) ?_
    refine pv_if_eq (M := mX12_dayEnd) (tgt := 28) dX12_dayEnd_5 8 rfl (by decide) (fun _ => ?_) (fun q => absurd (by decide) q)
    refine pv_iconst (M := mX12_dayEnd) (v := (-1)) dX12_dayEnd_28 29 rfl (by decide) ?_
    exact pv_iret (M := mX12_dayEnd) dX12_dayEnd_29 rfl rfl ⟨rfl, rfl⟩
  · refine pv_top (M := mX12_dayEnd) (if_neg c1) ?_
    by_cases c2 : 255 < a1
    · refine pv_top (M := mX12_dayEnd) (if_pos c2) ?_
      refine pv_if_eq (M := mX12_dayEnd) (tgt := 28) dX12_dayEnd_5 8 rfl (by decide) (fun _ => ?_) (fun q => absurd (by decide) q)
      refine pv_iconst (M := mX12_dayEnd) (v := (-1)) dX12_dayEnd_28 29 rfl (by decide) ?_
      exact pv_iret (M := mX12_dayEnd) dX12_dayEnd_29 rfl rfl ⟨rfl, rfl⟩
    · refine pv_top (M := mX12_dayEnd) (if_neg c2) ?_
      by_cases c3 : a1 = 0
      · subst c3
        refine pv_top (M := mX12_dayEnd) (if_pos rfl) ?_
        refine pv_if_eq (M := mX12_dayEnd) (tgt := 28) dX12_dayEnd_5 8 rfl (by decide) (fun q => absurd q (by decide)) (fun _ => ?_)
        refine pv_iload_n (M := mX12_dayEnd) 1 dX12_dayEnd_8 9 rfl rfl rfl ?_
        refine pv_if_eq (M := mX12_dayEnd) (tgt := 28) dX12_dayEnd_9 12 rfl (by decide) (fun _ => ?_) (fun q => absurd (by decide) q)
        refine pv_iconst (M := mX12_dayEnd) (v := (-1)) dX12_dayEnd_28 29 rfl (by decide) ?_
        exact pv_iret (M := mX12_dayEnd) dX12_dayEnd_29 rfl rfl ⟨rfl, rfl⟩
      · refine pv_top (M := mX12_dayEnd) (if_neg c3) ?_
        refine pv_if_eq (M := mX12_dayEnd) (tgt := 28) dX12_dayEnd_5 8 rfl (by decide) (fun _ => ?_) (fun q => absurd (by decide) q)
        refine pv_iconst (M := mX12_dayEnd) (v := (-1)) dX12_dayEnd_28 29 rfl (by decide) ?_
        exact pv_iret (M := mX12_dayEnd) dX12_dayEnd_29 rfl rfl ⟨rfl, rfl⟩

set_option maxHeartbeats 400000 in
set_option maxRecDepth 20000 in
theorem k_X12_worth (g : pv_G) {h : List pv_C} (a1 : Int32) (a2 : Int32) (a3 : Int32) (e123 : h[123]? = some (pv_o 12 [.int 0, .int 0, .int 1, .int 0, .int 0, .ref 124, .ref 125, .ref 126, .ref 127, .ref 128, .ref 129, .int 0, .int 0, .int 0, .int 0, .int 0, .int 0, .int 0, .int 0, .int 0, .int 0, .ref 130, .ref 131, .ref 132, .ref 133, .ref 134, .ref 135, .ref 136, .ref 137, .ref 138, .ref 139, .ref 140, .ref 141, .ref 142, .ref 143, .ref 144, .ref 145, .ref 146, .ref 147, .ref 148, .int 0, .int 0, .ref 149, .ref 150, .ref 151, .ref 152, .ref 153, .ref 154, .ref 155, .ref 156, .int 0, .ref 157, .ref 158, .ref 159, .ref 160, .ref 161, .ref 162, .ref 163, .ref 164, .ref 165, .ref 166, .int 0, .ref 167, .ref 168])) : PM g mX12_worth yX12_worth (pv_is (some (.int (-1000))) (h)) 2 0 0 [.ref 123, .int a1, .int a2, .int a3] h := by
  refine PM.of 2 (lo := [.ref 123, .int a1, .int a2, .int a3, pv_U, pv_U]) rfl (by decide) rfl rfl (Nat.le_of_ble_eq_true rfl) ?_
  refine pv_aload_n (M := mX12_worth) 0 dX12_worth_0 1 rfl rfl rfl ?_
  refine pv_iload_n (M := mX12_worth) 1 dX12_worth_1 2 rfl rfl rfl ?_
  refine pv_callv (M := mX12_worth) (as := [.int a1]) (st := []) (kc2 := 0) (ks2 := 0) dX12_worth_2 wd1389 YX12_isBlank ⟨wd1391, wd55⟩ e123 rfl rfl (k_X12_isBlank g a1 e123) rfl rfl (Nat.le_of_ble_eq_true rfl) (by decide) rfl rfl 5 rfl (pv_k1 ?_)
  refine pv_if_eq (M := mX12_worth) (tgt := 29) dX12_worth_5 8 rfl (by decide) (fun _ => ?_) (fun q => absurd (by decide) q)
  refine pv_sipush (M := mX12_worth) (v := (-1000)) dX12_worth_29 32 rfl (by decide) ?_
  exact pv_iret (M := mX12_worth) dX12_worth_32 rfl rfl ⟨rfl, rfl⟩

set_option maxHeartbeats 400000 in
set_option maxRecDepth 20000 in
theorem k_X12_family (g : pv_G) {h : List pv_C} (a1 : Int32) (a2 : Int32) (a3 : Int32) (a4 : Int32) (e123 : h[123]? = some (pv_o 12 [.int 0, .int 0, .int 1, .int 0, .int 0, .ref 124, .ref 125, .ref 126, .ref 127, .ref 128, .ref 129, .int 0, .int 0, .int 0, .int 0, .int 0, .int 0, .int 0, .int 0, .int 0, .int 0, .ref 130, .ref 131, .ref 132, .ref 133, .ref 134, .ref 135, .ref 136, .ref 137, .ref 138, .ref 139, .ref 140, .ref 141, .ref 142, .ref 143, .ref 144, .ref 145, .ref 146, .ref 147, .ref 148, .int 0, .int 0, .ref 149, .ref 150, .ref 151, .ref 152, .ref 153, .ref 154, .ref 155, .ref 156, .int 0, .ref 157, .ref 158, .ref 159, .ref 160, .ref 161, .ref 162, .ref 163, .ref 164, .ref 165, .ref 166, .int 0, .ref 167, .ref 168])) : PM g mX12_family yX12_family (pv_is (some (.int (-1))) (h)) 2 0 0 [.ref 123, .int a1, .int a2, .int a3, .int a4] h := by
  refine PM.of 2 (lo := [.ref 123, .int a1, .int a2, .int a3, .int a4, pv_U, pv_U]) rfl (by decide) rfl rfl (Nat.le_of_ble_eq_true rfl) ?_
  refine pv_aload_n (M := mX12_family) 0 dX12_family_0 1 rfl rfl rfl ?_
  refine pv_iload_n (M := mX12_family) 1 dX12_family_1 2 rfl rfl rfl ?_
  refine pv_callv (M := mX12_family) (as := [.int a1]) (st := []) (kc2 := 0) (ks2 := 0) dX12_family_2 wd1389 YX12_isBlank ⟨wd1391, wd55⟩ e123 rfl rfl (k_X12_isBlank g a1 e123) rfl rfl (Nat.le_of_ble_eq_true rfl) (by decide) rfl rfl 5 rfl (pv_k1 ?_)
  refine pv_if_eq (M := mX12_family) (tgt := 41) dX12_family_5 8 rfl (by decide) (fun _ => ?_) (fun q => absurd (by decide) q)
  refine pv_iconst (M := mX12_family) (v := (-1)) dX12_family_41 42 rfl (by decide) ?_
  exact pv_iret (M := mX12_family) dX12_family_42 rfl rfl ⟨rfl, rfl⟩

set_option maxHeartbeats 400000 in
set_option maxRecDepth 20000 in
theorem k_X12_chain (g : pv_G) {h : List pv_C} (a1 : Int32) (a2 : Int32) (e123 : h[123]? = some (pv_o 12 [.int 0, .int 0, .int 1, .int 0, .int 0, .ref 124, .ref 125, .ref 126, .ref 127, .ref 128, .ref 129, .int 0, .int 0, .int 0, .int 0, .int 0, .int 0, .int 0, .int 0, .int 0, .int 0, .ref 130, .ref 131, .ref 132, .ref 133, .ref 134, .ref 135, .ref 136, .ref 137, .ref 138, .ref 139, .ref 140, .ref 141, .ref 142, .ref 143, .ref 144, .ref 145, .ref 146, .ref 147, .ref 148, .int 0, .int 0, .ref 149, .ref 150, .ref 151, .ref 152, .ref 153, .ref 154, .ref 155, .ref 156, .int 0, .ref 157, .ref 158, .ref 159, .ref 160, .ref 161, .ref 162, .ref 163, .ref 164, .ref 165, .ref 166, .int 0, .ref 167, .ref 168])) : PM g mX12_chain yX12_chain (pv_is (some (.int (-1))) (h)) 2 0 0 [.ref 123, .int a1, .int a2] h := by
  refine PM.of 5 (lo := [.ref 123, .int a1, .int a2, pv_U, pv_U, pv_U, pv_U, pv_U]) rfl (by decide) rfl rfl (Nat.le_of_ble_eq_true rfl) ?_
  refine pv_aload_n (M := mX12_chain) 0 dX12_chain_0 1 rfl rfl rfl ?_
  refine pv_iload_n (M := mX12_chain) 1 dX12_chain_1 2 rfl rfl rfl ?_
  refine pv_callv (M := mX12_chain) (as := [.int a1]) (st := []) (kc2 := 0) (ks2 := 0) dX12_chain_2 wd1389 YX12_isBlank ⟨wd1391, wd55⟩ e123 rfl rfl (k_X12_isBlank g a1 e123) rfl rfl (Nat.le_of_ble_eq_true rfl) (by decide) rfl rfl 5 rfl (pv_k1 ?_)
  refine pv_if_eq (M := mX12_chain) (tgt := 13) dX12_chain_5 8 rfl (by decide) (fun _ => ?_) (fun q => absurd (by decide) q)
  refine pv_iconst (M := mX12_chain) (v := (-1)) dX12_chain_13 14 rfl (by decide) ?_
  exact pv_iret (M := mX12_chain) dX12_chain_14 rfl rfl ⟨rfl, rfl⟩

set_option maxHeartbeats 400000 in
set_option maxRecDepth 20000 in
theorem k_X12_in_7 (g : pv_G) {h : List pv_C} (a0 : Int32) : PM g mX12_in yX12_in (pv_is (some (.int (if a0 < 0 then 0 else (if 65535 < a0 then 0 else 1)))) (h)) 1 0 0 [.int a0, .int 0, .int 65535] h := by
  refine PM.of 0 (lo := [.int a0, .int 0, .int 65535]) rfl (by decide) rfl rfl (Nat.le_of_ble_eq_true rfl) ?_
  refine pv_iload_n (M := mX12_in) 0 dX12_in_0 1 rfl rfl rfl ?_
  refine pv_iload_n (M := mX12_in) 1 dX12_in_1 2 rfl rfl rfl ?_
  refine pv_icmp_lt (M := mX12_in) (tgt := 14) dX12_in_2 5 rfl (by decide) (fun c1 => ?_) (fun c1 => ?_)
  · refine pv_iconst (M := mX12_in) (v := 0) dX12_in_14 15 rfl (by decide) ?_
    exact pv_iret (M := mX12_in) dX12_in_15 rfl rfl ⟨(by rw [if_pos c1] <;> rfl), rfl⟩
  · refine pv_iload_n (M := mX12_in) 0 dX12_in_5 6 rfl rfl rfl ?_
    refine pv_iload_n (M := mX12_in) 2 dX12_in_6 7 rfl rfl rfl ?_
    refine pv_icmp_gt (M := mX12_in) (tgt := 14) dX12_in_7 10 rfl (by decide) (fun c2 => ?_) (fun c2 => ?_)
    · refine pv_iconst (M := mX12_in) (v := 0) dX12_in_14 15 rfl (by decide) ?_
      exact pv_iret (M := mX12_in) dX12_in_15 rfl rfl ⟨(by rw [if_neg c1, if_pos c2] <;> rfl), rfl⟩
    · refine pv_iconst (M := mX12_in) (v := 1) dX12_in_10 11 rfl (by decide) ?_
      refine pv_goto (M := mX12_in) (tgt := 15) dX12_in_11 (by decide) ?_
      exact pv_iret (M := mX12_in) dX12_in_15 rfl rfl ⟨(by rw [if_neg c1, if_neg c2] <;> rfl), rfl⟩

set_option maxHeartbeats 400000 in
set_option maxRecDepth 20000 in
theorem k_X12_seed (g : pv_G) {h : List pv_C} (a1 : Int32) (e123 : h[123]? = some (pv_o 12 [.int 0, .int 0, .int 1, .int 0, .int 0, .ref 124, .ref 125, .ref 126, .ref 127, .ref 128, .ref 129, .int 0, .int 0, .int 0, .int 0, .int 0, .int 0, .int 0, .int 0, .int 0, .int 0, .ref 130, .ref 131, .ref 132, .ref 133, .ref 134, .ref 135, .ref 136, .ref 137, .ref 138, .ref 139, .ref 140, .ref 141, .ref 142, .ref 143, .ref 144, .ref 145, .ref 146, .ref 147, .ref 148, .int 0, .int 0, .ref 149, .ref 150, .ref 151, .ref 152, .ref 153, .ref 154, .ref 155, .ref 156, .int 0, .ref 157, .ref 158, .ref 159, .ref 160, .ref 161, .ref 162, .ref 163, .ref 164, .ref 165, .ref 166, .int 0, .ref 167, .ref 168])) : PM g mX12_seed yX12_seed (pv_is (some (.int (if a1 < 0 then 0 else (if 65535 < a1 then 0 else 1)))) ((if a1 < 0 then h else (if 65535 < a1 then h else (h.set 123 (pv_o 12 [.int 0, .int 0, .int a1, .int 0, .int 0, .ref 124, .ref 125, .ref 126, .ref 127, .ref 128, .ref 129, .int 0, .int 0, .int 0, .int 0, .int 0, .int 0, .int 0, .int 0, .int 0, .int 0, .ref 130, .ref 131, .ref 132, .ref 133, .ref 134, .ref 135, .ref 136, .ref 137, .ref 138, .ref 139, .ref 140, .ref 141, .ref 142, .ref 143, .ref 144, .ref 145, .ref 146, .ref 147, .ref 148, .int 0, .int 0, .ref 149, .ref 150, .ref 151, .ref 152, .ref 153, .ref 154, .ref 155, .ref 156, .int 0, .ref 157, .ref 158, .ref 159, .ref 160, .ref 161, .ref 162, .ref 163, .ref 164, .ref 165, .ref 166, .int 0, .ref 167, .ref 168])))))) 2 0 0 [.ref 123, .int a1] h := by
  refine PM.of 0 (lo := [.ref 123, .int a1]) rfl (by decide) rfl rfl (Nat.le_of_ble_eq_true rfl) ?_
  refine pv_iload_n (M := mX12_seed) 1 dX12_seed_0 1 rfl rfl rfl ?_
  refine pv_iconst (M := mX12_seed) (v := 0) dX12_seed_1 2 rfl (by decide) ?_
  refine pv_ldcw (M := mX12_seed) (v := 65535) dX12_seed_2 5 rfl wd1777 ?_
  refine pv_calls (M := mX12_seed) (as := [.int a1, .int 0, .int 65535]) (st := []) (kc2 := 0) (ks2 := 0) dX12_seed_5 wd1370 YX12_in wd1371 (k_X12_in_7 g a1) rfl rfl (Nat.le_of_ble_eq_true rfl) (by decide) rfl rfl 8 rfl (pv_k1 ?_)
  by_cases c1 : a1 < 0
  · refine pv_top (M := mX12_seed) (if_pos c1) ?_
    refine pv_if_ne (M := mX12_seed) (tgt := 13) dX12_seed_8 11 rfl (by decide) (fun q => absurd (by decide) q) (fun _ => ?_)
    refine pv_iconst (M := mX12_seed) (v := 0) dX12_seed_11 12 rfl (by decide) ?_
    exact pv_iret (M := mX12_seed) dX12_seed_12 rfl rfl ⟨(by rw [if_pos c1] <;> rfl), (by rw [if_pos c1] <;> rfl)⟩
  · refine pv_top (M := mX12_seed) (if_neg c1) ?_
    by_cases c2 : 65535 < a1
    · refine pv_top (M := mX12_seed) (if_pos c2) ?_
      refine pv_if_ne (M := mX12_seed) (tgt := 13) dX12_seed_8 11 rfl (by decide) (fun q => absurd (by decide) q) (fun _ => ?_)
      refine pv_iconst (M := mX12_seed) (v := 0) dX12_seed_11 12 rfl (by decide) ?_
      exact pv_iret (M := mX12_seed) dX12_seed_12 rfl rfl ⟨(by rw [if_neg c1, if_pos c2] <;> rfl), (by rw [if_neg c1, if_pos c2] <;> rfl)⟩
    · refine pv_top (M := mX12_seed) (if_neg c2) ?_
      refine pv_if_ne (M := mX12_seed) (tgt := 13) dX12_seed_8 11 rfl (by decide) (fun _ => ?_) (fun q => absurd q (by decide))
      refine pv_aload_n (M := mX12_seed) 0 dX12_seed_13 14 rfl rfl rfl ?_
      refine pv_iload_n (M := mX12_seed) 1 dX12_seed_14 15 rfl rfl rfl ?_
      refine pv_put (M := mX12_seed) (fs2 := [.int 0, .int 0, .int a1, .int 0, .int 0, .ref 124, .ref 125, .ref 126, .ref 127, .ref 128, .ref 129, .int 0, .int 0, .int 0, .int 0, .int 0, .int 0, .int 0, .int 0, .int 0, .int 0, .ref 130, .ref 131, .ref 132, .ref 133, .ref 134, .ref 135, .ref 136, .ref 137, .ref 138, .ref 139, .ref 140, .ref 141, .ref 142, .ref 143, .ref 144, .ref 145, .ref 146, .ref 147, .ref 148, .int 0, .int 0, .ref 149, .ref 150, .ref 151, .ref 152, .ref 153, .ref 154, .ref 155, .ref 156, .int 0, .ref 157, .ref 158, .ref 159, .ref 160, .ref 161, .ref 162, .ref 163, .ref 164, .ref 165, .ref 166, .int 0, .ref 167, .ref 168]) dX12_seed_15 FX12 2 wd1175 (by decide) rfl e123 (Nat.le_of_ble_eq_true rfl) (fun _ => rfl) (fun _ => rfl) rfl rfl 18 rfl ?_
      refine pv_iconst (M := mX12_seed) (v := 1) dX12_seed_18 19 rfl (by decide) ?_
      exact pv_iret (M := mX12_seed) dX12_seed_19 rfl rfl ⟨(by rw [if_neg c1, if_neg c2] <;> rfl), (by rw [if_neg c1, if_neg c2] <;> rfl)⟩

set_option maxHeartbeats 400000 in
set_option maxRecDepth 20000 in
theorem k_X12_draw (g : pv_G) {h : List pv_C} (a1 : Int32) (a2 : Int32) (e123 : h[123]? = some (pv_o 12 [.int 0, .int 0, .int 1, .int 0, .int 0, .ref 124, .ref 125, .ref 126, .ref 127, .ref 128, .ref 129, .int 0, .int 0, .int 0, .int 0, .int 0, .int 0, .int 0, .int 0, .int 0, .int 0, .ref 130, .ref 131, .ref 132, .ref 133, .ref 134, .ref 135, .ref 136, .ref 137, .ref 138, .ref 139, .ref 140, .ref 141, .ref 142, .ref 143, .ref 144, .ref 145, .ref 146, .ref 147, .ref 148, .int 0, .int 0, .ref 149, .ref 150, .ref 151, .ref 152, .ref 153, .ref 154, .ref 155, .ref 156, .int 0, .ref 157, .ref 158, .ref 159, .ref 160, .ref 161, .ref 162, .ref 163, .ref 164, .ref 165, .ref 166, .int 0, .ref 167, .ref 168])) : PM g mX12_draw yX12_draw (pv_is (some (.int (-1))) (h)) 2 0 0 [.ref 123, .int a1, .int a2] h := by
  refine PM.of 4 (lo := [.ref 123, .int a1, .int a2, pv_U, pv_U, pv_U, pv_U]) rfl (by decide) rfl rfl (Nat.le_of_ble_eq_true rfl) ?_
  refine pv_aload_n (M := mX12_draw) 0 dX12_draw_0 1 rfl rfl rfl ?_
  refine pv_iload_n (M := mX12_draw) 1 dX12_draw_1 2 rfl rfl rfl ?_
  refine pv_callv (M := mX12_draw) (as := [.int a1]) (st := []) (kc2 := 0) (ks2 := 0) dX12_draw_2 wd1389 YX12_isBlank ⟨wd1391, wd55⟩ e123 rfl rfl (k_X12_isBlank g a1 e123) rfl rfl (Nat.le_of_ble_eq_true rfl) (by decide) rfl rfl 5 rfl (pv_k1 ?_)
  refine pv_if_eq (M := mX12_draw) (tgt := 18) dX12_draw_5 8 rfl (by decide) (fun _ => ?_) (fun q => absurd (by decide) q)
  refine pv_iconst (M := mX12_draw) (v := (-1)) dX12_draw_18 19 rfl (by decide) ?_
  exact pv_iret (M := mX12_draw) dX12_draw_19 rfl rfl ⟨rfl, rfl⟩

set_option maxHeartbeats 400000 in
set_option maxRecDepth 20000 in
theorem k_X12_check (g : pv_G) {h : List pv_C} (a1 : Int32) (a2 : Int32) (e123 : h[123]? = some (pv_o 12 [.int 0, .int 0, .int 1, .int 0, .int 0, .ref 124, .ref 125, .ref 126, .ref 127, .ref 128, .ref 129, .int 0, .int 0, .int 0, .int 0, .int 0, .int 0, .int 0, .int 0, .int 0, .int 0, .ref 130, .ref 131, .ref 132, .ref 133, .ref 134, .ref 135, .ref 136, .ref 137, .ref 138, .ref 139, .ref 140, .ref 141, .ref 142, .ref 143, .ref 144, .ref 145, .ref 146, .ref 147, .ref 148, .int 0, .int 0, .ref 149, .ref 150, .ref 151, .ref 152, .ref 153, .ref 154, .ref 155, .ref 156, .int 0, .ref 157, .ref 158, .ref 159, .ref 160, .ref 161, .ref 162, .ref 163, .ref 164, .ref 165, .ref 166, .int 0, .ref 167, .ref 168])) : PM g mX12_check yX12_check (pv_is (some (.int (-2))) (h)) 2 0 0 [.ref 123, .int a1, .int a2] h := by
  refine PM.of 1 (lo := [.ref 123, .int a1, .int a2, pv_U]) rfl (by decide) rfl rfl (Nat.le_of_ble_eq_true rfl) ?_
  refine pv_aload_n (M := mX12_check) 0 dX12_check_0 1 rfl rfl rfl ?_
  refine pv_iload_n (M := mX12_check) 1 dX12_check_1 2 rfl rfl rfl ?_
  refine pv_callv (M := mX12_check) (as := [.int a1]) (st := []) (kc2 := 0) (ks2 := 0) dX12_check_2 wd1389 YX12_isBlank ⟨wd1391, wd55⟩ e123 rfl rfl (k_X12_isBlank g a1 e123) rfl rfl (Nat.le_of_ble_eq_true rfl) (by decide) rfl rfl 5 rfl (pv_k1 ?_)
  refine pv_if_eq (M := mX12_check) (tgt := 22) dX12_check_5 8 rfl (by decide) (fun _ => ?_) (fun q => absurd (by decide) q)
  refine pv_bipush (M := mX12_check) (v := (-2)) dX12_check_22 24 rfl (by decide) ?_
  exact pv_iret (M := mX12_check) dX12_check_24 rfl rfl ⟨rfl, rfl⟩

set_option maxHeartbeats 400000 in
set_option maxRecDepth 20000 in
theorem k_X12_costAll (g : pv_G) {h : List pv_C} (e123 : h[123]? = some (pv_o 12 [.int 0, .int 0, .int 1, .int 0, .int 0, .ref 124, .ref 125, .ref 126, .ref 127, .ref 128, .ref 129, .int 0, .int 0, .int 0, .int 0, .int 0, .int 0, .int 0, .int 0, .int 0, .int 0, .ref 130, .ref 131, .ref 132, .ref 133, .ref 134, .ref 135, .ref 136, .ref 137, .ref 138, .ref 139, .ref 140, .ref 141, .ref 142, .ref 143, .ref 144, .ref 145, .ref 146, .ref 147, .ref 148, .int 0, .int 0, .ref 149, .ref 150, .ref 151, .ref 152, .ref 153, .ref 154, .ref 155, .ref 156, .int 0, .ref 157, .ref 158, .ref 159, .ref 160, .ref 161, .ref 162, .ref 163, .ref 164, .ref 165, .ref 166, .int 0, .ref 167, .ref 168])) : PM g mX12_costAll yX12_costAll (pv_is (some (.int 0)) (h)) 1 0 0 [.ref 123] h := by
  refine PM.of 2 (lo := [.ref 123, pv_U, pv_U]) rfl (by decide) rfl rfl (Nat.le_of_ble_eq_true rfl) ?_
  refine pv_iconst (M := mX12_costAll) (v := 0) dX12_costAll_0 1 rfl (by decide) ?_
  refine pv_istore_n (M := mX12_costAll) 1 (lo2 := [.ref 123, .int 0, pv_U]) dX12_costAll_1 2 rfl rfl (by decide) rfl rfl ?_
  refine pv_iconst (M := mX12_costAll) (v := 0) dX12_costAll_2 3 rfl (by decide) ?_
  refine pv_istore_n (M := mX12_costAll) 2 (lo2 := [.ref 123, .int 0, .int 0]) dX12_costAll_3 4 rfl rfl (by decide) rfl rfl ?_
  refine pv_iload_n (M := mX12_costAll) 2 dX12_costAll_4 5 rfl rfl rfl ?_
  refine pv_aload_n (M := mX12_costAll) 0 dX12_costAll_5 6 rfl rfl rfl ?_
  refine pv_get (M := mX12_costAll) dX12_costAll_6 FX12 3 wd1176 (by decide) e123 rfl 9 rfl ?_
  refine pv_icmp_ge (M := mX12_costAll) (tgt := 27) dX12_costAll_9 12 rfl (by decide) (fun _ => ?_) (fun q => absurd (by decide) q)
  refine pv_iload_n (M := mX12_costAll) 1 dX12_costAll_27 28 rfl rfl rfl ?_
  exact pv_iret (M := mX12_costAll) dX12_costAll_28 rfl rfl ⟨rfl, rfl⟩

set_option maxHeartbeats 400000 in
set_option maxRecDepth 20000 in
theorem k_X12_in_8 (g : pv_G) {h : List pv_C} (a0 : Int32) : PM g mX12_in yX12_in (pv_is (some (.int 0)) (h)) 1 0 0 [.int a0, .int 10, .int 9] h := by
  refine PM.of 0 (lo := [.int a0, .int 10, .int 9]) rfl (by decide) rfl rfl (Nat.le_of_ble_eq_true rfl) ?_
  refine pv_iload_n (M := mX12_in) 0 dX12_in_0 1 rfl rfl rfl ?_
  refine pv_iload_n (M := mX12_in) 1 dX12_in_1 2 rfl rfl rfl ?_
  refine pv_icmp_lt (M := mX12_in) (tgt := 14) dX12_in_2 5 rfl (by decide) (fun c1 => ?_) (fun c1 => ?_)
  · refine pv_iconst (M := mX12_in) (v := 0) dX12_in_14 15 rfl (by decide) ?_
    exact pv_iret (M := mX12_in) dX12_in_15 rfl rfl ⟨rfl, rfl⟩
  · refine pv_iload_n (M := mX12_in) 0 dX12_in_5 6 rfl rfl rfl ?_
    refine pv_iload_n (M := mX12_in) 2 dX12_in_6 7 rfl rfl rfl ?_
    refine pv_icmp_gt (M := mX12_in) (tgt := 14) dX12_in_7 10 rfl (by decide) (fun c2 => ?_) (fun c2 => ?_)
    · refine pv_iconst (M := mX12_in) (v := 0) dX12_in_14 15 rfl (by decide) ?_
      exact pv_iret (M := mX12_in) dX12_in_15 rfl rfl ⟨rfl, rfl⟩
    · exact absurd (Int.le_trans (pv_b2 c1) (pv_b6 c2)) (by decide)

set_option maxHeartbeats 400000 in
set_option maxRecDepth 20000 in
theorem k_X12_in_9 (g : pv_G) {h : List pv_C} (a0 : Int32) : PM g mX12_in yX12_in (pv_is (some (.int (if a0 < 20 then 0 else (if 27 < a0 then 0 else 1)))) (h)) 1 0 0 [.int a0, .int 20, .int 27] h := by
  refine PM.of 0 (lo := [.int a0, .int 20, .int 27]) rfl (by decide) rfl rfl (Nat.le_of_ble_eq_true rfl) ?_
  refine pv_iload_n (M := mX12_in) 0 dX12_in_0 1 rfl rfl rfl ?_
  refine pv_iload_n (M := mX12_in) 1 dX12_in_1 2 rfl rfl rfl ?_
  refine pv_icmp_lt (M := mX12_in) (tgt := 14) dX12_in_2 5 rfl (by decide) (fun c1 => ?_) (fun c1 => ?_)
  · refine pv_iconst (M := mX12_in) (v := 0) dX12_in_14 15 rfl (by decide) ?_
    exact pv_iret (M := mX12_in) dX12_in_15 rfl rfl ⟨(by rw [if_pos c1] <;> rfl), rfl⟩
  · refine pv_iload_n (M := mX12_in) 0 dX12_in_5 6 rfl rfl rfl ?_
    refine pv_iload_n (M := mX12_in) 2 dX12_in_6 7 rfl rfl rfl ?_
    refine pv_icmp_gt (M := mX12_in) (tgt := 14) dX12_in_7 10 rfl (by decide) (fun c2 => ?_) (fun c2 => ?_)
    · refine pv_iconst (M := mX12_in) (v := 0) dX12_in_14 15 rfl (by decide) ?_
      exact pv_iret (M := mX12_in) dX12_in_15 rfl rfl ⟨(by rw [if_neg c1, if_pos c2] <;> rfl), rfl⟩
    · refine pv_iconst (M := mX12_in) (v := 1) dX12_in_10 11 rfl (by decide) ?_
      refine pv_goto (M := mX12_in) (tgt := 15) dX12_in_11 (by decide) ?_
      exact pv_iret (M := mX12_in) dX12_in_15 rfl rfl ⟨(by rw [if_neg c1, if_neg c2] <;> rfl), rfl⟩

set_option maxHeartbeats 400000 in
set_option maxRecDepth 20000 in
theorem k_X12_count (g : pv_G) {h : List pv_C} (a1 : Int32) (e123 : h[123]? = some (pv_o 12 [.int 0, .int 0, .int 1, .int 0, .int 0, .ref 124, .ref 125, .ref 126, .ref 127, .ref 128, .ref 129, .int 0, .int 0, .int 0, .int 0, .int 0, .int 0, .int 0, .int 0, .int 0, .int 0, .ref 130, .ref 131, .ref 132, .ref 133, .ref 134, .ref 135, .ref 136, .ref 137, .ref 138, .ref 139, .ref 140, .ref 141, .ref 142, .ref 143, .ref 144, .ref 145, .ref 146, .ref 147, .ref 148, .int 0, .int 0, .ref 149, .ref 150, .ref 151, .ref 152, .ref 153, .ref 154, .ref 155, .ref 156, .int 0, .ref 157, .ref 158, .ref 159, .ref 160, .ref 161, .ref 162, .ref 163, .ref 164, .ref 165, .ref 166, .int 0, .ref 167, .ref 168])) (e126 : h[126]? = some (pv_i 8 (fun _ => 0))) : PM g mX12_count yX12_count (pv_is (some (.int (if a1 = 0 then 0 else (if a1 = 1 then 0 else (if a1 = 2 then 0 else (if a1 = 3 then 0 else (if a1 = 4 then 0 else (if a1 = 5 then 0 else (if a1 = 6 then 1 else (if a1 = 7 then 0 else (if a1 < 20 then (-1) else (if 27 < a1 then (-1) else 0)))))))))))) (h)) 2 0 0 [.ref 123, .int a1] h := by
  refine PM.of 0 (lo := [.ref 123, .int a1]) rfl (by decide) rfl rfl (Nat.le_of_ble_eq_true rfl) ?_
  refine pv_iload_n (M := mX12_count) 1 dX12_count_0 1 rfl rfl rfl ?_
  by_cases c1 : a1 = 0
  · subst c1
    refine pv_tableIn (M := mX12_count) (tgt := 48) (off := 47) dX12_count_1 (by decide) (by decide) rfl (by decide) ?_
    refine pv_aload_n (M := mX12_count) 0 dX12_count_48 49 rfl rfl rfl ?_
    refine pv_get (M := mX12_count) dX12_count_49 FX12 0 wd1173 (by decide) e123 rfl 52 rfl ?_
    exact pv_iret (M := mX12_count) dX12_count_52 rfl rfl ⟨(by rw [if_pos rfl] <;> rfl), rfl⟩
  by_cases c2 : a1 = 1
  · subst c2
    refine pv_tableIn (M := mX12_count) (tgt := 53) (off := 52) dX12_count_1 (by decide) (by decide) rfl (by decide) ?_
    refine pv_aload_n (M := mX12_count) 0 dX12_count_53 54 rfl rfl rfl ?_
    refine pv_get (M := mX12_count) dX12_count_54 FX12 4 wd1177 (by decide) e123 rfl 57 rfl ?_
    exact pv_iret (M := mX12_count) dX12_count_57 rfl rfl ⟨(by rw [if_neg (by decide), if_pos rfl] <;> rfl), rfl⟩
  by_cases c3 : a1 = 2
  · subst c3
    refine pv_tableIn (M := mX12_count) (tgt := 58) (off := 57) dX12_count_1 (by decide) (by decide) rfl (by decide) ?_
    refine pv_aload_n (M := mX12_count) 0 dX12_count_58 59 rfl rfl rfl ?_
    refine pv_get (M := mX12_count) dX12_count_59 FX12 20 wd1193 (by decide) e123 rfl 62 rfl ?_
    exact pv_iret (M := mX12_count) dX12_count_62 rfl rfl ⟨(by rw [if_neg (by decide), if_neg (by decide), if_pos rfl] <;> rfl), rfl⟩
  by_cases c4 : a1 = 3
  · subst c4
    refine pv_tableIn (M := mX12_count) (tgt := 63) (off := 62) dX12_count_1 (by decide) (by decide) rfl (by decide) ?_
    refine pv_aload_n (M := mX12_count) 0 dX12_count_63 64 rfl rfl rfl ?_
    refine pv_get (M := mX12_count) dX12_count_64 FX12 11 wd1184 (by decide) e123 rfl 67 rfl ?_
    exact pv_iret (M := mX12_count) dX12_count_67 rfl rfl ⟨(by rw [if_neg (by decide), if_neg (by decide), if_neg (by decide), if_pos rfl] <;> rfl), rfl⟩
  by_cases c5 : a1 = 4
  · subst c5
    refine pv_tableIn (M := mX12_count) (tgt := 68) (off := 67) dX12_count_1 (by decide) (by decide) rfl (by decide) ?_
    refine pv_aload_n (M := mX12_count) 0 dX12_count_68 69 rfl rfl rfl ?_
    refine pv_get (M := mX12_count) dX12_count_69 FX12 1 wd1174 (by decide) e123 rfl 72 rfl ?_
    exact pv_iret (M := mX12_count) dX12_count_72 rfl rfl ⟨(by rw [if_neg (by decide), if_neg (by decide), if_neg (by decide), if_neg (by decide), if_pos rfl] <;> rfl), rfl⟩
  by_cases c6 : a1 = 5
  · subst c6
    refine pv_tableIn (M := mX12_count) (tgt := 73) (off := 72) dX12_count_1 (by decide) (by decide) rfl (by decide) ?_
    refine pv_aload_n (M := mX12_count) 0 dX12_count_73 74 rfl rfl rfl ?_
    refine pv_get (M := mX12_count) dX12_count_74 FX12 3 wd1176 (by decide) e123 rfl 77 rfl ?_
    exact pv_iret (M := mX12_count) dX12_count_77 rfl rfl ⟨(by rw [if_neg (by decide), if_neg (by decide), if_neg (by decide), if_neg (by decide), if_neg (by decide), if_pos rfl] <;> rfl), rfl⟩
  by_cases c7 : a1 = 6
  · subst c7
    refine pv_tableIn (M := mX12_count) (tgt := 78) (off := 77) dX12_count_1 (by decide) (by decide) rfl (by decide) ?_
    refine pv_aload_n (M := mX12_count) 0 dX12_count_78 79 rfl rfl rfl ?_
    refine pv_get (M := mX12_count) dX12_count_79 FX12 2 wd1175 (by decide) e123 rfl 82 rfl ?_
    exact pv_iret (M := mX12_count) dX12_count_82 rfl rfl ⟨(by rw [if_neg (by decide), if_neg (by decide), if_neg (by decide), if_neg (by decide), if_neg (by decide), if_neg (by decide), if_pos rfl] <;> rfl), rfl⟩
  by_cases c8 : a1 = 7
  · subst c8
    refine pv_tableIn (M := mX12_count) (tgt := 83) (off := 82) dX12_count_1 (by decide) (by decide) rfl (by decide) ?_
    refine pv_aload_n (M := mX12_count) 0 dX12_count_83 84 rfl rfl rfl ?_
    refine pv_callv (M := mX12_count) (as := []) (st := []) (kc2 := 0) (ks2 := 0) dX12_count_84 wd1795 YX12_costAll ⟨wd1797, wd123⟩ e123 rfl rfl (k_X12_costAll g e123) rfl rfl (Nat.le_of_ble_eq_true rfl) (by decide) rfl rfl 87 rfl (pv_k1 ?_)
    exact pv_iret (M := mX12_count) dX12_count_87 rfl rfl ⟨(by rw [if_neg (by decide), if_neg (by decide), if_neg (by decide), if_neg (by decide), if_neg (by decide), if_neg (by decide), if_neg (by decide), if_pos rfl] <;> rfl), rfl⟩
  refine pv_tableOut (M := mX12_count) (tgt := 88) dX12_count_1 (pv_out8 c1 c2 c3 c4 c5 c6 c7 c8) (by decide) ?_
  refine pv_iload_n (M := mX12_count) 1 dX12_count_88 89 rfl rfl rfl ?_
  refine pv_bipush (M := mX12_count) (v := 10) dX12_count_89 91 rfl (by decide) ?_
  refine pv_bipush (M := mX12_count) (v := 9) dX12_count_91 93 rfl (by decide) ?_
  refine pv_aload_n (M := mX12_count) 0 dX12_count_93 94 rfl rfl rfl ?_
  refine pv_get (M := mX12_count) dX12_count_94 FX12 0 wd1173 (by decide) e123 rfl 97 rfl ?_
  refine pv_iadd (M := mX12_count) (v := 9) dX12_count_97 98 rfl (by decide) ?_
  refine pv_calls (M := mX12_count) (as := [.int a1, .int 10, .int 9]) (st := []) (kc2 := 0) (ks2 := 0) dX12_count_98 wd1370 YX12_in wd1371 (k_X12_in_8 g a1) rfl rfl (Nat.le_of_ble_eq_true rfl) (by decide) rfl rfl 101 rfl (pv_k1 ?_)
  refine pv_if_eq (M := mX12_count) (tgt := 113) dX12_count_101 104 rfl (by decide) (fun _ => ?_) (fun q => absurd (by decide) q)
  refine pv_iload_n (M := mX12_count) 1 dX12_count_113 114 rfl rfl rfl ?_
  refine pv_bipush (M := mX12_count) (v := 20) dX12_count_114 116 rfl (by decide) ?_
  refine pv_bipush (M := mX12_count) (v := 27) dX12_count_116 118 rfl (by decide) ?_
  refine pv_calls (M := mX12_count) (as := [.int a1, .int 20, .int 27]) (st := []) (kc2 := 0) (ks2 := 0) dX12_count_118 wd1370 YX12_in wd1371 (k_X12_in_9 g a1) rfl rfl (Nat.le_of_ble_eq_true rfl) (by decide) rfl rfl 121 rfl (pv_k1 ?_)
  by_cases c9 : a1 < 20
  · refine pv_top (M := mX12_count) (if_pos c9) ?_
    refine pv_if_eq (M := mX12_count) (tgt := 136) dX12_count_121 124 rfl (by decide) (fun _ => ?_) (fun q => absurd (by decide) q)
    refine pv_iconst (M := mX12_count) (v := (-1)) dX12_count_136 137 rfl (by decide) ?_
    exact pv_iret (M := mX12_count) dX12_count_137 rfl rfl ⟨(by rw [if_neg c1, if_neg c2, if_neg c3, if_neg c4, if_neg c5, if_neg c6, if_neg c7, if_neg c8, if_pos c9] <;> rfl), rfl⟩
  · refine pv_top (M := mX12_count) (if_neg c9) ?_
    by_cases c10 : 27 < a1
    · refine pv_top (M := mX12_count) (if_pos c10) ?_
      refine pv_if_eq (M := mX12_count) (tgt := 136) dX12_count_121 124 rfl (by decide) (fun _ => ?_) (fun q => absurd (by decide) q)
      refine pv_iconst (M := mX12_count) (v := (-1)) dX12_count_136 137 rfl (by decide) ?_
      exact pv_iret (M := mX12_count) dX12_count_137 rfl rfl ⟨(by rw [if_neg c1, if_neg c2, if_neg c3, if_neg c4, if_neg c5, if_neg c6, if_neg c7, if_neg c8, if_neg c9, if_pos c10] <;> rfl), rfl⟩
    · refine pv_top (M := mX12_count) (if_neg c10) ?_
      refine pv_if_eq (M := mX12_count) (tgt := 136) dX12_count_121 124 rfl (by decide) (fun q => absurd q (by decide)) (fun _ => ?_)
      refine pv_aload_n (M := mX12_count) 0 dX12_count_124 125 rfl rfl rfl ?_
      refine pv_get (M := mX12_count) dX12_count_125 FX12 7 wd1180 (by decide) e123 rfl 128 rfl ?_
      refine pv_iload_n (M := mX12_count) 1 dX12_count_128 129 rfl rfl rfl ?_
      refine pv_bipush (M := mX12_count) (v := 20) dX12_count_129 131 rfl (by decide) ?_
      refine pv_isub (M := mX12_count) (v := a1 - 20) dX12_count_131 132 rfl rfl ?_
      by_cases c11 : a1 = 20
      · subst c11
        refine pv_top (M := mX12_count) (y := 0) (by decide) ?_
        refine pv_iald (M := mX12_count) dX12_count_132 e126 (pv_in0 (by decide)) (v := 0) rfl 133 rfl ?_
        refine pv_goto (M := mX12_count) (tgt := 137) dX12_count_133 (by decide) ?_
        exact pv_iret (M := mX12_count) dX12_count_137 rfl rfl ⟨(by rw [if_neg c1, if_neg c2, if_neg c3, if_neg c4, if_neg c5, if_neg c6, if_neg c7, if_neg c8, if_neg c9, if_neg c10] <;> rfl), rfl⟩
      by_cases c12 : a1 = 21
      · subst c12
        refine pv_top (M := mX12_count) (y := 1) (by decide) ?_
        refine pv_iald (M := mX12_count) dX12_count_132 e126 (pv_in0 (by decide)) (v := 0) rfl 133 rfl ?_
        refine pv_goto (M := mX12_count) (tgt := 137) dX12_count_133 (by decide) ?_
        exact pv_iret (M := mX12_count) dX12_count_137 rfl rfl ⟨(by rw [if_neg c1, if_neg c2, if_neg c3, if_neg c4, if_neg c5, if_neg c6, if_neg c7, if_neg c8, if_neg c9, if_neg c10] <;> rfl), rfl⟩
      by_cases c13 : a1 = 22
      · subst c13
        refine pv_top (M := mX12_count) (y := 2) (by decide) ?_
        refine pv_iald (M := mX12_count) dX12_count_132 e126 (pv_in0 (by decide)) (v := 0) rfl 133 rfl ?_
        refine pv_goto (M := mX12_count) (tgt := 137) dX12_count_133 (by decide) ?_
        exact pv_iret (M := mX12_count) dX12_count_137 rfl rfl ⟨(by rw [if_neg c1, if_neg c2, if_neg c3, if_neg c4, if_neg c5, if_neg c6, if_neg c7, if_neg c8, if_neg c9, if_neg c10] <;> rfl), rfl⟩
      by_cases c14 : a1 = 23
      · subst c14
        refine pv_top (M := mX12_count) (y := 3) (by decide) ?_
        refine pv_iald (M := mX12_count) dX12_count_132 e126 (pv_in0 (by decide)) (v := 0) rfl 133 rfl ?_
        refine pv_goto (M := mX12_count) (tgt := 137) dX12_count_133 (by decide) ?_
        exact pv_iret (M := mX12_count) dX12_count_137 rfl rfl ⟨(by rw [if_neg c1, if_neg c2, if_neg c3, if_neg c4, if_neg c5, if_neg c6, if_neg c7, if_neg c8, if_neg c9, if_neg c10] <;> rfl), rfl⟩
      by_cases c15 : a1 = 24
      · subst c15
        refine pv_top (M := mX12_count) (y := 4) (by decide) ?_
        refine pv_iald (M := mX12_count) dX12_count_132 e126 (pv_in0 (by decide)) (v := 0) rfl 133 rfl ?_
        refine pv_goto (M := mX12_count) (tgt := 137) dX12_count_133 (by decide) ?_
        exact pv_iret (M := mX12_count) dX12_count_137 rfl rfl ⟨(by rw [if_neg c1, if_neg c2, if_neg c3, if_neg c4, if_neg c5, if_neg c6, if_neg c7, if_neg c8, if_neg c9, if_neg c10] <;> rfl), rfl⟩
      by_cases c16 : a1 = 25
      · subst c16
        refine pv_top (M := mX12_count) (y := 5) (by decide) ?_
        refine pv_iald (M := mX12_count) dX12_count_132 e126 (pv_in0 (by decide)) (v := 0) rfl 133 rfl ?_
        refine pv_goto (M := mX12_count) (tgt := 137) dX12_count_133 (by decide) ?_
        exact pv_iret (M := mX12_count) dX12_count_137 rfl rfl ⟨(by rw [if_neg c1, if_neg c2, if_neg c3, if_neg c4, if_neg c5, if_neg c6, if_neg c7, if_neg c8, if_neg c9, if_neg c10] <;> rfl), rfl⟩
      by_cases c17 : a1 = 26
      · subst c17
        refine pv_top (M := mX12_count) (y := 6) (by decide) ?_
        refine pv_iald (M := mX12_count) dX12_count_132 e126 (pv_in0 (by decide)) (v := 0) rfl 133 rfl ?_
        refine pv_goto (M := mX12_count) (tgt := 137) dX12_count_133 (by decide) ?_
        exact pv_iret (M := mX12_count) dX12_count_137 rfl rfl ⟨(by rw [if_neg c1, if_neg c2, if_neg c3, if_neg c4, if_neg c5, if_neg c6, if_neg c7, if_neg c8, if_neg c9, if_neg c10] <;> rfl), rfl⟩
      by_cases c18 : a1 = 27
      · subst c18
        refine pv_top (M := mX12_count) (y := 7) (by decide) ?_
        refine pv_iald (M := mX12_count) dX12_count_132 e126 (pv_in0 (by decide)) (v := 0) rfl 133 rfl ?_
        refine pv_goto (M := mX12_count) (tgt := 137) dX12_count_133 (by decide) ?_
        exact pv_iret (M := mX12_count) dX12_count_137 rfl rfl ⟨(by rw [if_neg c1, if_neg c2, if_neg c3, if_neg c4, if_neg c5, if_neg c6, if_neg c7, if_neg c8, if_neg c9, if_neg c10] <;> rfl), rfl⟩
      have b1 : (20 : Int) ≤ a1.toInt := (pv_b2 c9)
      have b2 : a1.toInt ≤ (27 : Int) := (pv_b6 c10)
      have d0 : a1.toInt ≠ 20 := fun e => c11 (Int32.toInt_inj.mp e)
      have d1 : a1.toInt ≠ 21 := fun e => c12 (Int32.toInt_inj.mp e)
      have d2 : a1.toInt ≠ 22 := fun e => c13 (Int32.toInt_inj.mp e)
      have d3 : a1.toInt ≠ 23 := fun e => c14 (Int32.toInt_inj.mp e)
      have d4 : a1.toInt ≠ 24 := fun e => c15 (Int32.toInt_inj.mp e)
      have d5 : a1.toInt ≠ 25 := fun e => c16 (Int32.toInt_inj.mp e)
      have d6 : a1.toInt ≠ 26 := fun e => c17 (Int32.toInt_inj.mp e)
      have d7 : a1.toInt ≠ 27 := fun e => c18 (Int32.toInt_inj.mp e)
      omega

set_option maxHeartbeats 400000 in
set_option maxRecDepth 20000 in
theorem k_X12_day_2 (g : pv_G) {h : List pv_C} (a1 : Int32) (e123 : h[123]? = some (pv_o 12 [.int 0, .int 0, .int 1, .int 0, .int 0, .ref 124, .ref 125, .ref 126, .ref 127, .ref 128, .ref 129, .int 0, .int 0, .int 0, .int 0, .int 0, .int 0, .int 0, .int 0, .int 0, .int 0, .ref 130, .ref 131, .ref 132, .ref 133, .ref 134, .ref 135, .ref 136, .ref 137, .ref 138, .ref 139, .ref 140, .ref 141, .ref 142, .ref 143, .ref 144, .ref 145, .ref 146, .ref 147, .ref 148, .int 0, .int 0, .ref 149, .ref 150, .ref 151, .ref 152, .ref 153, .ref 154, .ref 155, .ref 156, .int 0, .ref 157, .ref 158, .ref 159, .ref 160, .ref 161, .ref 162, .ref 163, .ref 164, .ref 165, .ref 166, .int 0, .ref 167, .ref 168])) : PM g mX12_day yX12_day (pv_is (some (.int (if a1 < 0 then 0 else (if 999 < a1 then 0 else 1)))) ((if a1 < 0 then h else (if 999 < a1 then h else (h.set 123 (pv_o 12 [.int 0, .int a1, .int 1, .int 0, .int 0, .ref 124, .ref 125, .ref 126, .ref 127, .ref 128, .ref 129, .int 0, .int 0, .int 0, .int 0, .int 0, .int 0, .int 0, .int 0, .int 0, .int 0, .ref 130, .ref 131, .ref 132, .ref 133, .ref 134, .ref 135, .ref 136, .ref 137, .ref 138, .ref 139, .ref 140, .ref 141, .ref 142, .ref 143, .ref 144, .ref 145, .ref 146, .ref 147, .ref 148, .int 0, .int 0, .ref 149, .ref 150, .ref 151, .ref 152, .ref 153, .ref 154, .ref 155, .ref 156, .int 0, .ref 157, .ref 158, .ref 159, .ref 160, .ref 161, .ref 162, .ref 163, .ref 164, .ref 165, .ref 166, .int 0, .ref 167, .ref 168])))))) 2 0 0 [.ref 123, .int a1] h := by
  refine PM.of 0 (lo := [.ref 123, .int a1]) rfl (by decide) rfl rfl (Nat.le_of_ble_eq_true rfl) ?_
  refine pv_iload_n (M := mX12_day) 1 dX12_day_0 1 rfl rfl rfl ?_
  refine pv_aload_n (M := mX12_day) 0 dX12_day_1 2 rfl rfl rfl ?_
  refine pv_get (M := mX12_day) dX12_day_2 FX12 1 wd1174 (by decide) e123 rfl 5 rfl ?_
  refine pv_sipush (M := mX12_day) (v := 999) dX12_day_5 8 rfl (by decide) ?_
  refine pv_calls (M := mX12_day) (as := [.int a1, .int 0, .int 999]) (st := []) (kc2 := 0) (ks2 := 0) dX12_day_8 wd1370 YX12_in wd1371 (k_X12_in g a1) rfl rfl (Nat.le_of_ble_eq_true rfl) (by decide) rfl rfl 11 rfl (pv_k1 ?_)
  by_cases c1 : a1 < 0
  · refine pv_top (M := mX12_day) (if_pos c1) ?_
    refine pv_if_ne (M := mX12_day) (tgt := 16) dX12_day_11 14 rfl (by decide) (fun q => absurd (by decide) q) (fun _ => ?_)
    refine pv_iconst (M := mX12_day) (v := 0) dX12_day_14 15 rfl (by decide) ?_
    exact pv_iret (M := mX12_day) dX12_day_15 rfl rfl ⟨(by rw [if_pos c1] <;> rfl), (by rw [if_pos c1] <;> rfl)⟩
  · refine pv_top (M := mX12_day) (if_neg c1) ?_
    by_cases c2 : 999 < a1
    · refine pv_top (M := mX12_day) (if_pos c2) ?_
      refine pv_if_ne (M := mX12_day) (tgt := 16) dX12_day_11 14 rfl (by decide) (fun q => absurd (by decide) q) (fun _ => ?_)
      refine pv_iconst (M := mX12_day) (v := 0) dX12_day_14 15 rfl (by decide) ?_
      exact pv_iret (M := mX12_day) dX12_day_15 rfl rfl ⟨(by rw [if_neg c1, if_pos c2] <;> rfl), (by rw [if_neg c1, if_pos c2] <;> rfl)⟩
    · refine pv_top (M := mX12_day) (if_neg c2) ?_
      refine pv_if_ne (M := mX12_day) (tgt := 16) dX12_day_11 14 rfl (by decide) (fun _ => ?_) (fun q => absurd q (by decide))
      refine pv_aload_n (M := mX12_day) 0 dX12_day_16 17 rfl rfl rfl ?_
      refine pv_iload_n (M := mX12_day) 1 dX12_day_17 18 rfl rfl rfl ?_
      refine pv_put (M := mX12_day) (fs2 := [.int 0, .int a1, .int 1, .int 0, .int 0, .ref 124, .ref 125, .ref 126, .ref 127, .ref 128, .ref 129, .int 0, .int 0, .int 0, .int 0, .int 0, .int 0, .int 0, .int 0, .int 0, .int 0, .ref 130, .ref 131, .ref 132, .ref 133, .ref 134, .ref 135, .ref 136, .ref 137, .ref 138, .ref 139, .ref 140, .ref 141, .ref 142, .ref 143, .ref 144, .ref 145, .ref 146, .ref 147, .ref 148, .int 0, .int 0, .ref 149, .ref 150, .ref 151, .ref 152, .ref 153, .ref 154, .ref 155, .ref 156, .int 0, .ref 157, .ref 158, .ref 159, .ref 160, .ref 161, .ref 162, .ref 163, .ref 164, .ref 165, .ref 166, .int 0, .ref 167, .ref 168]) dX12_day_18 FX12 1 wd1174 (by decide) rfl e123 (Nat.le_of_ble_eq_true rfl) (fun _ => rfl) (fun _ => rfl) rfl rfl 21 rfl ?_
      refine pv_iconst (M := mX12_day) (v := 1) dX12_day_21 22 rfl (by decide) ?_
      exact pv_iret (M := mX12_day) dX12_day_22 rfl rfl ⟨(by rw [if_neg c1, if_neg c2] <;> rfl), (by rw [if_neg c1, if_neg c2] <;> rfl)⟩

set_option maxHeartbeats 400000 in
set_option maxRecDepth 20000 in
theorem k_X12_feed_2 (g : pv_G) {h : List pv_C} (a1 : Int32) (a2 : Int32) (a3 : Int32) (a4 : Int32) (a5 : Int32) (e123 : h[123]? = some (pv_o 12 [.int 0, .int 0, .int 1, .int 0, .int 0, .ref 124, .ref 125, .ref 126, .ref 127, .ref 128, .ref 129, .int 0, .int 0, .int 0, .int 0, .int 0, .int 0, .int 0, .int 0, .int 0, .int 0, .ref 130, .ref 131, .ref 132, .ref 133, .ref 134, .ref 135, .ref 136, .ref 137, .ref 138, .ref 139, .ref 140, .ref 141, .ref 142, .ref 143, .ref 144, .ref 145, .ref 146, .ref 147, .ref 148, .int 0, .int 0, .ref 149, .ref 150, .ref 151, .ref 152, .ref 153, .ref 154, .ref 155, .ref 156, .int 0, .ref 157, .ref 158, .ref 159, .ref 160, .ref 161, .ref 162, .ref 163, .ref 164, .ref 165, .ref 166, .int 0, .ref 167, .ref 168])) (e129 : h[129]? = some (pv_b 200 (fun _ => 0))) : PM g mX12_feed yX12_feed (pv_is (some (.int 20)) (((((((((((((((((((((((((((((((((((((((((h.set 129 (pv_b 200 (upd (fun _ => 0) 0 (vp_nar .byte ((a1 >>> (24 &&& 31)).toInt8.toInt32))))).set 123 (pv_o 12 [.int 0, .int 0, .int 1, .int 0, .int 0, .ref 124, .ref 125, .ref 126, .ref 127, .ref 128, .ref 129, .int 1, .int 0, .int 0, .int 0, .int 0, .int 0, .int 0, .int 0, .int 0, .int 0, .ref 130, .ref 131, .ref 132, .ref 133, .ref 134, .ref 135, .ref 136, .ref 137, .ref 138, .ref 139, .ref 140, .ref 141, .ref 142, .ref 143, .ref 144, .ref 145, .ref 146, .ref 147, .ref 148, .int 0, .int 0, .ref 149, .ref 150, .ref 151, .ref 152, .ref 153, .ref 154, .ref 155, .ref 156, .int 0, .ref 157, .ref 158, .ref 159, .ref 160, .ref 161, .ref 162, .ref 163, .ref 164, .ref 165, .ref 166, .int 0, .ref 167, .ref 168])).set 129 (pv_b 200 (upd (upd (fun _ => 0) 0 (vp_nar .byte ((a1 >>> (24 &&& 31)).toInt8.toInt32))) 1 (vp_nar .byte ((a1 >>> (16 &&& 31)).toInt8.toInt32))))).set 123 (pv_o 12 [.int 0, .int 0, .int 1, .int 0, .int 0, .ref 124, .ref 125, .ref 126, .ref 127, .ref 128, .ref 129, .int 2, .int 0, .int 0, .int 0, .int 0, .int 0, .int 0, .int 0, .int 0, .int 0, .ref 130, .ref 131, .ref 132, .ref 133, .ref 134, .ref 135, .ref 136, .ref 137, .ref 138, .ref 139, .ref 140, .ref 141, .ref 142, .ref 143, .ref 144, .ref 145, .ref 146, .ref 147, .ref 148, .int 0, .int 0, .ref 149, .ref 150, .ref 151, .ref 152, .ref 153, .ref 154, .ref 155, .ref 156, .int 0, .ref 157, .ref 158, .ref 159, .ref 160, .ref 161, .ref 162, .ref 163, .ref 164, .ref 165, .ref 166, .int 0, .ref 167, .ref 168])).set 129 (pv_b 200 (upd (upd (upd (fun _ => 0) 0 (vp_nar .byte ((a1 >>> (24 &&& 31)).toInt8.toInt32))) 1 (vp_nar .byte ((a1 >>> (16 &&& 31)).toInt8.toInt32))) 2 (vp_nar .byte ((a1 >>> (8 &&& 31)).toInt8.toInt32))))).set 123 (pv_o 12 [.int 0, .int 0, .int 1, .int 0, .int 0, .ref 124, .ref 125, .ref 126, .ref 127, .ref 128, .ref 129, .int 3, .int 0, .int 0, .int 0, .int 0, .int 0, .int 0, .int 0, .int 0, .int 0, .ref 130, .ref 131, .ref 132, .ref 133, .ref 134, .ref 135, .ref 136, .ref 137, .ref 138, .ref 139, .ref 140, .ref 141, .ref 142, .ref 143, .ref 144, .ref 145, .ref 146, .ref 147, .ref 148, .int 0, .int 0, .ref 149, .ref 150, .ref 151, .ref 152, .ref 153, .ref 154, .ref 155, .ref 156, .int 0, .ref 157, .ref 158, .ref 159, .ref 160, .ref 161, .ref 162, .ref 163, .ref 164, .ref 165, .ref 166, .int 0, .ref 167, .ref 168])).set 129 (pv_b 200 (upd (upd (upd (upd (fun _ => 0) 0 (vp_nar .byte ((a1 >>> (24 &&& 31)).toInt8.toInt32))) 1 (vp_nar .byte ((a1 >>> (16 &&& 31)).toInt8.toInt32))) 2 (vp_nar .byte ((a1 >>> (8 &&& 31)).toInt8.toInt32))) 3 (vp_nar .byte ((a1 >>> (0 &&& 31)).toInt8.toInt32))))).set 123 (pv_o 12 [.int 0, .int 0, .int 1, .int 0, .int 0, .ref 124, .ref 125, .ref 126, .ref 127, .ref 128, .ref 129, .int 4, .int 0, .int 0, .int 0, .int 0, .int 0, .int 0, .int 0, .int 0, .int 0, .ref 130, .ref 131, .ref 132, .ref 133, .ref 134, .ref 135, .ref 136, .ref 137, .ref 138, .ref 139, .ref 140, .ref 141, .ref 142, .ref 143, .ref 144, .ref 145, .ref 146, .ref 147, .ref 148, .int 0, .int 0, .ref 149, .ref 150, .ref 151, .ref 152, .ref 153, .ref 154, .ref 155, .ref 156, .int 0, .ref 157, .ref 158, .ref 159, .ref 160, .ref 161, .ref 162, .ref 163, .ref 164, .ref 165, .ref 166, .int 0, .ref 167, .ref 168])).set 129 (pv_b 200 (upd (upd (upd (upd (upd (fun _ => 0) 0 (vp_nar .byte ((a1 >>> (24 &&& 31)).toInt8.toInt32))) 1 (vp_nar .byte ((a1 >>> (16 &&& 31)).toInt8.toInt32))) 2 (vp_nar .byte ((a1 >>> (8 &&& 31)).toInt8.toInt32))) 3 (vp_nar .byte ((a1 >>> (0 &&& 31)).toInt8.toInt32))) 4 (vp_nar .byte ((a2 >>> (24 &&& 31)).toInt8.toInt32))))).set 123 (pv_o 12 [.int 0, .int 0, .int 1, .int 0, .int 0, .ref 124, .ref 125, .ref 126, .ref 127, .ref 128, .ref 129, .int 5, .int 0, .int 0, .int 0, .int 0, .int 0, .int 0, .int 0, .int 0, .int 0, .ref 130, .ref 131, .ref 132, .ref 133, .ref 134, .ref 135, .ref 136, .ref 137, .ref 138, .ref 139, .ref 140, .ref 141, .ref 142, .ref 143, .ref 144, .ref 145, .ref 146, .ref 147, .ref 148, .int 0, .int 0, .ref 149, .ref 150, .ref 151, .ref 152, .ref 153, .ref 154, .ref 155, .ref 156, .int 0, .ref 157, .ref 158, .ref 159, .ref 160, .ref 161, .ref 162, .ref 163, .ref 164, .ref 165, .ref 166, .int 0, .ref 167, .ref 168])).set 129 (pv_b 200 (upd (upd (upd (upd (upd (upd (fun _ => 0) 0 (vp_nar .byte ((a1 >>> (24 &&& 31)).toInt8.toInt32))) 1 (vp_nar .byte ((a1 >>> (16 &&& 31)).toInt8.toInt32))) 2 (vp_nar .byte ((a1 >>> (8 &&& 31)).toInt8.toInt32))) 3 (vp_nar .byte ((a1 >>> (0 &&& 31)).toInt8.toInt32))) 4 (vp_nar .byte ((a2 >>> (24 &&& 31)).toInt8.toInt32))) 5 (vp_nar .byte ((a2 >>> (16 &&& 31)).toInt8.toInt32))))).set 123 (pv_o 12 [.int 0, .int 0, .int 1, .int 0, .int 0, .ref 124, .ref 125, .ref 126, .ref 127, .ref 128, .ref 129, .int 6, .int 0, .int 0, .int 0, .int 0, .int 0, .int 0, .int 0, .int 0, .int 0, .ref 130, .ref 131, .ref 132, .ref 133, .ref 134, .ref 135, .ref 136, .ref 137, .ref 138, .ref 139, .ref 140, .ref 141, .ref 142, .ref 143, .ref 144, .ref 145, .ref 146, .ref 147, .ref 148, .int 0, .int 0, .ref 149, .ref 150, .ref 151, .ref 152, .ref 153, .ref 154, .ref 155, .ref 156, .int 0, .ref 157, .ref 158, .ref 159, .ref 160, .ref 161, .ref 162, .ref 163, .ref 164, .ref 165, .ref 166, .int 0, .ref 167, .ref 168])).set 129 (pv_b 200 (upd (upd (upd (upd (upd (upd (upd (fun _ => 0) 0 (vp_nar .byte ((a1 >>> (24 &&& 31)).toInt8.toInt32))) 1 (vp_nar .byte ((a1 >>> (16 &&& 31)).toInt8.toInt32))) 2 (vp_nar .byte ((a1 >>> (8 &&& 31)).toInt8.toInt32))) 3 (vp_nar .byte ((a1 >>> (0 &&& 31)).toInt8.toInt32))) 4 (vp_nar .byte ((a2 >>> (24 &&& 31)).toInt8.toInt32))) 5 (vp_nar .byte ((a2 >>> (16 &&& 31)).toInt8.toInt32))) 6 (vp_nar .byte ((a2 >>> (8 &&& 31)).toInt8.toInt32))))).set 123 (pv_o 12 [.int 0, .int 0, .int 1, .int 0, .int 0, .ref 124, .ref 125, .ref 126, .ref 127, .ref 128, .ref 129, .int 7, .int 0, .int 0, .int 0, .int 0, .int 0, .int 0, .int 0, .int 0, .int 0, .ref 130, .ref 131, .ref 132, .ref 133, .ref 134, .ref 135, .ref 136, .ref 137, .ref 138, .ref 139, .ref 140, .ref 141, .ref 142, .ref 143, .ref 144, .ref 145, .ref 146, .ref 147, .ref 148, .int 0, .int 0, .ref 149, .ref 150, .ref 151, .ref 152, .ref 153, .ref 154, .ref 155, .ref 156, .int 0, .ref 157, .ref 158, .ref 159, .ref 160, .ref 161, .ref 162, .ref 163, .ref 164, .ref 165, .ref 166, .int 0, .ref 167, .ref 168])).set 129 (pv_b 200 (upd (upd (upd (upd (upd (upd (upd (upd (fun _ => 0) 0 (vp_nar .byte ((a1 >>> (24 &&& 31)).toInt8.toInt32))) 1 (vp_nar .byte ((a1 >>> (16 &&& 31)).toInt8.toInt32))) 2 (vp_nar .byte ((a1 >>> (8 &&& 31)).toInt8.toInt32))) 3 (vp_nar .byte ((a1 >>> (0 &&& 31)).toInt8.toInt32))) 4 (vp_nar .byte ((a2 >>> (24 &&& 31)).toInt8.toInt32))) 5 (vp_nar .byte ((a2 >>> (16 &&& 31)).toInt8.toInt32))) 6 (vp_nar .byte ((a2 >>> (8 &&& 31)).toInt8.toInt32))) 7 (vp_nar .byte ((a2 >>> (0 &&& 31)).toInt8.toInt32))))).set 123 (pv_o 12 [.int 0, .int 0, .int 1, .int 0, .int 0, .ref 124, .ref 125, .ref 126, .ref 127, .ref 128, .ref 129, .int 8, .int 0, .int 0, .int 0, .int 0, .int 0, .int 0, .int 0, .int 0, .int 0, .ref 130, .ref 131, .ref 132, .ref 133, .ref 134, .ref 135, .ref 136, .ref 137, .ref 138, .ref 139, .ref 140, .ref 141, .ref 142, .ref 143, .ref 144, .ref 145, .ref 146, .ref 147, .ref 148, .int 0, .int 0, .ref 149, .ref 150, .ref 151, .ref 152, .ref 153, .ref 154, .ref 155, .ref 156, .int 0, .ref 157, .ref 158, .ref 159, .ref 160, .ref 161, .ref 162, .ref 163, .ref 164, .ref 165, .ref 166, .int 0, .ref 167, .ref 168])).set 129 (pv_b 200 (upd (upd (upd (upd (upd (upd (upd (upd (upd (fun _ => 0) 0 (vp_nar .byte ((a1 >>> (24 &&& 31)).toInt8.toInt32))) 1 (vp_nar .byte ((a1 >>> (16 &&& 31)).toInt8.toInt32))) 2 (vp_nar .byte ((a1 >>> (8 &&& 31)).toInt8.toInt32))) 3 (vp_nar .byte ((a1 >>> (0 &&& 31)).toInt8.toInt32))) 4 (vp_nar .byte ((a2 >>> (24 &&& 31)).toInt8.toInt32))) 5 (vp_nar .byte ((a2 >>> (16 &&& 31)).toInt8.toInt32))) 6 (vp_nar .byte ((a2 >>> (8 &&& 31)).toInt8.toInt32))) 7 (vp_nar .byte ((a2 >>> (0 &&& 31)).toInt8.toInt32))) 8 (vp_nar .byte ((a3 >>> (24 &&& 31)).toInt8.toInt32))))).set 123 (pv_o 12 [.int 0, .int 0, .int 1, .int 0, .int 0, .ref 124, .ref 125, .ref 126, .ref 127, .ref 128, .ref 129, .int 9, .int 0, .int 0, .int 0, .int 0, .int 0, .int 0, .int 0, .int 0, .int 0, .ref 130, .ref 131, .ref 132, .ref 133, .ref 134, .ref 135, .ref 136, .ref 137, .ref 138, .ref 139, .ref 140, .ref 141, .ref 142, .ref 143, .ref 144, .ref 145, .ref 146, .ref 147, .ref 148, .int 0, .int 0, .ref 149, .ref 150, .ref 151, .ref 152, .ref 153, .ref 154, .ref 155, .ref 156, .int 0, .ref 157, .ref 158, .ref 159, .ref 160, .ref 161, .ref 162, .ref 163, .ref 164, .ref 165, .ref 166, .int 0, .ref 167, .ref 168])).set 129 (pv_b 200 (upd (upd (upd (upd (upd (upd (upd (upd (upd (upd (fun _ => 0) 0 (vp_nar .byte ((a1 >>> (24 &&& 31)).toInt8.toInt32))) 1 (vp_nar .byte ((a1 >>> (16 &&& 31)).toInt8.toInt32))) 2 (vp_nar .byte ((a1 >>> (8 &&& 31)).toInt8.toInt32))) 3 (vp_nar .byte ((a1 >>> (0 &&& 31)).toInt8.toInt32))) 4 (vp_nar .byte ((a2 >>> (24 &&& 31)).toInt8.toInt32))) 5 (vp_nar .byte ((a2 >>> (16 &&& 31)).toInt8.toInt32))) 6 (vp_nar .byte ((a2 >>> (8 &&& 31)).toInt8.toInt32))) 7 (vp_nar .byte ((a2 >>> (0 &&& 31)).toInt8.toInt32))) 8 (vp_nar .byte ((a3 >>> (24 &&& 31)).toInt8.toInt32))) 9 (vp_nar .byte ((a3 >>> (16 &&& 31)).toInt8.toInt32))))).set 123 (pv_o 12 [.int 0, .int 0, .int 1, .int 0, .int 0, .ref 124, .ref 125, .ref 126, .ref 127, .ref 128, .ref 129, .int 10, .int 0, .int 0, .int 0, .int 0, .int 0, .int 0, .int 0, .int 0, .int 0, .ref 130, .ref 131, .ref 132, .ref 133, .ref 134, .ref 135, .ref 136, .ref 137, .ref 138, .ref 139, .ref 140, .ref 141, .ref 142, .ref 143, .ref 144, .ref 145, .ref 146, .ref 147, .ref 148, .int 0, .int 0, .ref 149, .ref 150, .ref 151, .ref 152, .ref 153, .ref 154, .ref 155, .ref 156, .int 0, .ref 157, .ref 158, .ref 159, .ref 160, .ref 161, .ref 162, .ref 163, .ref 164, .ref 165, .ref 166, .int 0, .ref 167, .ref 168])).set 129 (pv_b 200 (upd (upd (upd (upd (upd (upd (upd (upd (upd (upd (upd (fun _ => 0) 0 (vp_nar .byte ((a1 >>> (24 &&& 31)).toInt8.toInt32))) 1 (vp_nar .byte ((a1 >>> (16 &&& 31)).toInt8.toInt32))) 2 (vp_nar .byte ((a1 >>> (8 &&& 31)).toInt8.toInt32))) 3 (vp_nar .byte ((a1 >>> (0 &&& 31)).toInt8.toInt32))) 4 (vp_nar .byte ((a2 >>> (24 &&& 31)).toInt8.toInt32))) 5 (vp_nar .byte ((a2 >>> (16 &&& 31)).toInt8.toInt32))) 6 (vp_nar .byte ((a2 >>> (8 &&& 31)).toInt8.toInt32))) 7 (vp_nar .byte ((a2 >>> (0 &&& 31)).toInt8.toInt32))) 8 (vp_nar .byte ((a3 >>> (24 &&& 31)).toInt8.toInt32))) 9 (vp_nar .byte ((a3 >>> (16 &&& 31)).toInt8.toInt32))) 10 (vp_nar .byte ((a3 >>> (8 &&& 31)).toInt8.toInt32))))).set 123 (pv_o 12 [.int 0, .int 0, .int 1, .int 0, .int 0, .ref 124, .ref 125, .ref 126, .ref 127, .ref 128, .ref 129, .int 11, .int 0, .int 0, .int 0, .int 0, .int 0, .int 0, .int 0, .int 0, .int 0, .ref 130, .ref 131, .ref 132, .ref 133, .ref 134, .ref 135, .ref 136, .ref 137, .ref 138, .ref 139, .ref 140, .ref 141, .ref 142, .ref 143, .ref 144, .ref 145, .ref 146, .ref 147, .ref 148, .int 0, .int 0, .ref 149, .ref 150, .ref 151, .ref 152, .ref 153, .ref 154, .ref 155, .ref 156, .int 0, .ref 157, .ref 158, .ref 159, .ref 160, .ref 161, .ref 162, .ref 163, .ref 164, .ref 165, .ref 166, .int 0, .ref 167, .ref 168])).set 129 (pv_b 200 (upd (upd (upd (upd (upd (upd (upd (upd (upd (upd (upd (upd (fun _ => 0) 0 (vp_nar .byte ((a1 >>> (24 &&& 31)).toInt8.toInt32))) 1 (vp_nar .byte ((a1 >>> (16 &&& 31)).toInt8.toInt32))) 2 (vp_nar .byte ((a1 >>> (8 &&& 31)).toInt8.toInt32))) 3 (vp_nar .byte ((a1 >>> (0 &&& 31)).toInt8.toInt32))) 4 (vp_nar .byte ((a2 >>> (24 &&& 31)).toInt8.toInt32))) 5 (vp_nar .byte ((a2 >>> (16 &&& 31)).toInt8.toInt32))) 6 (vp_nar .byte ((a2 >>> (8 &&& 31)).toInt8.toInt32))) 7 (vp_nar .byte ((a2 >>> (0 &&& 31)).toInt8.toInt32))) 8 (vp_nar .byte ((a3 >>> (24 &&& 31)).toInt8.toInt32))) 9 (vp_nar .byte ((a3 >>> (16 &&& 31)).toInt8.toInt32))) 10 (vp_nar .byte ((a3 >>> (8 &&& 31)).toInt8.toInt32))) 11 (vp_nar .byte ((a3 >>> (0 &&& 31)).toInt8.toInt32))))).set 123 (pv_o 12 [.int 0, .int 0, .int 1, .int 0, .int 0, .ref 124, .ref 125, .ref 126, .ref 127, .ref 128, .ref 129, .int 12, .int 0, .int 0, .int 0, .int 0, .int 0, .int 0, .int 0, .int 0, .int 0, .ref 130, .ref 131, .ref 132, .ref 133, .ref 134, .ref 135, .ref 136, .ref 137, .ref 138, .ref 139, .ref 140, .ref 141, .ref 142, .ref 143, .ref 144, .ref 145, .ref 146, .ref 147, .ref 148, .int 0, .int 0, .ref 149, .ref 150, .ref 151, .ref 152, .ref 153, .ref 154, .ref 155, .ref 156, .int 0, .ref 157, .ref 158, .ref 159, .ref 160, .ref 161, .ref 162, .ref 163, .ref 164, .ref 165, .ref 166, .int 0, .ref 167, .ref 168])).set 129 (pv_b 200 (upd (upd (upd (upd (upd (upd (upd (upd (upd (upd (upd (upd (upd (fun _ => 0) 0 (vp_nar .byte ((a1 >>> (24 &&& 31)).toInt8.toInt32))) 1 (vp_nar .byte ((a1 >>> (16 &&& 31)).toInt8.toInt32))) 2 (vp_nar .byte ((a1 >>> (8 &&& 31)).toInt8.toInt32))) 3 (vp_nar .byte ((a1 >>> (0 &&& 31)).toInt8.toInt32))) 4 (vp_nar .byte ((a2 >>> (24 &&& 31)).toInt8.toInt32))) 5 (vp_nar .byte ((a2 >>> (16 &&& 31)).toInt8.toInt32))) 6 (vp_nar .byte ((a2 >>> (8 &&& 31)).toInt8.toInt32))) 7 (vp_nar .byte ((a2 >>> (0 &&& 31)).toInt8.toInt32))) 8 (vp_nar .byte ((a3 >>> (24 &&& 31)).toInt8.toInt32))) 9 (vp_nar .byte ((a3 >>> (16 &&& 31)).toInt8.toInt32))) 10 (vp_nar .byte ((a3 >>> (8 &&& 31)).toInt8.toInt32))) 11 (vp_nar .byte ((a3 >>> (0 &&& 31)).toInt8.toInt32))) 12 (vp_nar .byte ((a4 >>> (24 &&& 31)).toInt8.toInt32))))).set 123 (pv_o 12 [.int 0, .int 0, .int 1, .int 0, .int 0, .ref 124, .ref 125, .ref 126, .ref 127, .ref 128, .ref 129, .int 13, .int 0, .int 0, .int 0, .int 0, .int 0, .int 0, .int 0, .int 0, .int 0, .ref 130, .ref 131, .ref 132, .ref 133, .ref 134, .ref 135, .ref 136, .ref 137, .ref 138, .ref 139, .ref 140, .ref 141, .ref 142, .ref 143, .ref 144, .ref 145, .ref 146, .ref 147, .ref 148, .int 0, .int 0, .ref 149, .ref 150, .ref 151, .ref 152, .ref 153, .ref 154, .ref 155, .ref 156, .int 0, .ref 157, .ref 158, .ref 159, .ref 160, .ref 161, .ref 162, .ref 163, .ref 164, .ref 165, .ref 166, .int 0, .ref 167, .ref 168])).set 129 (pv_b 200 (upd (upd (upd (upd (upd (upd (upd (upd (upd (upd (upd (upd (upd (upd (fun _ => 0) 0 (vp_nar .byte ((a1 >>> (24 &&& 31)).toInt8.toInt32))) 1 (vp_nar .byte ((a1 >>> (16 &&& 31)).toInt8.toInt32))) 2 (vp_nar .byte ((a1 >>> (8 &&& 31)).toInt8.toInt32))) 3 (vp_nar .byte ((a1 >>> (0 &&& 31)).toInt8.toInt32))) 4 (vp_nar .byte ((a2 >>> (24 &&& 31)).toInt8.toInt32))) 5 (vp_nar .byte ((a2 >>> (16 &&& 31)).toInt8.toInt32))) 6 (vp_nar .byte ((a2 >>> (8 &&& 31)).toInt8.toInt32))) 7 (vp_nar .byte ((a2 >>> (0 &&& 31)).toInt8.toInt32))) 8 (vp_nar .byte ((a3 >>> (24 &&& 31)).toInt8.toInt32))) 9 (vp_nar .byte ((a3 >>> (16 &&& 31)).toInt8.toInt32))) 10 (vp_nar .byte ((a3 >>> (8 &&& 31)).toInt8.toInt32))) 11 (vp_nar .byte ((a3 >>> (0 &&& 31)).toInt8.toInt32))) 12 (vp_nar .byte ((a4 >>> (24 &&& 31)).toInt8.toInt32))) 13 (vp_nar .byte ((a4 >>> (16 &&& 31)).toInt8.toInt32))))).set 123 (pv_o 12 [.int 0, .int 0, .int 1, .int 0, .int 0, .ref 124, .ref 125, .ref 126, .ref 127, .ref 128, .ref 129, .int 14, .int 0, .int 0, .int 0, .int 0, .int 0, .int 0, .int 0, .int 0, .int 0, .ref 130, .ref 131, .ref 132, .ref 133, .ref 134, .ref 135, .ref 136, .ref 137, .ref 138, .ref 139, .ref 140, .ref 141, .ref 142, .ref 143, .ref 144, .ref 145, .ref 146, .ref 147, .ref 148, .int 0, .int 0, .ref 149, .ref 150, .ref 151, .ref 152, .ref 153, .ref 154, .ref 155, .ref 156, .int 0, .ref 157, .ref 158, .ref 159, .ref 160, .ref 161, .ref 162, .ref 163, .ref 164, .ref 165, .ref 166, .int 0, .ref 167, .ref 168])).set 129 (pv_b 200 (upd (upd (upd (upd (upd (upd (upd (upd (upd (upd (upd (upd (upd (upd (upd (fun _ => 0) 0 (vp_nar .byte ((a1 >>> (24 &&& 31)).toInt8.toInt32))) 1 (vp_nar .byte ((a1 >>> (16 &&& 31)).toInt8.toInt32))) 2 (vp_nar .byte ((a1 >>> (8 &&& 31)).toInt8.toInt32))) 3 (vp_nar .byte ((a1 >>> (0 &&& 31)).toInt8.toInt32))) 4 (vp_nar .byte ((a2 >>> (24 &&& 31)).toInt8.toInt32))) 5 (vp_nar .byte ((a2 >>> (16 &&& 31)).toInt8.toInt32))) 6 (vp_nar .byte ((a2 >>> (8 &&& 31)).toInt8.toInt32))) 7 (vp_nar .byte ((a2 >>> (0 &&& 31)).toInt8.toInt32))) 8 (vp_nar .byte ((a3 >>> (24 &&& 31)).toInt8.toInt32))) 9 (vp_nar .byte ((a3 >>> (16 &&& 31)).toInt8.toInt32))) 10 (vp_nar .byte ((a3 >>> (8 &&& 31)).toInt8.toInt32))) 11 (vp_nar .byte ((a3 >>> (0 &&& 31)).toInt8.toInt32))) 12 (vp_nar .byte ((a4 >>> (24 &&& 31)).toInt8.toInt32))) 13 (vp_nar .byte ((a4 >>> (16 &&& 31)).toInt8.toInt32))) 14 (vp_nar .byte ((a4 >>> (8 &&& 31)).toInt8.toInt32))))).set 123 (pv_o 12 [.int 0, .int 0, .int 1, .int 0, .int 0, .ref 124, .ref 125, .ref 126, .ref 127, .ref 128, .ref 129, .int 15, .int 0, .int 0, .int 0, .int 0, .int 0, .int 0, .int 0, .int 0, .int 0, .ref 130, .ref 131, .ref 132, .ref 133, .ref 134, .ref 135, .ref 136, .ref 137, .ref 138, .ref 139, .ref 140, .ref 141, .ref 142, .ref 143, .ref 144, .ref 145, .ref 146, .ref 147, .ref 148, .int 0, .int 0, .ref 149, .ref 150, .ref 151, .ref 152, .ref 153, .ref 154, .ref 155, .ref 156, .int 0, .ref 157, .ref 158, .ref 159, .ref 160, .ref 161, .ref 162, .ref 163, .ref 164, .ref 165, .ref 166, .int 0, .ref 167, .ref 168])).set 129 (pv_b 200 (upd (upd (upd (upd (upd (upd (upd (upd (upd (upd (upd (upd (upd (upd (upd (upd (fun _ => 0) 0 (vp_nar .byte ((a1 >>> (24 &&& 31)).toInt8.toInt32))) 1 (vp_nar .byte ((a1 >>> (16 &&& 31)).toInt8.toInt32))) 2 (vp_nar .byte ((a1 >>> (8 &&& 31)).toInt8.toInt32))) 3 (vp_nar .byte ((a1 >>> (0 &&& 31)).toInt8.toInt32))) 4 (vp_nar .byte ((a2 >>> (24 &&& 31)).toInt8.toInt32))) 5 (vp_nar .byte ((a2 >>> (16 &&& 31)).toInt8.toInt32))) 6 (vp_nar .byte ((a2 >>> (8 &&& 31)).toInt8.toInt32))) 7 (vp_nar .byte ((a2 >>> (0 &&& 31)).toInt8.toInt32))) 8 (vp_nar .byte ((a3 >>> (24 &&& 31)).toInt8.toInt32))) 9 (vp_nar .byte ((a3 >>> (16 &&& 31)).toInt8.toInt32))) 10 (vp_nar .byte ((a3 >>> (8 &&& 31)).toInt8.toInt32))) 11 (vp_nar .byte ((a3 >>> (0 &&& 31)).toInt8.toInt32))) 12 (vp_nar .byte ((a4 >>> (24 &&& 31)).toInt8.toInt32))) 13 (vp_nar .byte ((a4 >>> (16 &&& 31)).toInt8.toInt32))) 14 (vp_nar .byte ((a4 >>> (8 &&& 31)).toInt8.toInt32))) 15 (vp_nar .byte ((a4 >>> (0 &&& 31)).toInt8.toInt32))))).set 123 (pv_o 12 [.int 0, .int 0, .int 1, .int 0, .int 0, .ref 124, .ref 125, .ref 126, .ref 127, .ref 128, .ref 129, .int 16, .int 0, .int 0, .int 0, .int 0, .int 0, .int 0, .int 0, .int 0, .int 0, .ref 130, .ref 131, .ref 132, .ref 133, .ref 134, .ref 135, .ref 136, .ref 137, .ref 138, .ref 139, .ref 140, .ref 141, .ref 142, .ref 143, .ref 144, .ref 145, .ref 146, .ref 147, .ref 148, .int 0, .int 0, .ref 149, .ref 150, .ref 151, .ref 152, .ref 153, .ref 154, .ref 155, .ref 156, .int 0, .ref 157, .ref 158, .ref 159, .ref 160, .ref 161, .ref 162, .ref 163, .ref 164, .ref 165, .ref 166, .int 0, .ref 167, .ref 168])).set 129 (pv_b 200 (upd (upd (upd (upd (upd (upd (upd (upd (upd (upd (upd (upd (upd (upd (upd (upd (upd (fun _ => 0) 0 (vp_nar .byte ((a1 >>> (24 &&& 31)).toInt8.toInt32))) 1 (vp_nar .byte ((a1 >>> (16 &&& 31)).toInt8.toInt32))) 2 (vp_nar .byte ((a1 >>> (8 &&& 31)).toInt8.toInt32))) 3 (vp_nar .byte ((a1 >>> (0 &&& 31)).toInt8.toInt32))) 4 (vp_nar .byte ((a2 >>> (24 &&& 31)).toInt8.toInt32))) 5 (vp_nar .byte ((a2 >>> (16 &&& 31)).toInt8.toInt32))) 6 (vp_nar .byte ((a2 >>> (8 &&& 31)).toInt8.toInt32))) 7 (vp_nar .byte ((a2 >>> (0 &&& 31)).toInt8.toInt32))) 8 (vp_nar .byte ((a3 >>> (24 &&& 31)).toInt8.toInt32))) 9 (vp_nar .byte ((a3 >>> (16 &&& 31)).toInt8.toInt32))) 10 (vp_nar .byte ((a3 >>> (8 &&& 31)).toInt8.toInt32))) 11 (vp_nar .byte ((a3 >>> (0 &&& 31)).toInt8.toInt32))) 12 (vp_nar .byte ((a4 >>> (24 &&& 31)).toInt8.toInt32))) 13 (vp_nar .byte ((a4 >>> (16 &&& 31)).toInt8.toInt32))) 14 (vp_nar .byte ((a4 >>> (8 &&& 31)).toInt8.toInt32))) 15 (vp_nar .byte ((a4 >>> (0 &&& 31)).toInt8.toInt32))) 16 (vp_nar .byte ((a5 >>> (24 &&& 31)).toInt8.toInt32))))).set 123 (pv_o 12 [.int 0, .int 0, .int 1, .int 0, .int 0, .ref 124, .ref 125, .ref 126, .ref 127, .ref 128, .ref 129, .int 17, .int 0, .int 0, .int 0, .int 0, .int 0, .int 0, .int 0, .int 0, .int 0, .ref 130, .ref 131, .ref 132, .ref 133, .ref 134, .ref 135, .ref 136, .ref 137, .ref 138, .ref 139, .ref 140, .ref 141, .ref 142, .ref 143, .ref 144, .ref 145, .ref 146, .ref 147, .ref 148, .int 0, .int 0, .ref 149, .ref 150, .ref 151, .ref 152, .ref 153, .ref 154, .ref 155, .ref 156, .int 0, .ref 157, .ref 158, .ref 159, .ref 160, .ref 161, .ref 162, .ref 163, .ref 164, .ref 165, .ref 166, .int 0, .ref 167, .ref 168])).set 129 (pv_b 200 (upd (upd (upd (upd (upd (upd (upd (upd (upd (upd (upd (upd (upd (upd (upd (upd (upd (upd (fun _ => 0) 0 (vp_nar .byte ((a1 >>> (24 &&& 31)).toInt8.toInt32))) 1 (vp_nar .byte ((a1 >>> (16 &&& 31)).toInt8.toInt32))) 2 (vp_nar .byte ((a1 >>> (8 &&& 31)).toInt8.toInt32))) 3 (vp_nar .byte ((a1 >>> (0 &&& 31)).toInt8.toInt32))) 4 (vp_nar .byte ((a2 >>> (24 &&& 31)).toInt8.toInt32))) 5 (vp_nar .byte ((a2 >>> (16 &&& 31)).toInt8.toInt32))) 6 (vp_nar .byte ((a2 >>> (8 &&& 31)).toInt8.toInt32))) 7 (vp_nar .byte ((a2 >>> (0 &&& 31)).toInt8.toInt32))) 8 (vp_nar .byte ((a3 >>> (24 &&& 31)).toInt8.toInt32))) 9 (vp_nar .byte ((a3 >>> (16 &&& 31)).toInt8.toInt32))) 10 (vp_nar .byte ((a3 >>> (8 &&& 31)).toInt8.toInt32))) 11 (vp_nar .byte ((a3 >>> (0 &&& 31)).toInt8.toInt32))) 12 (vp_nar .byte ((a4 >>> (24 &&& 31)).toInt8.toInt32))) 13 (vp_nar .byte ((a4 >>> (16 &&& 31)).toInt8.toInt32))) 14 (vp_nar .byte ((a4 >>> (8 &&& 31)).toInt8.toInt32))) 15 (vp_nar .byte ((a4 >>> (0 &&& 31)).toInt8.toInt32))) 16 (vp_nar .byte ((a5 >>> (24 &&& 31)).toInt8.toInt32))) 17 (vp_nar .byte ((a5 >>> (16 &&& 31)).toInt8.toInt32))))).set 123 (pv_o 12 [.int 0, .int 0, .int 1, .int 0, .int 0, .ref 124, .ref 125, .ref 126, .ref 127, .ref 128, .ref 129, .int 18, .int 0, .int 0, .int 0, .int 0, .int 0, .int 0, .int 0, .int 0, .int 0, .ref 130, .ref 131, .ref 132, .ref 133, .ref 134, .ref 135, .ref 136, .ref 137, .ref 138, .ref 139, .ref 140, .ref 141, .ref 142, .ref 143, .ref 144, .ref 145, .ref 146, .ref 147, .ref 148, .int 0, .int 0, .ref 149, .ref 150, .ref 151, .ref 152, .ref 153, .ref 154, .ref 155, .ref 156, .int 0, .ref 157, .ref 158, .ref 159, .ref 160, .ref 161, .ref 162, .ref 163, .ref 164, .ref 165, .ref 166, .int 0, .ref 167, .ref 168])).set 129 (pv_b 200 (upd (upd (upd (upd (upd (upd (upd (upd (upd (upd (upd (upd (upd (upd (upd (upd (upd (upd (upd (fun _ => 0) 0 (vp_nar .byte ((a1 >>> (24 &&& 31)).toInt8.toInt32))) 1 (vp_nar .byte ((a1 >>> (16 &&& 31)).toInt8.toInt32))) 2 (vp_nar .byte ((a1 >>> (8 &&& 31)).toInt8.toInt32))) 3 (vp_nar .byte ((a1 >>> (0 &&& 31)).toInt8.toInt32))) 4 (vp_nar .byte ((a2 >>> (24 &&& 31)).toInt8.toInt32))) 5 (vp_nar .byte ((a2 >>> (16 &&& 31)).toInt8.toInt32))) 6 (vp_nar .byte ((a2 >>> (8 &&& 31)).toInt8.toInt32))) 7 (vp_nar .byte ((a2 >>> (0 &&& 31)).toInt8.toInt32))) 8 (vp_nar .byte ((a3 >>> (24 &&& 31)).toInt8.toInt32))) 9 (vp_nar .byte ((a3 >>> (16 &&& 31)).toInt8.toInt32))) 10 (vp_nar .byte ((a3 >>> (8 &&& 31)).toInt8.toInt32))) 11 (vp_nar .byte ((a3 >>> (0 &&& 31)).toInt8.toInt32))) 12 (vp_nar .byte ((a4 >>> (24 &&& 31)).toInt8.toInt32))) 13 (vp_nar .byte ((a4 >>> (16 &&& 31)).toInt8.toInt32))) 14 (vp_nar .byte ((a4 >>> (8 &&& 31)).toInt8.toInt32))) 15 (vp_nar .byte ((a4 >>> (0 &&& 31)).toInt8.toInt32))) 16 (vp_nar .byte ((a5 >>> (24 &&& 31)).toInt8.toInt32))) 17 (vp_nar .byte ((a5 >>> (16 &&& 31)).toInt8.toInt32))) 18 (vp_nar .byte ((a5 >>> (8 &&& 31)).toInt8.toInt32))))).set 123 (pv_o 12 [.int 0, .int 0, .int 1, .int 0, .int 0, .ref 124, .ref 125, .ref 126, .ref 127, .ref 128, .ref 129, .int 19, .int 0, .int 0, .int 0, .int 0, .int 0, .int 0, .int 0, .int 0, .int 0, .ref 130, .ref 131, .ref 132, .ref 133, .ref 134, .ref 135, .ref 136, .ref 137, .ref 138, .ref 139, .ref 140, .ref 141, .ref 142, .ref 143, .ref 144, .ref 145, .ref 146, .ref 147, .ref 148, .int 0, .int 0, .ref 149, .ref 150, .ref 151, .ref 152, .ref 153, .ref 154, .ref 155, .ref 156, .int 0, .ref 157, .ref 158, .ref 159, .ref 160, .ref 161, .ref 162, .ref 163, .ref 164, .ref 165, .ref 166, .int 0, .ref 167, .ref 168])).set 129 (pv_b 200 (upd (upd (upd (upd (upd (upd (upd (upd (upd (upd (upd (upd (upd (upd (upd (upd (upd (upd (upd (upd (fun _ => 0) 0 (vp_nar .byte ((a1 >>> (24 &&& 31)).toInt8.toInt32))) 1 (vp_nar .byte ((a1 >>> (16 &&& 31)).toInt8.toInt32))) 2 (vp_nar .byte ((a1 >>> (8 &&& 31)).toInt8.toInt32))) 3 (vp_nar .byte ((a1 >>> (0 &&& 31)).toInt8.toInt32))) 4 (vp_nar .byte ((a2 >>> (24 &&& 31)).toInt8.toInt32))) 5 (vp_nar .byte ((a2 >>> (16 &&& 31)).toInt8.toInt32))) 6 (vp_nar .byte ((a2 >>> (8 &&& 31)).toInt8.toInt32))) 7 (vp_nar .byte ((a2 >>> (0 &&& 31)).toInt8.toInt32))) 8 (vp_nar .byte ((a3 >>> (24 &&& 31)).toInt8.toInt32))) 9 (vp_nar .byte ((a3 >>> (16 &&& 31)).toInt8.toInt32))) 10 (vp_nar .byte ((a3 >>> (8 &&& 31)).toInt8.toInt32))) 11 (vp_nar .byte ((a3 >>> (0 &&& 31)).toInt8.toInt32))) 12 (vp_nar .byte ((a4 >>> (24 &&& 31)).toInt8.toInt32))) 13 (vp_nar .byte ((a4 >>> (16 &&& 31)).toInt8.toInt32))) 14 (vp_nar .byte ((a4 >>> (8 &&& 31)).toInt8.toInt32))) 15 (vp_nar .byte ((a4 >>> (0 &&& 31)).toInt8.toInt32))) 16 (vp_nar .byte ((a5 >>> (24 &&& 31)).toInt8.toInt32))) 17 (vp_nar .byte ((a5 >>> (16 &&& 31)).toInt8.toInt32))) 18 (vp_nar .byte ((a5 >>> (8 &&& 31)).toInt8.toInt32))) 19 (vp_nar .byte ((a5 >>> (0 &&& 31)).toInt8.toInt32))))).set 123 (pv_o 12 [.int 0, .int 0, .int 1, .int 0, .int 0, .ref 124, .ref 125, .ref 126, .ref 127, .ref 128, .ref 129, .int 20, .int 0, .int 0, .int 0, .int 0, .int 0, .int 0, .int 0, .int 0, .int 0, .ref 130, .ref 131, .ref 132, .ref 133, .ref 134, .ref 135, .ref 136, .ref 137, .ref 138, .ref 139, .ref 140, .ref 141, .ref 142, .ref 143, .ref 144, .ref 145, .ref 146, .ref 147, .ref 148, .int 0, .int 0, .ref 149, .ref 150, .ref 151, .ref 152, .ref 153, .ref 154, .ref 155, .ref 156, .int 0, .ref 157, .ref 158, .ref 159, .ref 160, .ref 161, .ref 162, .ref 163, .ref 164, .ref 165, .ref 166, .int 0, .ref 167, .ref 168])))) 2 0 0 [.ref 123, .int a1, .int a2, .int a3, .int a4, .int a5] h := by
  refine PM.of 0 (lo := [.ref 123, .int a1, .int a2, .int a3, .int a4, .int a5]) rfl (by decide) rfl rfl (Nat.le_of_ble_eq_true rfl) ?_
  refine pv_aload_n (M := mX12_feed) 0 dX12_feed_0 1 rfl rfl rfl ?_
  refine pv_get (M := mX12_feed) dX12_feed_1 FX12 11 wd1184 (by decide) e123 rfl 4 rfl ?_
  refine pv_bipush (M := mX12_feed) (v := 20) dX12_feed_4 6 rfl (by decide) ?_
  refine pv_iadd (M := mX12_feed) (v := 20) dX12_feed_6 7 rfl (by decide) ?_
  refine pv_sipush (M := mX12_feed) (v := 200) dX12_feed_7 10 rfl (by decide) ?_
  refine pv_icmp_le (M := mX12_feed) (tgt := 15) dX12_feed_10 13 rfl (by decide) (fun _ => ?_) (fun q => absurd (by decide) q)
  refine pv_aload_n (M := mX12_feed) 0 dX12_feed_15 16 rfl rfl rfl ?_
  refine pv_iload_n (M := mX12_feed) 1 dX12_feed_16 17 rfl rfl rfl ?_
  refine pv_callv (M := mX12_feed) (as := [.int a1]) (st := []) (kc2 := 0) (ks2 := 0) dX12_feed_17 wd1405 YX12_types ⟨wd1407, wd58⟩ e123 rfl rfl (k_X12_types g a1 e123 e129) rfl rfl (Nat.le_of_ble_eq_true rfl) (by decide) rfl rfl 20 rfl (pv_k0 ?_)
  refine pv_aload_n (M := mX12_feed) 0 dX12_feed_20 21 rfl rfl rfl ?_
  refine pv_iload_n (M := mX12_feed) 2 dX12_feed_21 22 rfl rfl rfl ?_
  refine pv_callv (M := mX12_feed) (as := [.int a2]) (st := []) (kc2 := 0) (ks2 := 0) dX12_feed_22 wd1405 YX12_types ⟨wd1407, wd58⟩ (pv_se (pv_sn (by decide) (pv_se (pv_sn (by decide) (pv_se (pv_sn (by decide) (pv_se (pv_sn (by decide) e123)))))))) rfl rfl (k_X12_types_2 g a2 (upd (upd (upd (upd (fun _ => 0) 0 (vp_nar .byte ((a1 >>> (24 &&& 31)).toInt8.toInt32))) 1 (vp_nar .byte ((a1 >>> (16 &&& 31)).toInt8.toInt32))) 2 (vp_nar .byte ((a1 >>> (8 &&& 31)).toInt8.toInt32))) 3 (vp_nar .byte ((a1 >>> (0 &&& 31)).toInt8.toInt32))) (pv_se (pv_sn (by decide) (pv_se (pv_sn (by decide) (pv_se (pv_sn (by decide) (pv_se (pv_sn (by decide) e123)))))))) (pv_sn (by decide) (pv_se (pv_sn (by decide) (pv_se (pv_sn (by decide) (pv_se (pv_sn (by decide) (pv_se e129))))))))) rfl rfl (Nat.le_of_ble_eq_true rfl) (by decide) rfl rfl 25 rfl (pv_k0 ?_)
  refine pv_aload_n (M := mX12_feed) 0 dX12_feed_25 26 rfl rfl rfl ?_
  refine pv_iload_n (M := mX12_feed) 3 dX12_feed_26 27 rfl rfl rfl ?_
  refine pv_callv (M := mX12_feed) (as := [.int a3]) (st := []) (kc2 := 0) (ks2 := 0) dX12_feed_27 wd1405 YX12_types ⟨wd1407, wd58⟩ (pv_se (pv_sn (by decide) (pv_se (pv_sn (by decide) (pv_se (pv_sn (by decide) (pv_se (pv_sn (by decide) (pv_se (pv_sn (by decide) (pv_se (pv_sn (by decide) (pv_se (pv_sn (by decide) (pv_se (pv_sn (by decide) e123)))))))))))))))) rfl rfl (k_X12_types_3 g a3 (upd (upd (upd (upd (upd (upd (upd (upd (fun _ => 0) 0 (vp_nar .byte ((a1 >>> (24 &&& 31)).toInt8.toInt32))) 1 (vp_nar .byte ((a1 >>> (16 &&& 31)).toInt8.toInt32))) 2 (vp_nar .byte ((a1 >>> (8 &&& 31)).toInt8.toInt32))) 3 (vp_nar .byte ((a1 >>> (0 &&& 31)).toInt8.toInt32))) 4 (vp_nar .byte ((a2 >>> (24 &&& 31)).toInt8.toInt32))) 5 (vp_nar .byte ((a2 >>> (16 &&& 31)).toInt8.toInt32))) 6 (vp_nar .byte ((a2 >>> (8 &&& 31)).toInt8.toInt32))) 7 (vp_nar .byte ((a2 >>> (0 &&& 31)).toInt8.toInt32))) (pv_se (pv_sn (by decide) (pv_se (pv_sn (by decide) (pv_se (pv_sn (by decide) (pv_se (pv_sn (by decide) (pv_se (pv_sn (by decide) (pv_se (pv_sn (by decide) (pv_se (pv_sn (by decide) (pv_se (pv_sn (by decide) e123)))))))))))))))) (pv_sn (by decide) (pv_se (pv_sn (by decide) (pv_se (pv_sn (by decide) (pv_se (pv_sn (by decide) (pv_se (pv_sn (by decide) (pv_se (pv_sn (by decide) (pv_se (pv_sn (by decide) (pv_se (pv_sn (by decide) (pv_se e129))))))))))))))))) rfl rfl (Nat.le_of_ble_eq_true rfl) (by decide) rfl rfl 30 rfl (pv_k0 ?_)
  refine pv_aload_n (M := mX12_feed) 0 dX12_feed_30 31 rfl rfl rfl ?_
  refine pv_iload (M := mX12_feed) dX12_feed_31 33 rfl rfl ?_
  refine pv_callv (M := mX12_feed) (as := [.int a4]) (st := []) (kc2 := 0) (ks2 := 0) dX12_feed_33 wd1405 YX12_types ⟨wd1407, wd58⟩ (pv_se (pv_sn (by decide) (pv_se (pv_sn (by decide) (pv_se (pv_sn (by decide) (pv_se (pv_sn (by decide) (pv_se (pv_sn (by decide) (pv_se (pv_sn (by decide) (pv_se (pv_sn (by decide) (pv_se (pv_sn (by decide) (pv_se (pv_sn (by decide) (pv_se (pv_sn (by decide) (pv_se (pv_sn (by decide) (pv_se (pv_sn (by decide) e123)))))))))))))))))))))))) rfl rfl (k_X12_types_4 g a4 (upd (upd (upd (upd (upd (upd (upd (upd (upd (upd (upd (upd (fun _ => 0) 0 (vp_nar .byte ((a1 >>> (24 &&& 31)).toInt8.toInt32))) 1 (vp_nar .byte ((a1 >>> (16 &&& 31)).toInt8.toInt32))) 2 (vp_nar .byte ((a1 >>> (8 &&& 31)).toInt8.toInt32))) 3 (vp_nar .byte ((a1 >>> (0 &&& 31)).toInt8.toInt32))) 4 (vp_nar .byte ((a2 >>> (24 &&& 31)).toInt8.toInt32))) 5 (vp_nar .byte ((a2 >>> (16 &&& 31)).toInt8.toInt32))) 6 (vp_nar .byte ((a2 >>> (8 &&& 31)).toInt8.toInt32))) 7 (vp_nar .byte ((a2 >>> (0 &&& 31)).toInt8.toInt32))) 8 (vp_nar .byte ((a3 >>> (24 &&& 31)).toInt8.toInt32))) 9 (vp_nar .byte ((a3 >>> (16 &&& 31)).toInt8.toInt32))) 10 (vp_nar .byte ((a3 >>> (8 &&& 31)).toInt8.toInt32))) 11 (vp_nar .byte ((a3 >>> (0 &&& 31)).toInt8.toInt32))) (pv_se (pv_sn (by decide) (pv_se (pv_sn (by decide) (pv_se (pv_sn (by decide) (pv_se (pv_sn (by decide) (pv_se (pv_sn (by decide) (pv_se (pv_sn (by decide) (pv_se (pv_sn (by decide) (pv_se (pv_sn (by decide) (pv_se (pv_sn (by decide) (pv_se (pv_sn (by decide) (pv_se (pv_sn (by decide) (pv_se (pv_sn (by decide) e123)))))))))))))))))))))))) (pv_sn (by decide) (pv_se (pv_sn (by decide) (pv_se (pv_sn (by decide) (pv_se (pv_sn (by decide) (pv_se (pv_sn (by decide) (pv_se (pv_sn (by decide) (pv_se (pv_sn (by decide) (pv_se (pv_sn (by decide) (pv_se (pv_sn (by decide) (pv_se (pv_sn (by decide) (pv_se (pv_sn (by decide) (pv_se (pv_sn (by decide) (pv_se e129))))))))))))))))))))))))) rfl rfl (Nat.le_of_ble_eq_true rfl) (by decide) rfl rfl 36 rfl (pv_k0 ?_)
  refine pv_aload_n (M := mX12_feed) 0 dX12_feed_36 37 rfl rfl rfl ?_
  refine pv_iload (M := mX12_feed) dX12_feed_37 39 rfl rfl ?_
  refine pv_callv (M := mX12_feed) (as := [.int a5]) (st := []) (kc2 := 0) (ks2 := 0) dX12_feed_39 wd1405 YX12_types ⟨wd1407, wd58⟩ (pv_se (pv_sn (by decide) (pv_se (pv_sn (by decide) (pv_se (pv_sn (by decide) (pv_se (pv_sn (by decide) (pv_se (pv_sn (by decide) (pv_se (pv_sn (by decide) (pv_se (pv_sn (by decide) (pv_se (pv_sn (by decide) (pv_se (pv_sn (by decide) (pv_se (pv_sn (by decide) (pv_se (pv_sn (by decide) (pv_se (pv_sn (by decide) (pv_se (pv_sn (by decide) (pv_se (pv_sn (by decide) (pv_se (pv_sn (by decide) (pv_se (pv_sn (by decide) e123)))))))))))))))))))))))))))))))) rfl rfl (k_X12_types_5 g a5 (upd (upd (upd (upd (upd (upd (upd (upd (upd (upd (upd (upd (upd (upd (upd (upd (fun _ => 0) 0 (vp_nar .byte ((a1 >>> (24 &&& 31)).toInt8.toInt32))) 1 (vp_nar .byte ((a1 >>> (16 &&& 31)).toInt8.toInt32))) 2 (vp_nar .byte ((a1 >>> (8 &&& 31)).toInt8.toInt32))) 3 (vp_nar .byte ((a1 >>> (0 &&& 31)).toInt8.toInt32))) 4 (vp_nar .byte ((a2 >>> (24 &&& 31)).toInt8.toInt32))) 5 (vp_nar .byte ((a2 >>> (16 &&& 31)).toInt8.toInt32))) 6 (vp_nar .byte ((a2 >>> (8 &&& 31)).toInt8.toInt32))) 7 (vp_nar .byte ((a2 >>> (0 &&& 31)).toInt8.toInt32))) 8 (vp_nar .byte ((a3 >>> (24 &&& 31)).toInt8.toInt32))) 9 (vp_nar .byte ((a3 >>> (16 &&& 31)).toInt8.toInt32))) 10 (vp_nar .byte ((a3 >>> (8 &&& 31)).toInt8.toInt32))) 11 (vp_nar .byte ((a3 >>> (0 &&& 31)).toInt8.toInt32))) 12 (vp_nar .byte ((a4 >>> (24 &&& 31)).toInt8.toInt32))) 13 (vp_nar .byte ((a4 >>> (16 &&& 31)).toInt8.toInt32))) 14 (vp_nar .byte ((a4 >>> (8 &&& 31)).toInt8.toInt32))) 15 (vp_nar .byte ((a4 >>> (0 &&& 31)).toInt8.toInt32))) (pv_se (pv_sn (by decide) (pv_se (pv_sn (by decide) (pv_se (pv_sn (by decide) (pv_se (pv_sn (by decide) (pv_se (pv_sn (by decide) (pv_se (pv_sn (by decide) (pv_se (pv_sn (by decide) (pv_se (pv_sn (by decide) (pv_se (pv_sn (by decide) (pv_se (pv_sn (by decide) (pv_se (pv_sn (by decide) (pv_se (pv_sn (by decide) (pv_se (pv_sn (by decide) (pv_se (pv_sn (by decide) (pv_se (pv_sn (by decide) (pv_se (pv_sn (by decide) e123)))))))))))))))))))))))))))))))) (pv_sn (by decide) (pv_se (pv_sn (by decide) (pv_se (pv_sn (by decide) (pv_se (pv_sn (by decide) (pv_se (pv_sn (by decide) (pv_se (pv_sn (by decide) (pv_se (pv_sn (by decide) (pv_se (pv_sn (by decide) (pv_se (pv_sn (by decide) (pv_se (pv_sn (by decide) (pv_se (pv_sn (by decide) (pv_se (pv_sn (by decide) (pv_se (pv_sn (by decide) (pv_se (pv_sn (by decide) (pv_se (pv_sn (by decide) (pv_se (pv_sn (by decide) (pv_se e129))))))))))))))))))))))))))))))))) rfl rfl (Nat.le_of_ble_eq_true rfl) (by decide) rfl rfl 42 rfl (pv_k0 ?_)
  refine pv_aload_n (M := mX12_feed) 0 dX12_feed_42 43 rfl rfl rfl ?_
  refine pv_get (M := mX12_feed) dX12_feed_43 FX12 11 wd1184 (by decide) (pv_se (pv_sn (by decide) (pv_se (pv_sn (by decide) (pv_se (pv_sn (by decide) (pv_se (pv_sn (by decide) (pv_se (pv_sn (by decide) (pv_se (pv_sn (by decide) (pv_se (pv_sn (by decide) (pv_se (pv_sn (by decide) (pv_se (pv_sn (by decide) (pv_se (pv_sn (by decide) (pv_se (pv_sn (by decide) (pv_se (pv_sn (by decide) (pv_se (pv_sn (by decide) (pv_se (pv_sn (by decide) (pv_se (pv_sn (by decide) (pv_se (pv_sn (by decide) (pv_se (pv_sn (by decide) (pv_se (pv_sn (by decide) (pv_se (pv_sn (by decide) (pv_se (pv_sn (by decide) e123)))))))))))))))))))))))))))))))))))))))) rfl 46 rfl ?_
  exact pv_iret (M := mX12_feed) dX12_feed_46 rfl rfl ⟨rfl, rfl⟩

set_option maxHeartbeats 400000 in
set_option maxRecDepth 20000 in
theorem k_X12_seed_2 (g : pv_G) {h : List pv_C} (a1 : Int32) (e123 : h[123]? = some (pv_o 12 [.int 0, .int 0, .int 1, .int 0, .int 0, .ref 124, .ref 125, .ref 126, .ref 127, .ref 128, .ref 129, .int 0, .int 0, .int 0, .int 0, .int 0, .int 0, .int 0, .int 0, .int 0, .int 0, .ref 130, .ref 131, .ref 132, .ref 133, .ref 134, .ref 135, .ref 136, .ref 137, .ref 138, .ref 139, .ref 140, .ref 141, .ref 142, .ref 143, .ref 144, .ref 145, .ref 146, .ref 147, .ref 148, .int 0, .int 0, .ref 149, .ref 150, .ref 151, .ref 152, .ref 153, .ref 154, .ref 155, .ref 156, .int 0, .ref 157, .ref 158, .ref 159, .ref 160, .ref 161, .ref 162, .ref 163, .ref 164, .ref 165, .ref 166, .int 0, .ref 167, .ref 168])) : PM g mX12_seed yX12_seed (pv_is (some (.int (if a1 < 0 then 0 else (if 65535 < a1 then 0 else 1)))) ((if a1 < 0 then h else (if 65535 < a1 then h else (h.set 123 (pv_o 12 [.int 0, .int 0, .int a1, .int 0, .int 0, .ref 124, .ref 125, .ref 126, .ref 127, .ref 128, .ref 129, .int 0, .int 0, .int 0, .int 0, .int 0, .int 0, .int 0, .int 0, .int 0, .int 0, .ref 130, .ref 131, .ref 132, .ref 133, .ref 134, .ref 135, .ref 136, .ref 137, .ref 138, .ref 139, .ref 140, .ref 141, .ref 142, .ref 143, .ref 144, .ref 145, .ref 146, .ref 147, .ref 148, .int 0, .int 0, .ref 149, .ref 150, .ref 151, .ref 152, .ref 153, .ref 154, .ref 155, .ref 156, .int 0, .ref 157, .ref 158, .ref 159, .ref 160, .ref 161, .ref 162, .ref 163, .ref 164, .ref 165, .ref 166, .int 0, .ref 167, .ref 168])))))) 2 0 0 [.ref 123, .int a1] h := by
  refine PM.of 0 (lo := [.ref 123, .int a1]) rfl (by decide) rfl rfl (Nat.le_of_ble_eq_true rfl) ?_
  refine pv_iload_n (M := mX12_seed) 1 dX12_seed_0 1 rfl rfl rfl ?_
  refine pv_iconst (M := mX12_seed) (v := 0) dX12_seed_1 2 rfl (by decide) ?_
  refine pv_ldcw (M := mX12_seed) (v := 65535) dX12_seed_2 5 rfl wd1777 ?_
  refine pv_calls (M := mX12_seed) (as := [.int a1, .int 0, .int 65535]) (st := []) (kc2 := 0) (ks2 := 0) dX12_seed_5 wd1370 YX12_in wd1371 (k_X12_in_7 g a1) rfl rfl (Nat.le_of_ble_eq_true rfl) (by decide) rfl rfl 8 rfl (pv_k1 ?_)
  by_cases c1 : a1 < 0
  · refine pv_top (M := mX12_seed) (if_pos c1) ?_
    refine pv_if_ne (M := mX12_seed) (tgt := 13) dX12_seed_8 11 rfl (by decide) (fun q => absurd (by decide) q) (fun _ => ?_)
    refine pv_iconst (M := mX12_seed) (v := 0) dX12_seed_11 12 rfl (by decide) ?_
    exact pv_iret (M := mX12_seed) dX12_seed_12 rfl rfl ⟨(by rw [if_pos c1] <;> rfl), (by rw [if_pos c1] <;> rfl)⟩
  · refine pv_top (M := mX12_seed) (if_neg c1) ?_
    by_cases c2 : 65535 < a1
    · refine pv_top (M := mX12_seed) (if_pos c2) ?_
      refine pv_if_ne (M := mX12_seed) (tgt := 13) dX12_seed_8 11 rfl (by decide) (fun q => absurd (by decide) q) (fun _ => ?_)
      refine pv_iconst (M := mX12_seed) (v := 0) dX12_seed_11 12 rfl (by decide) ?_
      exact pv_iret (M := mX12_seed) dX12_seed_12 rfl rfl ⟨(by rw [if_neg c1, if_pos c2] <;> rfl), (by rw [if_neg c1, if_pos c2] <;> rfl)⟩
    · refine pv_top (M := mX12_seed) (if_neg c2) ?_
      refine pv_if_ne (M := mX12_seed) (tgt := 13) dX12_seed_8 11 rfl (by decide) (fun _ => ?_) (fun q => absurd q (by decide))
      refine pv_aload_n (M := mX12_seed) 0 dX12_seed_13 14 rfl rfl rfl ?_
      refine pv_iload_n (M := mX12_seed) 1 dX12_seed_14 15 rfl rfl rfl ?_
      refine pv_put (M := mX12_seed) (fs2 := [.int 0, .int 0, .int a1, .int 0, .int 0, .ref 124, .ref 125, .ref 126, .ref 127, .ref 128, .ref 129, .int 0, .int 0, .int 0, .int 0, .int 0, .int 0, .int 0, .int 0, .int 0, .int 0, .ref 130, .ref 131, .ref 132, .ref 133, .ref 134, .ref 135, .ref 136, .ref 137, .ref 138, .ref 139, .ref 140, .ref 141, .ref 142, .ref 143, .ref 144, .ref 145, .ref 146, .ref 147, .ref 148, .int 0, .int 0, .ref 149, .ref 150, .ref 151, .ref 152, .ref 153, .ref 154, .ref 155, .ref 156, .int 0, .ref 157, .ref 158, .ref 159, .ref 160, .ref 161, .ref 162, .ref 163, .ref 164, .ref 165, .ref 166, .int 0, .ref 167, .ref 168]) dX12_seed_15 FX12 2 wd1175 (by decide) rfl e123 (Nat.le_of_ble_eq_true rfl) (fun _ => rfl) (fun _ => rfl) rfl rfl 18 rfl ?_
      refine pv_iconst (M := mX12_seed) (v := 1) dX12_seed_18 19 rfl (by decide) ?_
      exact pv_iret (M := mX12_seed) dX12_seed_19 rfl rfl ⟨(by rw [if_neg c1, if_neg c2] <;> rfl), (by rw [if_neg c1, if_neg c2] <;> rfl)⟩
