set_option maxHeartbeats 4000000 in
set_option maxRecDepth 100000 in
theorem c_X_init (l : Launch) (D : va_G) (cJ cI : ClassId) (h0 sz : Nat) : Met l y_X_init (wg_ws y_X_init b_X_init 1 none) ({ frames := 1, cells := 10, slots := 2235, locals := 20 }) (va_Pc [.ref h0] (wg_Pc D cJ cI [(h0, .inr (0, wg_BX))] sz)) (va_Qv (fun (_ : Nat → Nat) => True) (fun (u : Nat → Nat) t => va_P D wg_cl (wg_WX cJ cI h0 u wg_cX) t.heap ∧ va_D (va_A [(h0, .inr (0, wg_BX))] sz) (wg_WX cJ cI h0 u wg_cX)) (va_A [(h0, .inr (0, wg_BX))] sz)) 10 2235 (va_A [(h0, .inr (0, wg_BX))] sz) := by
  refine wg_head (Wd := fun _ => [(h0, .inr (0, wg_BX))]) (I := wg_Z) (fun A => va_Qv (fun (_ : Nat → Nat) => True) (fun (u : Nat → Nat) t => va_P D wg_cl (wg_WX cJ cI h0 u wg_cX) t.heap ∧ va_D A (wg_WX cJ cI h0 u wg_cX)) A) R_X (by decide) rfl (Nat.le_of_ble_eq_true rfl) (fun _ _ => rfl) ?_
  intro p e s m below meth c A ls hx hb hr hlk hml hown hnm hts hA hK hD hP hS hl hsz
  clear hsz
  have hl : lv_has ls 1 [(0, .ref h0)] := hl
  have hD := hD wg_Z
  have hP : va_P D wg_cl [(h0, .inr (0, [.null, .null, .null, .int (nI 0), .int (nI 0), .null, .null, .null, .int (nI 0), .null, .null, .int (nI 0), .null, .null]))] s.heap := hP
  have hD : va_D A [(h0, .inr (0, [.null, .null, .null, .int (nI 0), .int (nI 0), .null, .null, .null, .int (nI 0), .null, .null, .int (nI 0), .null, .null]))] := hD
  refine lv_aload_n hx hb d_X_init_0 rfl (lv_at hl 0 rfl) ?_
  refine W.objInit hx hb hown (hts _ ko_X) (hts _ ko_inst) (hts _ ko_code) rfl (by rw [hml]; exact hl.1) rfl d_X_init_1 (Nat.le_of_ble_eq_true rfl) (Nat.le_of_ble_eq_true rfl) ?_
  refine W.eq (g2 := F0 m 4 ls []) rfl ?_
  refine lv_aload_n hx hb d_X_init_4 rfl (lv_at hl 0 rfl) ?_
  refine lv_bipush (v := nI 48) hx hb d_X_init_5 (by decide +kernel) ?_
  refine wg_newj hx hb hts ka_j hK hP hD hS hA (by decide) (Nat.le_of_ble_eq_true rfl) (Nat.le_of_ble_eq_true rfl) d_X_init_7 (fun q7 H hP hD hS => ?_)
  have hP : va_P D wg_cl [(h0, .inr (0, [.null, .null, .null, .int (nI 0), .int (nI 0), .null, .null, .null, .int (nI 0), .null, .null, .int (nI 0), .null, .null])), (q7, wg_aj cJ 48 (fun _ => 0))] H := hP
  have hD : va_D A [(h0, .inr (0, [.null, .null, .null, .int (nI 0), .int (nI 0), .null, .null, .null, .int (nI 0), .null, .null, .int (nI 0), .null, .null])), (q7, wg_aj cJ 48 (fun _ => 0))] := hD
  refine W.widen (k := 1) (n := 48) (by decide) (by decide) ?_
  refine va_putF (D := D) (ci := 0) (v := .ref q7) (ty := .array .long) (C := R_X) (T := F_X) (N := 14) hx hb hts wg_inX t_X t_X_ok n_X hown hK hP hD hS 0 rfl rfl 0 (by decide) (hts _ kf_X_9) (fun _ h9 => h9) rfl hnm rfl (by decide +kernel) rfl rfl (Nat.le_of_ble_eq_true rfl) d_X_init_9 (fun H locs hP hD hS => ?_)
  have hP : va_P D wg_cl [(h0, .inr (0, [.ref q7, .null, .null, .int (nI 0), .int (nI 0), .null, .null, .null, .int (nI 0), .null, .null, .int (nI 0), .null, .null])), (q7, wg_aj cJ 48 (fun _ => 0))] H := hP
  have hD : va_D A [(h0, .inr (0, [.ref q7, .null, .null, .int (nI 0), .int (nI 0), .null, .null, .null, .int (nI 0), .null, .null, .int (nI 0), .null, .null])), (q7, wg_aj cJ 48 (fun _ => 0))] := hD
  refine lv_aload_n hx hb d_X_init_12 rfl (lv_at hl 0 rfl) ?_
  refine lv_bipush (v := nI 48) hx hb d_X_init_13 (by decide +kernel) ?_
  refine wg_newi hx hb hts ka_i hK hP hD hS hA (by decide) (Nat.le_of_ble_eq_true rfl) (Nat.le_of_ble_eq_true rfl) d_X_init_15 (fun q15 H hP hD hS => ?_)
  have hP : va_P D wg_cl [(h0, .inr (0, [.ref q7, .null, .null, .int (nI 0), .int (nI 0), .null, .null, .null, .int (nI 0), .null, .null, .int (nI 0), .null, .null])), (q7, wg_aj cJ 48 (fun _ => 0)), (q15, wg_ai cI 48 (fun _ => 0))] H := hP
  have hD : va_D A [(h0, .inr (0, [.ref q7, .null, .null, .int (nI 0), .int (nI 0), .null, .null, .null, .int (nI 0), .null, .null, .int (nI 0), .null, .null])), (q7, wg_aj cJ 48 (fun _ => 0)), (q15, wg_ai cI 48 (fun _ => 0))] := hD
  refine W.widen (k := 2) (n := 96) (by decide) (by decide) ?_
  refine va_putF (D := D) (ci := 0) (v := .ref q15) (ty := .array .int) (C := R_X) (T := F_X) (N := 14) hx hb hts wg_inX t_X t_X_ok n_X hown hK hP hD hS 0 rfl rfl 1 (by decide) (hts _ kf_X_13) (fun _ h9 => h9) rfl hnm rfl (by decide +kernel) rfl rfl (Nat.le_of_ble_eq_true rfl) d_X_init_17 (fun H locs hP hD hS => ?_)
  have hP : va_P D wg_cl [(h0, .inr (0, [.ref q7, .ref q15, .null, .int (nI 0), .int (nI 0), .null, .null, .null, .int (nI 0), .null, .null, .int (nI 0), .null, .null])), (q7, wg_aj cJ 48 (fun _ => 0)), (q15, wg_ai cI 48 (fun _ => 0))] H := hP
  have hD : va_D A [(h0, .inr (0, [.ref q7, .ref q15, .null, .int (nI 0), .int (nI 0), .null, .null, .null, .int (nI 0), .null, .null, .int (nI 0), .null, .null])), (q7, wg_aj cJ 48 (fun _ => 0)), (q15, wg_ai cI 48 (fun _ => 0))] := hD
  refine lv_aload_n hx hb d_X_init_20 rfl (lv_at hl 0 rfl) ?_
  refine lv_bipush (v := nI 48) hx hb d_X_init_21 (by decide +kernel) ?_
  refine wg_newi hx hb hts ka_i hK hP hD hS hA (by decide) (Nat.le_of_ble_eq_true rfl) (Nat.le_of_ble_eq_true rfl) d_X_init_23 (fun q23 H hP hD hS => ?_)
  have hP : va_P D wg_cl [(h0, .inr (0, [.ref q7, .ref q15, .null, .int (nI 0), .int (nI 0), .null, .null, .null, .int (nI 0), .null, .null, .int (nI 0), .null, .null])), (q7, wg_aj cJ 48 (fun _ => 0)), (q15, wg_ai cI 48 (fun _ => 0)), (q23, wg_ai cI 48 (fun _ => 0))] H := hP
  have hD : va_D A [(h0, .inr (0, [.ref q7, .ref q15, .null, .int (nI 0), .int (nI 0), .null, .null, .null, .int (nI 0), .null, .null, .int (nI 0), .null, .null])), (q7, wg_aj cJ 48 (fun _ => 0)), (q15, wg_ai cI 48 (fun _ => 0)), (q23, wg_ai cI 48 (fun _ => 0))] := hD
  refine W.widen (k := 3) (n := 144) (by decide) (by decide) ?_
  refine va_putF (D := D) (ci := 0) (v := .ref q23) (ty := .array .int) (C := R_X) (T := F_X) (N := 14) hx hb hts wg_inX t_X t_X_ok n_X hown hK hP hD hS 0 rfl rfl 2 (by decide) (hts _ kf_X_17) (fun _ h9 => h9) rfl hnm rfl (by decide +kernel) rfl rfl (Nat.le_of_ble_eq_true rfl) d_X_init_25 (fun H locs hP hD hS => ?_)
  have hP : va_P D wg_cl [(h0, .inr (0, [.ref q7, .ref q15, .ref q23, .int (nI 0), .int (nI 0), .null, .null, .null, .int (nI 0), .null, .null, .int (nI 0), .null, .null])), (q7, wg_aj cJ 48 (fun _ => 0)), (q15, wg_ai cI 48 (fun _ => 0)), (q23, wg_ai cI 48 (fun _ => 0))] H := hP
  have hD : va_D A [(h0, .inr (0, [.ref q7, .ref q15, .ref q23, .int (nI 0), .int (nI 0), .null, .null, .null, .int (nI 0), .null, .null, .int (nI 0), .null, .null])), (q7, wg_aj cJ 48 (fun _ => 0)), (q15, wg_ai cI 48 (fun _ => 0)), (q23, wg_ai cI 48 (fun _ => 0))] := hD
  refine lv_aload_n hx hb d_X_init_28 rfl (lv_at hl 0 rfl) ?_
  refine lv_sipush (v := nI 624) hx hb d_X_init_29 (by decide +kernel) ?_
  refine wg_newi hx hb hts ka_i hK hP hD hS hA (by decide) (Nat.le_of_ble_eq_true rfl) (Nat.le_of_ble_eq_true rfl) d_X_init_32 (fun q32 H hP hD hS => ?_)
  have hP : va_P D wg_cl [(h0, .inr (0, [.ref q7, .ref q15, .ref q23, .int (nI 0), .int (nI 0), .null, .null, .null, .int (nI 0), .null, .null, .int (nI 0), .null, .null])), (q7, wg_aj cJ 48 (fun _ => 0)), (q15, wg_ai cI 48 (fun _ => 0)), (q23, wg_ai cI 48 (fun _ => 0)), (q32, wg_ai cI 624 (fun _ => 0))] H := hP
  have hD : va_D A [(h0, .inr (0, [.ref q7, .ref q15, .ref q23, .int (nI 0), .int (nI 0), .null, .null, .null, .int (nI 0), .null, .null, .int (nI 0), .null, .null])), (q7, wg_aj cJ 48 (fun _ => 0)), (q15, wg_ai cI 48 (fun _ => 0)), (q23, wg_ai cI 48 (fun _ => 0)), (q32, wg_ai cI 624 (fun _ => 0))] := hD
  refine W.widen (k := 4) (n := 768) (by decide) (by decide) ?_
  refine va_putF (D := D) (ci := 0) (v := .ref q32) (ty := .array .int) (C := R_X) (T := F_X) (N := 14) hx hb hts wg_inX t_X t_X_ok n_X hown hK hP hD hS 0 rfl rfl 5 (by decide) (hts _ kf_X_20) (fun _ h9 => h9) rfl hnm rfl (by decide +kernel) rfl rfl (Nat.le_of_ble_eq_true rfl) d_X_init_34 (fun H locs hP hD hS => ?_)
  have hP : va_P D wg_cl [(h0, .inr (0, [.ref q7, .ref q15, .ref q23, .int (nI 0), .int (nI 0), .ref q32, .null, .null, .int (nI 0), .null, .null, .int (nI 0), .null, .null])), (q7, wg_aj cJ 48 (fun _ => 0)), (q15, wg_ai cI 48 (fun _ => 0)), (q23, wg_ai cI 48 (fun _ => 0)), (q32, wg_ai cI 624 (fun _ => 0))] H := hP
  have hD : va_D A [(h0, .inr (0, [.ref q7, .ref q15, .ref q23, .int (nI 0), .int (nI 0), .ref q32, .null, .null, .int (nI 0), .null, .null, .int (nI 0), .null, .null])), (q7, wg_aj cJ 48 (fun _ => 0)), (q15, wg_ai cI 48 (fun _ => 0)), (q23, wg_ai cI 48 (fun _ => 0)), (q32, wg_ai cI 624 (fun _ => 0))] := hD
  refine lv_aload_n hx hb d_X_init_37 rfl (lv_at hl 0 rfl) ?_
  refine lv_sipush (v := nI 577) hx hb d_X_init_38 (by decide +kernel) ?_
  refine wg_newi hx hb hts ka_i hK hP hD hS hA (by decide) (Nat.le_of_ble_eq_true rfl) (Nat.le_of_ble_eq_true rfl) d_X_init_41 (fun q41 H hP hD hS => ?_)
  have hP : va_P D wg_cl [(h0, .inr (0, [.ref q7, .ref q15, .ref q23, .int (nI 0), .int (nI 0), .ref q32, .null, .null, .int (nI 0), .null, .null, .int (nI 0), .null, .null])), (q7, wg_aj cJ 48 (fun _ => 0)), (q15, wg_ai cI 48 (fun _ => 0)), (q23, wg_ai cI 48 (fun _ => 0)), (q32, wg_ai cI 624 (fun _ => 0)), (q41, wg_ai cI 577 (fun _ => 0))] H := hP
  have hD : va_D A [(h0, .inr (0, [.ref q7, .ref q15, .ref q23, .int (nI 0), .int (nI 0), .ref q32, .null, .null, .int (nI 0), .null, .null, .int (nI 0), .null, .null])), (q7, wg_aj cJ 48 (fun _ => 0)), (q15, wg_ai cI 48 (fun _ => 0)), (q23, wg_ai cI 48 (fun _ => 0)), (q32, wg_ai cI 624 (fun _ => 0)), (q41, wg_ai cI 577 (fun _ => 0))] := hD
  refine W.widen (k := 5) (n := 1345) (by decide) (by decide) ?_
  refine va_putF (D := D) (ci := 0) (v := .ref q41) (ty := .array .int) (C := R_X) (T := F_X) (N := 14) hx hb hts wg_inX t_X t_X_ok n_X hown hK hP hD hS 0 rfl rfl 6 (by decide) (hts _ kf_X_23) (fun _ h9 => h9) rfl hnm rfl (by decide +kernel) rfl rfl (Nat.le_of_ble_eq_true rfl) d_X_init_43 (fun H locs hP hD hS => ?_)
  have hP : va_P D wg_cl [(h0, .inr (0, [.ref q7, .ref q15, .ref q23, .int (nI 0), .int (nI 0), .ref q32, .ref q41, .null, .int (nI 0), .null, .null, .int (nI 0), .null, .null])), (q7, wg_aj cJ 48 (fun _ => 0)), (q15, wg_ai cI 48 (fun _ => 0)), (q23, wg_ai cI 48 (fun _ => 0)), (q32, wg_ai cI 624 (fun _ => 0)), (q41, wg_ai cI 577 (fun _ => 0))] H := hP
  have hD : va_D A [(h0, .inr (0, [.ref q7, .ref q15, .ref q23, .int (nI 0), .int (nI 0), .ref q32, .ref q41, .null, .int (nI 0), .null, .null, .int (nI 0), .null, .null])), (q7, wg_aj cJ 48 (fun _ => 0)), (q15, wg_ai cI 48 (fun _ => 0)), (q23, wg_ai cI 48 (fun _ => 0)), (q32, wg_ai cI 624 (fun _ => 0)), (q41, wg_ai cI 577 (fun _ => 0))] := hD
  refine lv_aload_n hx hb d_X_init_46 rfl (lv_at hl 0 rfl) ?_
  refine lv_sipush (v := nI 577) hx hb d_X_init_47 (by decide +kernel) ?_
  refine wg_newi hx hb hts ka_i hK hP hD hS hA (by decide) (Nat.le_of_ble_eq_true rfl) (Nat.le_of_ble_eq_true rfl) d_X_init_50 (fun q50 H hP hD hS => ?_)
  have hP : va_P D wg_cl [(h0, .inr (0, [.ref q7, .ref q15, .ref q23, .int (nI 0), .int (nI 0), .ref q32, .ref q41, .null, .int (nI 0), .null, .null, .int (nI 0), .null, .null])), (q7, wg_aj cJ 48 (fun _ => 0)), (q15, wg_ai cI 48 (fun _ => 0)), (q23, wg_ai cI 48 (fun _ => 0)), (q32, wg_ai cI 624 (fun _ => 0)), (q41, wg_ai cI 577 (fun _ => 0)), (q50, wg_ai cI 577 (fun _ => 0))] H := hP
  have hD : va_D A [(h0, .inr (0, [.ref q7, .ref q15, .ref q23, .int (nI 0), .int (nI 0), .ref q32, .ref q41, .null, .int (nI 0), .null, .null, .int (nI 0), .null, .null])), (q7, wg_aj cJ 48 (fun _ => 0)), (q15, wg_ai cI 48 (fun _ => 0)), (q23, wg_ai cI 48 (fun _ => 0)), (q32, wg_ai cI 624 (fun _ => 0)), (q41, wg_ai cI 577 (fun _ => 0)), (q50, wg_ai cI 577 (fun _ => 0))] := hD
  refine W.widen (k := 6) (n := 1922) (by decide) (by decide) ?_
  refine va_putF (D := D) (ci := 0) (v := .ref q50) (ty := .array .int) (C := R_X) (T := F_X) (N := 14) hx hb hts wg_inX t_X t_X_ok n_X hown hK hP hD hS 0 rfl rfl 7 (by decide) (hts _ kf_X_26) (fun _ h9 => h9) rfl hnm rfl (by decide +kernel) rfl rfl (Nat.le_of_ble_eq_true rfl) d_X_init_52 (fun H locs hP hD hS => ?_)
  have hP : va_P D wg_cl [(h0, .inr (0, [.ref q7, .ref q15, .ref q23, .int (nI 0), .int (nI 0), .ref q32, .ref q41, .ref q50, .int (nI 0), .null, .null, .int (nI 0), .null, .null])), (q7, wg_aj cJ 48 (fun _ => 0)), (q15, wg_ai cI 48 (fun _ => 0)), (q23, wg_ai cI 48 (fun _ => 0)), (q32, wg_ai cI 624 (fun _ => 0)), (q41, wg_ai cI 577 (fun _ => 0)), (q50, wg_ai cI 577 (fun _ => 0))] H := hP
  have hD : va_D A [(h0, .inr (0, [.ref q7, .ref q15, .ref q23, .int (nI 0), .int (nI 0), .ref q32, .ref q41, .ref q50, .int (nI 0), .null, .null, .int (nI 0), .null, .null])), (q7, wg_aj cJ 48 (fun _ => 0)), (q15, wg_ai cI 48 (fun _ => 0)), (q23, wg_ai cI 48 (fun _ => 0)), (q32, wg_ai cI 624 (fun _ => 0)), (q41, wg_ai cI 577 (fun _ => 0)), (q50, wg_ai cI 577 (fun _ => 0))] := hD
  refine lv_aload_n hx hb d_X_init_55 rfl (lv_at hl 0 rfl) ?_
  refine lv_bipush (v := nI 48) hx hb d_X_init_56 (by decide +kernel) ?_
  refine wg_newi hx hb hts ka_i hK hP hD hS hA (by decide) (Nat.le_of_ble_eq_true rfl) (Nat.le_of_ble_eq_true rfl) d_X_init_58 (fun q58 H hP hD hS => ?_)
  have hP : va_P D wg_cl [(h0, .inr (0, [.ref q7, .ref q15, .ref q23, .int (nI 0), .int (nI 0), .ref q32, .ref q41, .ref q50, .int (nI 0), .null, .null, .int (nI 0), .null, .null])), (q7, wg_aj cJ 48 (fun _ => 0)), (q15, wg_ai cI 48 (fun _ => 0)), (q23, wg_ai cI 48 (fun _ => 0)), (q32, wg_ai cI 624 (fun _ => 0)), (q41, wg_ai cI 577 (fun _ => 0)), (q50, wg_ai cI 577 (fun _ => 0)), (q58, wg_ai cI 48 (fun _ => 0))] H := hP
  have hD : va_D A [(h0, .inr (0, [.ref q7, .ref q15, .ref q23, .int (nI 0), .int (nI 0), .ref q32, .ref q41, .ref q50, .int (nI 0), .null, .null, .int (nI 0), .null, .null])), (q7, wg_aj cJ 48 (fun _ => 0)), (q15, wg_ai cI 48 (fun _ => 0)), (q23, wg_ai cI 48 (fun _ => 0)), (q32, wg_ai cI 624 (fun _ => 0)), (q41, wg_ai cI 577 (fun _ => 0)), (q50, wg_ai cI 577 (fun _ => 0)), (q58, wg_ai cI 48 (fun _ => 0))] := hD
  refine W.widen (k := 7) (n := 1970) (by decide) (by decide) ?_
  refine va_putF (D := D) (ci := 0) (v := .ref q58) (ty := .array .int) (C := R_X) (T := F_X) (N := 14) hx hb hts wg_inX t_X t_X_ok n_X hown hK hP hD hS 0 rfl rfl 9 (by decide) (hts _ kf_X_29) (fun _ h9 => h9) rfl hnm rfl (by decide +kernel) rfl rfl (Nat.le_of_ble_eq_true rfl) d_X_init_60 (fun H locs hP hD hS => ?_)
  have hP : va_P D wg_cl [(h0, .inr (0, [.ref q7, .ref q15, .ref q23, .int (nI 0), .int (nI 0), .ref q32, .ref q41, .ref q50, .int (nI 0), .ref q58, .null, .int (nI 0), .null, .null])), (q7, wg_aj cJ 48 (fun _ => 0)), (q15, wg_ai cI 48 (fun _ => 0)), (q23, wg_ai cI 48 (fun _ => 0)), (q32, wg_ai cI 624 (fun _ => 0)), (q41, wg_ai cI 577 (fun _ => 0)), (q50, wg_ai cI 577 (fun _ => 0)), (q58, wg_ai cI 48 (fun _ => 0))] H := hP
  have hD : va_D A [(h0, .inr (0, [.ref q7, .ref q15, .ref q23, .int (nI 0), .int (nI 0), .ref q32, .ref q41, .ref q50, .int (nI 0), .ref q58, .null, .int (nI 0), .null, .null])), (q7, wg_aj cJ 48 (fun _ => 0)), (q15, wg_ai cI 48 (fun _ => 0)), (q23, wg_ai cI 48 (fun _ => 0)), (q32, wg_ai cI 624 (fun _ => 0)), (q41, wg_ai cI 577 (fun _ => 0)), (q50, wg_ai cI 577 (fun _ => 0)), (q58, wg_ai cI 48 (fun _ => 0))] := hD
  refine lv_aload_n hx hb d_X_init_63 rfl (lv_at hl 0 rfl) ?_
  refine lv_bipush (v := nI 48) hx hb d_X_init_64 (by decide +kernel) ?_
  refine wg_newi hx hb hts ka_i hK hP hD hS hA (by decide) (Nat.le_of_ble_eq_true rfl) (Nat.le_of_ble_eq_true rfl) d_X_init_66 (fun q66 H hP hD hS => ?_)
  have hP : va_P D wg_cl [(h0, .inr (0, [.ref q7, .ref q15, .ref q23, .int (nI 0), .int (nI 0), .ref q32, .ref q41, .ref q50, .int (nI 0), .ref q58, .null, .int (nI 0), .null, .null])), (q7, wg_aj cJ 48 (fun _ => 0)), (q15, wg_ai cI 48 (fun _ => 0)), (q23, wg_ai cI 48 (fun _ => 0)), (q32, wg_ai cI 624 (fun _ => 0)), (q41, wg_ai cI 577 (fun _ => 0)), (q50, wg_ai cI 577 (fun _ => 0)), (q58, wg_ai cI 48 (fun _ => 0)), (q66, wg_ai cI 48 (fun _ => 0))] H := hP
  have hD : va_D A [(h0, .inr (0, [.ref q7, .ref q15, .ref q23, .int (nI 0), .int (nI 0), .ref q32, .ref q41, .ref q50, .int (nI 0), .ref q58, .null, .int (nI 0), .null, .null])), (q7, wg_aj cJ 48 (fun _ => 0)), (q15, wg_ai cI 48 (fun _ => 0)), (q23, wg_ai cI 48 (fun _ => 0)), (q32, wg_ai cI 624 (fun _ => 0)), (q41, wg_ai cI 577 (fun _ => 0)), (q50, wg_ai cI 577 (fun _ => 0)), (q58, wg_ai cI 48 (fun _ => 0)), (q66, wg_ai cI 48 (fun _ => 0))] := hD
  refine W.widen (k := 8) (n := 2018) (by decide) (by decide) ?_
  refine va_putF (D := D) (ci := 0) (v := .ref q66) (ty := .array .int) (C := R_X) (T := F_X) (N := 14) hx hb hts wg_inX t_X t_X_ok n_X hown hK hP hD hS 0 rfl rfl 10 (by decide) (hts _ kf_X_32) (fun _ h9 => h9) rfl hnm rfl (by decide +kernel) rfl rfl (Nat.le_of_ble_eq_true rfl) d_X_init_68 (fun H locs hP hD hS => ?_)
  have hP : va_P D wg_cl [(h0, .inr (0, [.ref q7, .ref q15, .ref q23, .int (nI 0), .int (nI 0), .ref q32, .ref q41, .ref q50, .int (nI 0), .ref q58, .ref q66, .int (nI 0), .null, .null])), (q7, wg_aj cJ 48 (fun _ => 0)), (q15, wg_ai cI 48 (fun _ => 0)), (q23, wg_ai cI 48 (fun _ => 0)), (q32, wg_ai cI 624 (fun _ => 0)), (q41, wg_ai cI 577 (fun _ => 0)), (q50, wg_ai cI 577 (fun _ => 0)), (q58, wg_ai cI 48 (fun _ => 0)), (q66, wg_ai cI 48 (fun _ => 0))] H := hP
  have hD : va_D A [(h0, .inr (0, [.ref q7, .ref q15, .ref q23, .int (nI 0), .int (nI 0), .ref q32, .ref q41, .ref q50, .int (nI 0), .ref q58, .ref q66, .int (nI 0), .null, .null])), (q7, wg_aj cJ 48 (fun _ => 0)), (q15, wg_ai cI 48 (fun _ => 0)), (q23, wg_ai cI 48 (fun _ => 0)), (q32, wg_ai cI 624 (fun _ => 0)), (q41, wg_ai cI 577 (fun _ => 0)), (q50, wg_ai cI 577 (fun _ => 0)), (q58, wg_ai cI 48 (fun _ => 0)), (q66, wg_ai cI 48 (fun _ => 0))] := hD
  refine lv_aload_n hx hb d_X_init_71 rfl (lv_at hl 0 rfl) ?_
  refine lv_sipush (v := nI 169) hx hb d_X_init_72 (by decide +kernel) ?_
  refine wg_newi hx hb hts ka_i hK hP hD hS hA (by decide) (Nat.le_of_ble_eq_true rfl) (Nat.le_of_ble_eq_true rfl) d_X_init_75 (fun q75 H hP hD hS => ?_)
  have hP : va_P D wg_cl [(h0, .inr (0, [.ref q7, .ref q15, .ref q23, .int (nI 0), .int (nI 0), .ref q32, .ref q41, .ref q50, .int (nI 0), .ref q58, .ref q66, .int (nI 0), .null, .null])), (q7, wg_aj cJ 48 (fun _ => 0)), (q15, wg_ai cI 48 (fun _ => 0)), (q23, wg_ai cI 48 (fun _ => 0)), (q32, wg_ai cI 624 (fun _ => 0)), (q41, wg_ai cI 577 (fun _ => 0)), (q50, wg_ai cI 577 (fun _ => 0)), (q58, wg_ai cI 48 (fun _ => 0)), (q66, wg_ai cI 48 (fun _ => 0)), (q75, wg_ai cI 169 (fun _ => 0))] H := hP
  have hD : va_D A [(h0, .inr (0, [.ref q7, .ref q15, .ref q23, .int (nI 0), .int (nI 0), .ref q32, .ref q41, .ref q50, .int (nI 0), .ref q58, .ref q66, .int (nI 0), .null, .null])), (q7, wg_aj cJ 48 (fun _ => 0)), (q15, wg_ai cI 48 (fun _ => 0)), (q23, wg_ai cI 48 (fun _ => 0)), (q32, wg_ai cI 624 (fun _ => 0)), (q41, wg_ai cI 577 (fun _ => 0)), (q50, wg_ai cI 577 (fun _ => 0)), (q58, wg_ai cI 48 (fun _ => 0)), (q66, wg_ai cI 48 (fun _ => 0)), (q75, wg_ai cI 169 (fun _ => 0))] := hD
  refine W.widen (k := 9) (n := 2187) (by decide) (by decide) ?_
  refine va_putF (D := D) (ci := 0) (v := .ref q75) (ty := .array .int) (C := R_X) (T := F_X) (N := 14) hx hb hts wg_inX t_X t_X_ok n_X hown hK hP hD hS 0 rfl rfl 12 (by decide) (hts _ kf_X_35) (fun _ h9 => h9) rfl hnm rfl (by decide +kernel) rfl rfl (Nat.le_of_ble_eq_true rfl) d_X_init_77 (fun H locs hP hD hS => ?_)
  have hP : va_P D wg_cl [(h0, .inr (0, [.ref q7, .ref q15, .ref q23, .int (nI 0), .int (nI 0), .ref q32, .ref q41, .ref q50, .int (nI 0), .ref q58, .ref q66, .int (nI 0), .ref q75, .null])), (q7, wg_aj cJ 48 (fun _ => 0)), (q15, wg_ai cI 48 (fun _ => 0)), (q23, wg_ai cI 48 (fun _ => 0)), (q32, wg_ai cI 624 (fun _ => 0)), (q41, wg_ai cI 577 (fun _ => 0)), (q50, wg_ai cI 577 (fun _ => 0)), (q58, wg_ai cI 48 (fun _ => 0)), (q66, wg_ai cI 48 (fun _ => 0)), (q75, wg_ai cI 169 (fun _ => 0))] H := hP
  have hD : va_D A [(h0, .inr (0, [.ref q7, .ref q15, .ref q23, .int (nI 0), .int (nI 0), .ref q32, .ref q41, .ref q50, .int (nI 0), .ref q58, .ref q66, .int (nI 0), .ref q75, .null])), (q7, wg_aj cJ 48 (fun _ => 0)), (q15, wg_ai cI 48 (fun _ => 0)), (q23, wg_ai cI 48 (fun _ => 0)), (q32, wg_ai cI 624 (fun _ => 0)), (q41, wg_ai cI 577 (fun _ => 0)), (q50, wg_ai cI 577 (fun _ => 0)), (q58, wg_ai cI 48 (fun _ => 0)), (q66, wg_ai cI 48 (fun _ => 0)), (q75, wg_ai cI 169 (fun _ => 0))] := hD
  refine lv_aload_n hx hb d_X_init_80 rfl (lv_at hl 0 rfl) ?_
  refine lv_bipush (v := nI 48) hx hb d_X_init_81 (by decide +kernel) ?_
  refine wg_newi hx hb hts ka_i hK hP hD hS hA (by decide) (Nat.le_of_ble_eq_true rfl) (Nat.le_of_ble_eq_true rfl) d_X_init_83 (fun q83 H hP hD hS => ?_)
  have hP : va_P D wg_cl [(h0, .inr (0, [.ref q7, .ref q15, .ref q23, .int (nI 0), .int (nI 0), .ref q32, .ref q41, .ref q50, .int (nI 0), .ref q58, .ref q66, .int (nI 0), .ref q75, .null])), (q7, wg_aj cJ 48 (fun _ => 0)), (q15, wg_ai cI 48 (fun _ => 0)), (q23, wg_ai cI 48 (fun _ => 0)), (q32, wg_ai cI 624 (fun _ => 0)), (q41, wg_ai cI 577 (fun _ => 0)), (q50, wg_ai cI 577 (fun _ => 0)), (q58, wg_ai cI 48 (fun _ => 0)), (q66, wg_ai cI 48 (fun _ => 0)), (q75, wg_ai cI 169 (fun _ => 0)), (q83, wg_ai cI 48 (fun _ => 0))] H := hP
  have hD : va_D A [(h0, .inr (0, [.ref q7, .ref q15, .ref q23, .int (nI 0), .int (nI 0), .ref q32, .ref q41, .ref q50, .int (nI 0), .ref q58, .ref q66, .int (nI 0), .ref q75, .null])), (q7, wg_aj cJ 48 (fun _ => 0)), (q15, wg_ai cI 48 (fun _ => 0)), (q23, wg_ai cI 48 (fun _ => 0)), (q32, wg_ai cI 624 (fun _ => 0)), (q41, wg_ai cI 577 (fun _ => 0)), (q50, wg_ai cI 577 (fun _ => 0)), (q58, wg_ai cI 48 (fun _ => 0)), (q66, wg_ai cI 48 (fun _ => 0)), (q75, wg_ai cI 169 (fun _ => 0)), (q83, wg_ai cI 48 (fun _ => 0))] := hD
  refine W.widen (k := 10) (n := 2235) (by decide) (by decide) ?_
  refine va_putF (D := D) (ci := 0) (v := .ref q83) (ty := .array .int) (C := R_X) (T := F_X) (N := 14) hx hb hts wg_inX t_X t_X_ok n_X hown hK hP hD hS 0 rfl rfl 13 (by decide) (hts _ kf_X_38) (fun _ h9 => h9) rfl hnm rfl (by decide +kernel) rfl rfl (Nat.le_of_ble_eq_true rfl) d_X_init_85 (fun H locs hP hD hS => ?_)
  have hP : va_P D wg_cl [(h0, .inr (0, [.ref q7, .ref q15, .ref q23, .int (nI 0), .int (nI 0), .ref q32, .ref q41, .ref q50, .int (nI 0), .ref q58, .ref q66, .int (nI 0), .ref q75, .ref q83])), (q7, wg_aj cJ 48 (fun _ => 0)), (q15, wg_ai cI 48 (fun _ => 0)), (q23, wg_ai cI 48 (fun _ => 0)), (q32, wg_ai cI 624 (fun _ => 0)), (q41, wg_ai cI 577 (fun _ => 0)), (q50, wg_ai cI 577 (fun _ => 0)), (q58, wg_ai cI 48 (fun _ => 0)), (q66, wg_ai cI 48 (fun _ => 0)), (q75, wg_ai cI 169 (fun _ => 0)), (q83, wg_ai cI 48 (fun _ => 0))] H := hP
  have hD : va_D A [(h0, .inr (0, [.ref q7, .ref q15, .ref q23, .int (nI 0), .int (nI 0), .ref q32, .ref q41, .ref q50, .int (nI 0), .ref q58, .ref q66, .int (nI 0), .ref q75, .ref q83])), (q7, wg_aj cJ 48 (fun _ => 0)), (q15, wg_ai cI 48 (fun _ => 0)), (q23, wg_ai cI 48 (fun _ => 0)), (q32, wg_ai cI 624 (fun _ => 0)), (q41, wg_ai cI 577 (fun _ => 0)), (q50, wg_ai cI 577 (fun _ => 0)), (q58, wg_ai cI 48 (fun _ => 0)), (q66, wg_ai cI 48 (fun _ => 0)), (q75, wg_ai cI 169 (fun _ => 0)), (q83, wg_ai cI 48 (fun _ => 0))] := hD
  refine lv_aload_n hx hb d_X_init_88 rfl (lv_at hl 0 rfl) ?_
  obtain ⟨ad, had⟩ : ∃ ad : Nat → Nat, ad = fun k => match k with | 0 => q7 | 1 => q15 | 2 => q23 | 5 => q32 | 6 => q41 | 7 => q50 | 9 => q58 | 10 => q66 | 12 => q75 | 13 => q83 | _ => 0 := ⟨_, rfl⟩
  have ea0 : q7 = ad 0 := (congrFun had 0).symm
  have ea1 : q15 = ad 1 := (congrFun had 1).symm
  have ea2 : q23 = ad 2 := (congrFun had 2).symm
  have ea5 : q32 = ad 5 := (congrFun had 5).symm
  have ea6 : q41 = ad 6 := (congrFun had 6).symm
  have ea7 : q50 = ad 7 := (congrFun had 7).symm
  have ea9 : q58 = ad 9 := (congrFun had 9).symm
  have ea10 : q66 = ad 10 := (congrFun had 10).symm
  have ea12 : q75 = ad 12 := (congrFun had 12).symm
  have ea13 : q83 = ad 13 := (congrFun had 13).symm
  clear had
  subst ea0 ea1 ea2 ea5 ea6 ea7 ea9 ea10 ea12 ea13
  have hP : va_P D wg_cl (wg_WX cJ cI h0 ad wg_Z) H := hP
  have hD : ∀ J, va_D A (wg_WX cJ cI h0 ad J) := fun J => wg_same_D (w1 := wg_WX cJ cI h0 ad wg_Z) rfl hD
  refine wg_cvv (As := []) (rest := []) hx hb hml hown hts hK hP (hD _) hS hA rfl rfl rfl (c_X_clear l D cJ cI h0 ad _ wg_Z) kc_X_41 ⟨rfl, rfl⟩ ⟨Nat.le_of_ble_eq_true rfl, Nat.le_of_ble_eq_true rfl⟩ rfl hl.1 rfl (Nat.le_of_ble_eq_true rfl) d_X_init_89 ⟨Nat.le_of_ble_eq_true rfl, Nat.le_of_ble_eq_true rfl⟩ (fun u t H locs ht hq hB _ _ hS => ?_)
  obtain rfl := hq
  have hP : va_P D wg_cl (wg_WX cJ cI h0 ad wg_cX) H := by rw [← ht]; exact hB
  clear hB ht t
  exact W.vret hx hb hr (fun t ht hW => ⟨⟨ad, rfl, trivial, wg_h ht hP, hD _⟩, hS.F ht⟩) hS.2.2 d_X_init_92
set_option maxHeartbeats 4000000 in
set_option maxRecDepth 100000 in
theorem c_M_init (l : Launch) (D : va_G) (cJ cI : ClassId) (h0 sz : Nat) : Met l y_M_init (wg_ws y_M_init b_M_init 1 none) ({ frames := 1, cells := 7, slots := 2187, locals := 12 }) (va_Pc [.ref h0] (wg_Pc D cJ cI [(h0, .inr (1, wg_BM))] sz)) (va_Qv (fun (_ : Nat → Nat) => True) (fun (u : Nat → Nat) t => va_P D wg_cl (wg_WM cJ cI h0 u wg_cM) t.heap ∧ va_D (va_A [(h0, .inr (1, wg_BM))] sz) (wg_WM cJ cI h0 u wg_cM)) (va_A [(h0, .inr (1, wg_BM))] sz)) 7 2187 (va_A [(h0, .inr (1, wg_BM))] sz) := by
  refine wg_head (Wd := fun _ => [(h0, .inr (1, wg_BM))]) (I := wg_Z) (fun A => va_Qv (fun (_ : Nat → Nat) => True) (fun (u : Nat → Nat) t => va_P D wg_cl (wg_WM cJ cI h0 u wg_cM) t.heap ∧ va_D A (wg_WM cJ cI h0 u wg_cM)) A) R_M (by decide) rfl (Nat.le_of_ble_eq_true rfl) (fun _ _ => rfl) ?_
  intro p e s m below meth c A ls hx hb hr hlk hml hown hnm hts hA hK hD hP hS hl hsz
  clear hsz
  have hl : lv_has ls 1 [(0, .ref h0)] := hl
  have hD := hD wg_Z
  have hP : va_P D wg_cl [(h0, .inr (1, [.null, .int (nI 0), .int (nI 0), .int (nI 0), .null, .null, .null, .null, .null, .int (nI 0), .null]))] s.heap := hP
  have hD : va_D A [(h0, .inr (1, [.null, .int (nI 0), .int (nI 0), .int (nI 0), .null, .null, .null, .null, .null, .int (nI 0), .null]))] := hD
  refine lv_aload_n hx hb d_M_init_0 rfl (lv_at hl 0 rfl) ?_
  refine W.objInit hx hb hown (hts _ ko_M) (hts _ ko_inst) (hts _ ko_code) rfl (by rw [hml]; exact hl.1) rfl d_M_init_1 (Nat.le_of_ble_eq_true rfl) (Nat.le_of_ble_eq_true rfl) ?_
  refine W.eq (g2 := F0 m 4 ls []) rfl ?_
  refine lv_aload_n hx hb d_M_init_4 rfl (lv_at hl 0 rfl) ?_
  refine lv_bipush (v := nI 48) hx hb d_M_init_5 (by decide +kernel) ?_
  refine wg_newj hx hb hts ka_j hK hP hD hS hA (by decide) (Nat.le_of_ble_eq_true rfl) (Nat.le_of_ble_eq_true rfl) d_M_init_7 (fun q7 H hP hD hS => ?_)
  have hP : va_P D wg_cl [(h0, .inr (1, [.null, .int (nI 0), .int (nI 0), .int (nI 0), .null, .null, .null, .null, .null, .int (nI 0), .null])), (q7, wg_aj cJ 48 (fun _ => 0))] H := hP
  have hD : va_D A [(h0, .inr (1, [.null, .int (nI 0), .int (nI 0), .int (nI 0), .null, .null, .null, .null, .null, .int (nI 0), .null])), (q7, wg_aj cJ 48 (fun _ => 0))] := hD
  refine W.widen (k := 1) (n := 48) (by decide) (by decide) ?_
  refine va_putF (D := D) (ci := 1) (v := .ref q7) (ty := .array .long) (C := R_M) (T := F_M) (N := 11) hx hb hts wg_inM t_M t_M_ok n_M hown hK hP hD hS 0 rfl rfl 0 (by decide) (hts _ kf_M_7) (fun _ h9 => h9) rfl hnm rfl (by decide +kernel) rfl rfl (Nat.le_of_ble_eq_true rfl) d_M_init_9 (fun H locs hP hD hS => ?_)
  have hP : va_P D wg_cl [(h0, .inr (1, [.ref q7, .int (nI 0), .int (nI 0), .int (nI 0), .null, .null, .null, .null, .null, .int (nI 0), .null])), (q7, wg_aj cJ 48 (fun _ => 0))] H := hP
  have hD : va_D A [(h0, .inr (1, [.ref q7, .int (nI 0), .int (nI 0), .int (nI 0), .null, .null, .null, .null, .null, .int (nI 0), .null])), (q7, wg_aj cJ 48 (fun _ => 0))] := hD
  refine lv_aload_n hx hb d_M_init_12 rfl (lv_at hl 0 rfl) ?_
  refine lv_bipush (v := nI 48) hx hb d_M_init_13 (by decide +kernel) ?_
  refine wg_newi hx hb hts ka_i hK hP hD hS hA (by decide) (Nat.le_of_ble_eq_true rfl) (Nat.le_of_ble_eq_true rfl) d_M_init_15 (fun q15 H hP hD hS => ?_)
  have hP : va_P D wg_cl [(h0, .inr (1, [.ref q7, .int (nI 0), .int (nI 0), .int (nI 0), .null, .null, .null, .null, .null, .int (nI 0), .null])), (q7, wg_aj cJ 48 (fun _ => 0)), (q15, wg_ai cI 48 (fun _ => 0))] H := hP
  have hD : va_D A [(h0, .inr (1, [.ref q7, .int (nI 0), .int (nI 0), .int (nI 0), .null, .null, .null, .null, .null, .int (nI 0), .null])), (q7, wg_aj cJ 48 (fun _ => 0)), (q15, wg_ai cI 48 (fun _ => 0))] := hD
  refine W.widen (k := 2) (n := 96) (by decide) (by decide) ?_
  refine va_putF (D := D) (ci := 1) (v := .ref q15) (ty := .array .int) (C := R_M) (T := F_M) (N := 11) hx hb hts wg_inM t_M t_M_ok n_M hown hK hP hD hS 0 rfl rfl 4 (by decide) (hts _ kf_M_13) (fun _ h9 => h9) rfl hnm rfl (by decide +kernel) rfl rfl (Nat.le_of_ble_eq_true rfl) d_M_init_17 (fun H locs hP hD hS => ?_)
  have hP : va_P D wg_cl [(h0, .inr (1, [.ref q7, .int (nI 0), .int (nI 0), .int (nI 0), .ref q15, .null, .null, .null, .null, .int (nI 0), .null])), (q7, wg_aj cJ 48 (fun _ => 0)), (q15, wg_ai cI 48 (fun _ => 0))] H := hP
  have hD : va_D A [(h0, .inr (1, [.ref q7, .int (nI 0), .int (nI 0), .int (nI 0), .ref q15, .null, .null, .null, .null, .int (nI 0), .null])), (q7, wg_aj cJ 48 (fun _ => 0)), (q15, wg_ai cI 48 (fun _ => 0))] := hD
  refine lv_aload_n hx hb d_M_init_20 rfl (lv_at hl 0 rfl) ?_
  refine lv_bipush (v := nI 48) hx hb d_M_init_21 (by decide +kernel) ?_
  refine wg_newi hx hb hts ka_i hK hP hD hS hA (by decide) (Nat.le_of_ble_eq_true rfl) (Nat.le_of_ble_eq_true rfl) d_M_init_23 (fun q23 H hP hD hS => ?_)
  have hP : va_P D wg_cl [(h0, .inr (1, [.ref q7, .int (nI 0), .int (nI 0), .int (nI 0), .ref q15, .null, .null, .null, .null, .int (nI 0), .null])), (q7, wg_aj cJ 48 (fun _ => 0)), (q15, wg_ai cI 48 (fun _ => 0)), (q23, wg_ai cI 48 (fun _ => 0))] H := hP
  have hD : va_D A [(h0, .inr (1, [.ref q7, .int (nI 0), .int (nI 0), .int (nI 0), .ref q15, .null, .null, .null, .null, .int (nI 0), .null])), (q7, wg_aj cJ 48 (fun _ => 0)), (q15, wg_ai cI 48 (fun _ => 0)), (q23, wg_ai cI 48 (fun _ => 0))] := hD
  refine W.widen (k := 3) (n := 144) (by decide) (by decide) ?_
  refine va_putF (D := D) (ci := 1) (v := .ref q23) (ty := .array .int) (C := R_M) (T := F_M) (N := 11) hx hb hts wg_inM t_M t_M_ok n_M hown hK hP hD hS 0 rfl rfl 5 (by decide) (hts _ kf_M_17) (fun _ h9 => h9) rfl hnm rfl (by decide +kernel) rfl rfl (Nat.le_of_ble_eq_true rfl) d_M_init_25 (fun H locs hP hD hS => ?_)
  have hP : va_P D wg_cl [(h0, .inr (1, [.ref q7, .int (nI 0), .int (nI 0), .int (nI 0), .ref q15, .ref q23, .null, .null, .null, .int (nI 0), .null])), (q7, wg_aj cJ 48 (fun _ => 0)), (q15, wg_ai cI 48 (fun _ => 0)), (q23, wg_ai cI 48 (fun _ => 0))] H := hP
  have hD : va_D A [(h0, .inr (1, [.ref q7, .int (nI 0), .int (nI 0), .int (nI 0), .ref q15, .ref q23, .null, .null, .null, .int (nI 0), .null])), (q7, wg_aj cJ 48 (fun _ => 0)), (q15, wg_ai cI 48 (fun _ => 0)), (q23, wg_ai cI 48 (fun _ => 0))] := hD
  refine lv_aload_n hx hb d_M_init_28 rfl (lv_at hl 0 rfl) ?_
  refine lv_sipush (v := nI 624) hx hb d_M_init_29 (by decide +kernel) ?_
  refine wg_newi hx hb hts ka_i hK hP hD hS hA (by decide) (Nat.le_of_ble_eq_true rfl) (Nat.le_of_ble_eq_true rfl) d_M_init_32 (fun q32 H hP hD hS => ?_)
  have hP : va_P D wg_cl [(h0, .inr (1, [.ref q7, .int (nI 0), .int (nI 0), .int (nI 0), .ref q15, .ref q23, .null, .null, .null, .int (nI 0), .null])), (q7, wg_aj cJ 48 (fun _ => 0)), (q15, wg_ai cI 48 (fun _ => 0)), (q23, wg_ai cI 48 (fun _ => 0)), (q32, wg_ai cI 624 (fun _ => 0))] H := hP
  have hD : va_D A [(h0, .inr (1, [.ref q7, .int (nI 0), .int (nI 0), .int (nI 0), .ref q15, .ref q23, .null, .null, .null, .int (nI 0), .null])), (q7, wg_aj cJ 48 (fun _ => 0)), (q15, wg_ai cI 48 (fun _ => 0)), (q23, wg_ai cI 48 (fun _ => 0)), (q32, wg_ai cI 624 (fun _ => 0))] := hD
  refine W.widen (k := 4) (n := 768) (by decide) (by decide) ?_
  refine va_putF (D := D) (ci := 1) (v := .ref q32) (ty := .array .int) (C := R_M) (T := F_M) (N := 11) hx hb hts wg_inM t_M t_M_ok n_M hown hK hP hD hS 0 rfl rfl 6 (by decide) (hts _ kf_M_20) (fun _ h9 => h9) rfl hnm rfl (by decide +kernel) rfl rfl (Nat.le_of_ble_eq_true rfl) d_M_init_34 (fun H locs hP hD hS => ?_)
  have hP : va_P D wg_cl [(h0, .inr (1, [.ref q7, .int (nI 0), .int (nI 0), .int (nI 0), .ref q15, .ref q23, .ref q32, .null, .null, .int (nI 0), .null])), (q7, wg_aj cJ 48 (fun _ => 0)), (q15, wg_ai cI 48 (fun _ => 0)), (q23, wg_ai cI 48 (fun _ => 0)), (q32, wg_ai cI 624 (fun _ => 0))] H := hP
  have hD : va_D A [(h0, .inr (1, [.ref q7, .int (nI 0), .int (nI 0), .int (nI 0), .ref q15, .ref q23, .ref q32, .null, .null, .int (nI 0), .null])), (q7, wg_aj cJ 48 (fun _ => 0)), (q15, wg_ai cI 48 (fun _ => 0)), (q23, wg_ai cI 48 (fun _ => 0)), (q32, wg_ai cI 624 (fun _ => 0))] := hD
  refine lv_aload_n hx hb d_M_init_37 rfl (lv_at hl 0 rfl) ?_
  refine lv_sipush (v := nI 625) hx hb d_M_init_38 (by decide +kernel) ?_
  refine wg_newi hx hb hts ka_i hK hP hD hS hA (by decide) (Nat.le_of_ble_eq_true rfl) (Nat.le_of_ble_eq_true rfl) d_M_init_41 (fun q41 H hP hD hS => ?_)
  have hP : va_P D wg_cl [(h0, .inr (1, [.ref q7, .int (nI 0), .int (nI 0), .int (nI 0), .ref q15, .ref q23, .ref q32, .null, .null, .int (nI 0), .null])), (q7, wg_aj cJ 48 (fun _ => 0)), (q15, wg_ai cI 48 (fun _ => 0)), (q23, wg_ai cI 48 (fun _ => 0)), (q32, wg_ai cI 624 (fun _ => 0)), (q41, wg_ai cI 625 (fun _ => 0))] H := hP
  have hD : va_D A [(h0, .inr (1, [.ref q7, .int (nI 0), .int (nI 0), .int (nI 0), .ref q15, .ref q23, .ref q32, .null, .null, .int (nI 0), .null])), (q7, wg_aj cJ 48 (fun _ => 0)), (q15, wg_ai cI 48 (fun _ => 0)), (q23, wg_ai cI 48 (fun _ => 0)), (q32, wg_ai cI 624 (fun _ => 0)), (q41, wg_ai cI 625 (fun _ => 0))] := hD
  refine W.widen (k := 5) (n := 1393) (by decide) (by decide) ?_
  refine va_putF (D := D) (ci := 1) (v := .ref q41) (ty := .array .int) (C := R_M) (T := F_M) (N := 11) hx hb hts wg_inM t_M t_M_ok n_M hown hK hP hD hS 0 rfl rfl 7 (by decide) (hts _ kf_M_23) (fun _ h9 => h9) rfl hnm rfl (by decide +kernel) rfl rfl (Nat.le_of_ble_eq_true rfl) d_M_init_43 (fun H locs hP hD hS => ?_)
  have hP : va_P D wg_cl [(h0, .inr (1, [.ref q7, .int (nI 0), .int (nI 0), .int (nI 0), .ref q15, .ref q23, .ref q32, .ref q41, .null, .int (nI 0), .null])), (q7, wg_aj cJ 48 (fun _ => 0)), (q15, wg_ai cI 48 (fun _ => 0)), (q23, wg_ai cI 48 (fun _ => 0)), (q32, wg_ai cI 624 (fun _ => 0)), (q41, wg_ai cI 625 (fun _ => 0))] H := hP
  have hD : va_D A [(h0, .inr (1, [.ref q7, .int (nI 0), .int (nI 0), .int (nI 0), .ref q15, .ref q23, .ref q32, .ref q41, .null, .int (nI 0), .null])), (q7, wg_aj cJ 48 (fun _ => 0)), (q15, wg_ai cI 48 (fun _ => 0)), (q23, wg_ai cI 48 (fun _ => 0)), (q32, wg_ai cI 624 (fun _ => 0)), (q41, wg_ai cI 625 (fun _ => 0))] := hD
  refine lv_aload_n hx hb d_M_init_46 rfl (lv_at hl 0 rfl) ?_
  refine lv_sipush (v := nI 625) hx hb d_M_init_47 (by decide +kernel) ?_
  refine wg_newi hx hb hts ka_i hK hP hD hS hA (by decide) (Nat.le_of_ble_eq_true rfl) (Nat.le_of_ble_eq_true rfl) d_M_init_50 (fun q50 H hP hD hS => ?_)
  have hP : va_P D wg_cl [(h0, .inr (1, [.ref q7, .int (nI 0), .int (nI 0), .int (nI 0), .ref q15, .ref q23, .ref q32, .ref q41, .null, .int (nI 0), .null])), (q7, wg_aj cJ 48 (fun _ => 0)), (q15, wg_ai cI 48 (fun _ => 0)), (q23, wg_ai cI 48 (fun _ => 0)), (q32, wg_ai cI 624 (fun _ => 0)), (q41, wg_ai cI 625 (fun _ => 0)), (q50, wg_ai cI 625 (fun _ => 0))] H := hP
  have hD : va_D A [(h0, .inr (1, [.ref q7, .int (nI 0), .int (nI 0), .int (nI 0), .ref q15, .ref q23, .ref q32, .ref q41, .null, .int (nI 0), .null])), (q7, wg_aj cJ 48 (fun _ => 0)), (q15, wg_ai cI 48 (fun _ => 0)), (q23, wg_ai cI 48 (fun _ => 0)), (q32, wg_ai cI 624 (fun _ => 0)), (q41, wg_ai cI 625 (fun _ => 0)), (q50, wg_ai cI 625 (fun _ => 0))] := hD
  refine W.widen (k := 6) (n := 2018) (by decide) (by decide) ?_
  refine va_putF (D := D) (ci := 1) (v := .ref q50) (ty := .array .int) (C := R_M) (T := F_M) (N := 11) hx hb hts wg_inM t_M t_M_ok n_M hown hK hP hD hS 0 rfl rfl 8 (by decide) (hts _ kf_M_26) (fun _ h9 => h9) rfl hnm rfl (by decide +kernel) rfl rfl (Nat.le_of_ble_eq_true rfl) d_M_init_52 (fun H locs hP hD hS => ?_)
  have hP : va_P D wg_cl [(h0, .inr (1, [.ref q7, .int (nI 0), .int (nI 0), .int (nI 0), .ref q15, .ref q23, .ref q32, .ref q41, .ref q50, .int (nI 0), .null])), (q7, wg_aj cJ 48 (fun _ => 0)), (q15, wg_ai cI 48 (fun _ => 0)), (q23, wg_ai cI 48 (fun _ => 0)), (q32, wg_ai cI 624 (fun _ => 0)), (q41, wg_ai cI 625 (fun _ => 0)), (q50, wg_ai cI 625 (fun _ => 0))] H := hP
  have hD : va_D A [(h0, .inr (1, [.ref q7, .int (nI 0), .int (nI 0), .int (nI 0), .ref q15, .ref q23, .ref q32, .ref q41, .ref q50, .int (nI 0), .null])), (q7, wg_aj cJ 48 (fun _ => 0)), (q15, wg_ai cI 48 (fun _ => 0)), (q23, wg_ai cI 48 (fun _ => 0)), (q32, wg_ai cI 624 (fun _ => 0)), (q41, wg_ai cI 625 (fun _ => 0)), (q50, wg_ai cI 625 (fun _ => 0))] := hD
  refine lv_aload_n hx hb d_M_init_55 rfl (lv_at hl 0 rfl) ?_
  refine lv_sipush (v := nI 169) hx hb d_M_init_56 (by decide +kernel) ?_
  refine wg_newi hx hb hts ka_i hK hP hD hS hA (by decide) (Nat.le_of_ble_eq_true rfl) (Nat.le_of_ble_eq_true rfl) d_M_init_59 (fun q59 H hP hD hS => ?_)
  have hP : va_P D wg_cl [(h0, .inr (1, [.ref q7, .int (nI 0), .int (nI 0), .int (nI 0), .ref q15, .ref q23, .ref q32, .ref q41, .ref q50, .int (nI 0), .null])), (q7, wg_aj cJ 48 (fun _ => 0)), (q15, wg_ai cI 48 (fun _ => 0)), (q23, wg_ai cI 48 (fun _ => 0)), (q32, wg_ai cI 624 (fun _ => 0)), (q41, wg_ai cI 625 (fun _ => 0)), (q50, wg_ai cI 625 (fun _ => 0)), (q59, wg_ai cI 169 (fun _ => 0))] H := hP
  have hD : va_D A [(h0, .inr (1, [.ref q7, .int (nI 0), .int (nI 0), .int (nI 0), .ref q15, .ref q23, .ref q32, .ref q41, .ref q50, .int (nI 0), .null])), (q7, wg_aj cJ 48 (fun _ => 0)), (q15, wg_ai cI 48 (fun _ => 0)), (q23, wg_ai cI 48 (fun _ => 0)), (q32, wg_ai cI 624 (fun _ => 0)), (q41, wg_ai cI 625 (fun _ => 0)), (q50, wg_ai cI 625 (fun _ => 0)), (q59, wg_ai cI 169 (fun _ => 0))] := hD
  refine W.widen (k := 7) (n := 2187) (by decide) (by decide) ?_
  refine va_putF (D := D) (ci := 1) (v := .ref q59) (ty := .array .int) (C := R_M) (T := F_M) (N := 11) hx hb hts wg_inM t_M t_M_ok n_M hown hK hP hD hS 0 rfl rfl 10 (by decide) (hts _ kf_M_29) (fun _ h9 => h9) rfl hnm rfl (by decide +kernel) rfl rfl (Nat.le_of_ble_eq_true rfl) d_M_init_61 (fun H locs hP hD hS => ?_)
  have hP : va_P D wg_cl [(h0, .inr (1, [.ref q7, .int (nI 0), .int (nI 0), .int (nI 0), .ref q15, .ref q23, .ref q32, .ref q41, .ref q50, .int (nI 0), .ref q59])), (q7, wg_aj cJ 48 (fun _ => 0)), (q15, wg_ai cI 48 (fun _ => 0)), (q23, wg_ai cI 48 (fun _ => 0)), (q32, wg_ai cI 624 (fun _ => 0)), (q41, wg_ai cI 625 (fun _ => 0)), (q50, wg_ai cI 625 (fun _ => 0)), (q59, wg_ai cI 169 (fun _ => 0))] H := hP
  have hD : va_D A [(h0, .inr (1, [.ref q7, .int (nI 0), .int (nI 0), .int (nI 0), .ref q15, .ref q23, .ref q32, .ref q41, .ref q50, .int (nI 0), .ref q59])), (q7, wg_aj cJ 48 (fun _ => 0)), (q15, wg_ai cI 48 (fun _ => 0)), (q23, wg_ai cI 48 (fun _ => 0)), (q32, wg_ai cI 624 (fun _ => 0)), (q41, wg_ai cI 625 (fun _ => 0)), (q50, wg_ai cI 625 (fun _ => 0)), (q59, wg_ai cI 169 (fun _ => 0))] := hD
  refine lv_aload_n hx hb d_M_init_64 rfl (lv_at hl 0 rfl) ?_
  refine lv_iconst (v := nI 0) hx hb d_M_init_65 (by decide +kernel) ?_
  obtain ⟨ad, had⟩ : ∃ ad : Nat → Nat, ad = fun k => match k with | 0 => q7 | 4 => q15 | 5 => q23 | 6 => q32 | 7 => q41 | 8 => q50 | 10 => q59 | _ => 0 := ⟨_, rfl⟩
  have ea0 : q7 = ad 0 := (congrFun had 0).symm
  have ea4 : q15 = ad 4 := (congrFun had 4).symm
  have ea5 : q23 = ad 5 := (congrFun had 5).symm
  have ea6 : q32 = ad 6 := (congrFun had 6).symm
  have ea7 : q41 = ad 7 := (congrFun had 7).symm
  have ea8 : q50 = ad 8 := (congrFun had 8).symm
  have ea10 : q59 = ad 10 := (congrFun had 10).symm
  clear had
  subst ea0 ea4 ea5 ea6 ea7 ea8 ea10
  have hP : va_P D wg_cl (wg_WM cJ cI h0 ad wg_Z) H := hP
  have hD : ∀ J, va_D A (wg_WM cJ cI h0 ad J) := fun J => wg_same_D (w1 := wg_WM cJ cI h0 ad wg_Z) rfl hD
  refine wg_pM1 (v := 0) hx hb hts hown hK hP hD hS kf_M_32 d_M_init_66 (fun H locs hP hS => ?_)
  exact W.vret hx hb hr (fun t ht hW => ⟨⟨ad, rfl, trivial, wg_h ht hP, hD _⟩, hS.F ht⟩) hS.2.2 d_M_init_69
