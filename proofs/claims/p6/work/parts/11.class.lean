set_option maxHeartbeats 4000000 in
set_option maxRecDepth 100000 in
theorem c_X_makeNode (l : Launch) (D : va_G) (cJ cI : ClassId) (h0 : Nat) (ad : Nat → Nat) (sz : Nat) (I : wg_S) (k : Nat) (t : Nat) (hc : I 8 0 < 577) : Met l y_X_makeNode (wg_ws y_X_makeNode b_X_makeNode 3 (some .int)) ({ frames := 0, cells := 0, slots := 0, locals := 0 }) (va_Pc [.ref h0, .int (nI k), .int (nI t)] (wg_Pc D cJ cI (wg_WX cJ cI h0 ad I) sz)) (va_Qi (fun (r : Int32) (u : wg_S) => r = nI (I 8 0) ∧ u = wg_st (wg_st (wg_st I 6 (I 8 0) k) 7 (I 8 0) t) 8 0 (I 8 0 + 1)) (fun (u : wg_S) t => va_P D wg_cl (wg_WX cJ cI h0 ad u) t.heap) (va_A (wg_WX cJ cI h0 ad I) sz)) 0 0 (va_A (wg_WX cJ cI h0 ad I) sz) := by
  refine wg_head (Wd := (fun I => wg_WX cJ cI h0 ad I)) (I := I) (fun A => va_Qi (fun (r : Int32) (u : wg_S) => r = nI (I 8 0) ∧ u = wg_st (wg_st (wg_st I 6 (I 8 0) k) 7 (I 8 0) t) 8 0 (I 8 0 + 1)) (fun (u : wg_S) t => va_P D wg_cl (wg_WX cJ cI h0 ad u) t.heap) A) R_X (by decide) rfl (Nat.le_of_ble_eq_true rfl) (fun I J => wg_same_X I J) ?_
  intro p e s m below meth c A ls hx hb hr hlk hml hown hnm hts hA hK hD hP hS hl hsz
  clear hsz
  have hl : lv_has ls 3 [(0, .ref h0), (1, .int (nI k)), (2, .int (nI t))] := hl
  have hP : va_P D wg_cl (wg_WX cJ cI h0 ad I) s.heap := hP
  skip
  refine lv_aload_n hx hb d_X_makeNode_0 rfl (lv_at hl 0 rfl) ?_
  refine wg_gX hx hb hts hown hK hP 6 (by decide) (v := .ref (ad 6)) kf_X_23 rfl d_X_makeNode_1 ?_
  refine lv_aload_n hx hb d_X_makeNode_4 rfl (lv_at hl 0 rfl) ?_
  refine wg_gX hx hb hts hown hK hP 8 (by decide) (v := .int (nI (I 8 0))) kf_X_72 rfl d_X_makeNode_5 ?_
  refine lv_iload_n hx hb d_X_makeNode_8 rfl (lv_at hl 1 rfl) ?_
  refine wg_sX6 (j := (I 8 0)) (x := k) hx hb hK hP hD hS (by omega) d_X_makeNode_9 (fun H locs hP hS => ?_)
  refine lv_aload_n hx hb d_X_makeNode_10 rfl (lv_at hl 0 rfl) ?_
  refine wg_gX hx hb hts hown hK hP 7 (by decide) (v := .ref (ad 7)) kf_X_26 rfl d_X_makeNode_11 ?_
  refine lv_aload_n hx hb d_X_makeNode_14 rfl (lv_at hl 0 rfl) ?_
  refine wg_gX hx hb hts hown hK hP 8 (by decide) (v := .int (nI (I 8 0))) kf_X_72 rfl d_X_makeNode_15 ?_
  refine lv_iload_n hx hb d_X_makeNode_18 rfl (lv_at hl 2 rfl) ?_
  refine wg_sX7 (j := (I 8 0)) (x := t) hx hb hK hP hD hS (by omega) d_X_makeNode_19 (fun H locs hP hS => ?_)
  refine lv_aload_n hx hb d_X_makeNode_20 rfl (lv_at hl 0 rfl) ?_
  refine lv_dup hx hb d_X_makeNode_21 rfl ?_
  refine wg_gX hx hb hts hown hK hP 8 (by decide) (v := .int (nI (I 8 0))) kf_X_72 rfl d_X_makeNode_22 ?_
  refine lv_iconst (v := (nI 1)) hx hb d_X_makeNode_25 (by decide +kernel) ?_
  refine t_iadd (v := nI ((I 8 0) + 1)) hx hb d_X_makeNode_26 (nI_add _ _) ?_
  refine wg_pX8 (v := ((I 8 0) + 1)) hx hb hts hown hK hP hD hS kf_X_72 d_X_makeNode_27 (fun H locs hP hS => ?_)
  refine lv_aload_n hx hb d_X_makeNode_30 rfl (lv_at hl 0 rfl) ?_
  refine wg_gX hx hb hts hown hK hP 8 (by decide) (v := .int (nI ((I 8 0) + 1))) kf_X_72 rfl d_X_makeNode_31 ?_
  refine lv_iconst (v := (nI 1)) hx hb d_X_makeNode_34 (by decide +kernel) ?_
  refine t_isub (v := nI (((I 8 0) + 1) - 1)) hx hb d_X_makeNode_35 (pk_sub (by omega)) ?_
  exact W.iret (v := (nI (((I 8 0) + 1) - 1))) hx hb hr (fun tt hth hW => ⟨⟨_, (wg_st (wg_st (wg_st I 6 (I 8 0) k) 7 (I 8 0) t) 8 0 ((I 8 0) + 1)), rfl, ⟨by rw [show I 8 0 + 1 - 1 = I 8 0 by omega], rfl⟩, wg_h hth hP⟩, hS.F hth⟩) hS.2.2 d_X_makeNode_36
set_option maxHeartbeats 4000000 in
set_option maxRecDepth 100000 in
theorem c_X_sameEndings (l : Launch) (D : va_G) (cJ cI : ClassId) (h0 : Nat) (ad : Nat → Nat) (sz : Nat) (I : wg_S) (k : Nat) (t : Nat) (j : Nat) (o : Nat) (hk : k < 48) (ht : t ≤ 12) (hj : j < 48) (ho : o ≤ 12) (hI : wg_XI I) : Met l y_X_sameEndings (wg_ws y_X_sameEndings b_X_sameEndings 8 (some .boolean)) ({ frames := 1, cells := 0, slots := 0, locals := 23 }) (va_Pc [.ref h0, .int (nI k), .int (nI t), .int (nI j), .int (nI o)] (wg_Pc D cJ cI (wg_WX cJ cI h0 ad I) sz)) (va_Qi (fun (r : Int32) (u : Unit) => r = nI 1 ∨ r = nI 0) (fun (_ : Unit) t => va_P D wg_cl (wg_WX cJ cI h0 ad I) t.heap) (va_A (wg_WX cJ cI h0 ad I) sz)) 0 0 (va_A (wg_WX cJ cI h0 ad I) sz) := by
  refine wg_head (Wd := (fun I => wg_WX cJ cI h0 ad I)) (I := I) (fun A => va_Qi (fun (r : Int32) (u : Unit) => r = nI 1 ∨ r = nI 0) (fun (_ : Unit) t => va_P D wg_cl (wg_WX cJ cI h0 ad I) t.heap) A) R_X (by decide) rfl (Nat.le_of_ble_eq_true rfl) (fun I J => wg_same_X I J) ?_
  intro p e s m below meth c A ls hx hb hr hlk hml hown hnm hts hA hK hD hP hS hl hsz
  clear hsz
  have hl : lv_has ls 8 [(0, .ref h0), (1, .int (nI k)), (2, .int (nI t)), (3, .int (nI j)), (4, .int (nI o))] := hl
  have hP : va_P D wg_cl (wg_WX cJ cI h0 ad I) s.heap := hP
  skip
  have hI' := hI
  obtain ⟨hn, hse, hc, hrc, hso, hw, hL, hF, hF1, hNW, hNL, hT, hWF, hNO⟩ := hI'
  refine lv_iconst (v := (nI 0)) hx hb d_X_sameEndings_0 (by decide +kernel) ?_
  refine lv_istore (lv' := [(5, .int (nI 0)), (0, .ref h0), (1, .int (nI k)), (2, .int (nI t)), (3, .int (nI j)), (4, .int (nI o))]) hx hb d_X_sameEndings_1 hl (by decide) rfl (fun ls hl => ?_)
  refine wg_loop (fun x _ _ _ H locs ls => (x ≤ 48) ∧ va_P D wg_cl (wg_WX cJ cI h0 ad I) H ∧ va_S A s.heap H locs ∧ lv_has ls 8 [(0, .ref h0), (1, .int (nI k)), (2, .int (nI t)), (3, .int (nI j)), (4, .int (nI o)), (5, .int (nI x))]) (fun x _ _ _ => 48 - x) (fun x _z0 _z1 _J H locs ls hI ih3 => ?_) 0 0 0 (fun _ _ => 0) _ _ _ ⟨(by omega), hP, hS, lv_sub hl [1, 2, 3, 4, 5, 0] rfl⟩
  obtain ⟨hx5, hP, hS, hl⟩ := hI
  refine lv_iload hx hb d_X_sameEndings_3 (lv_at hl 5 rfl) ?_
  refine lv_bipush (v := (nI 48)) hx hb d_X_sameEndings_5 (by decide +kernel) ?_
  refine lv_icmp_ge (tgt := 128) hx hb d_X_sameEndings_7 (by decide) (fun h7 => ?_) (fun h7 => ?_)
  · rw [nI_leI (by omega) (by omega)] at h7
    refine lv_iconst (v := (nI 1)) hx hb d_X_sameEndings_128 (by decide +kernel) ?_
    exact W.zret (ty := .boolean) (v := (nI 1)) hx hb hr (by decide +kernel) (fun tt hth hW => ⟨⟨_, (), rfl, (Or.inl rfl), wg_h hth hP⟩, hS.F hth⟩) hS.2.2 d_X_sameEndings_129
  · rw [nI_leI (by omega) (by omega)] at h7
    refine lv_iload_n hx hb d_X_sameEndings_10 rfl (lv_at hl 1 rfl) ?_
    refine lv_iload hx hb d_X_sameEndings_11 (lv_at hl 5 rfl) ?_
    refine t_iadd (v := nI (k + x)) hx hb d_X_sameEndings_13 (nI_add _ _) ?_
    refine lv_aload_n hx hb d_X_sameEndings_14 rfl (lv_at hl 0 rfl) ?_
    refine wg_gX hx hb hts hown hK hP 3 (by decide) (v := .int (nI (I 3 0))) kf_X_52 rfl d_X_sameEndings_15 ?_
    refine lv_icmp_ge (tgt := 38) hx hb d_X_sameEndings_18 (by decide) (fun h18 => ?_) (fun h18 => ?_)
    · rw [nI_leI (by omega) (by omega)] at h18
      refine lv_iconst (v := (nI 0)) hx hb d_X_sameEndings_38 (by decide +kernel) ?_
      refine lv_istore (lv' := [(6, .int (nI 0)), (0, .ref h0), (1, .int (nI k)), (2, .int (nI t)), (3, .int (nI j)), (4, .int (nI o)), (5, .int (nI x))]) hx hb d_X_sameEndings_39 hl (by decide) rfl (fun ls hl => ?_)
      refine lv_iload_n hx hb d_X_sameEndings_41 rfl (lv_at hl 4 rfl) ?_
      refine lv_iload hx hb d_X_sameEndings_42 (lv_at hl 6 rfl) ?_
      refine t_iadd (v := nI (j + x)) hx hb d_X_sameEndings_44 (nI_add _ _) ?_
      refine lv_aload_n hx hb d_X_sameEndings_45 rfl (lv_at hl 1 rfl) ?_
      refine wg_gX hx hb hts hown hK hP 3 (by decide) (v := .int (nI (I 3 0))) kf_X_52 rfl d_X_sameEndings_46 ?_
      refine lv_icmp_ge (tgt := 70) hx hb d_X_sameEndings_49 (by decide) (fun h49 => ?_) (fun h49 => ?_)
      · rw [nI_leI (by omega) (by omega)] at h49
        refine lv_iconst (v := (nI 0)) hx hb d_X_sameEndings_70 (by decide +kernel) ?_
        refine lv_istore (lv' := [(7, .int (nI 0)), (6, .int (nI 0)), (0, .ref h0), (1, .int (nI k)), (2, .int (nI t)), (3, .int (nI j)), (4, .int (nI o)), (5, .int (nI x))]) hx hb d_X_sameEndings_71 hl (by decide) rfl (fun ls hl => ?_)
        refine lv_iload hx hb d_X_sameEndings_73 (lv_at hl 1 rfl) ?_
        refine lv_iload hx hb d_X_sameEndings_75 (lv_at hl 0 rfl) ?_
        refine lv_icmp_eq (tgt := 82) hx hb d_X_sameEndings_77 (by decide) (fun _ => ?_) (fun h => absurd h (by decide +kernel))
        refine lv_iload hx hb d_X_sameEndings_82 (lv_at hl 1 rfl) ?_
        refine lv_if_ne (tgt := 89) hx hb d_X_sameEndings_84 (by decide) (fun h => absurd h (by decide +kernel)) (fun _ => ?_)
        refine lv_iconst (v := (nI 1)) hx hb d_X_sameEndings_87 (by decide +kernel) ?_
        exact W.zret (ty := .boolean) (v := (nI 1)) hx hb hr (by decide +kernel) (fun tt hth hW => ⟨⟨_, (), rfl, (Or.inl rfl), wg_h hth hP⟩, hS.F hth⟩) hS.2.2 d_X_sameEndings_88
      · rw [nI_leI (by omega) (by omega)] at h49
        refine lv_aload_n hx hb d_X_sameEndings_52 rfl (lv_at hl 1 rfl) ?_
        refine lv_iload_n hx hb d_X_sameEndings_53 rfl (lv_at hl 4 rfl) ?_
        refine lv_iload hx hb d_X_sameEndings_54 (lv_at hl 6 rfl) ?_
        refine t_iadd (v := nI (j + x)) hx hb d_X_sameEndings_56 (nI_add _ _) ?_
        refine lv_iload_n hx hb d_X_sameEndings_57 rfl (lv_at hl 4 rfl) ?_
        refine lv_iload hx hb d_X_sameEndings_58 (lv_at hl 5 rfl) ?_
        refine wg_cvi (As := [.int (nI (j + x)), .int (nI j), .int (nI o)]) (rest := []) hx hb hml hown hts hK hP (hD _) hS hA rfl rfl rfl (c_X_beginsAs l D cJ cI h0 ad _ I (j + x) j o (by omega) hj ho hI) kc_X_87 ⟨rfl, rfl⟩ ⟨Nat.le_of_ble_eq_true rfl, Nat.le_of_ble_eq_true rfl⟩ rfl hl.1 rfl (Nat.le_of_ble_eq_true rfl) d_X_sameEndings_60 ⟨Nat.zero_le _, Nat.zero_le _⟩ (fun r u60 tt H locs ht q60 hB _ _ hS => ?_)
        have hP : va_P D wg_cl (wg_WX cJ cI h0 ad I) H := by rw [← ht]; exact hB
        clear hB ht tt
        rcases q60 with ⟨rfl, hb60⟩ | ⟨rfl, hb60⟩
        · skip
          refine lv_if_eq (tgt := 70) hx hb d_X_sameEndings_63 (by decide) (fun h => absurd h (by decide +kernel)) (fun _ => ?_)
          refine lv_iconst (v := (nI 1)) hx hb d_X_sameEndings_66 (by decide +kernel) ?_
          refine lv_goto (tgt := 71) hx hb d_X_sameEndings_67 (by decide) ?_
          refine lv_istore (lv' := [(7, .int (nI 1)), (6, .int (nI 0)), (0, .ref h0), (1, .int (nI k)), (2, .int (nI t)), (3, .int (nI j)), (4, .int (nI o)), (5, .int (nI x))]) hx hb d_X_sameEndings_71 hl (by decide) rfl (fun ls hl => ?_)
          refine lv_iload hx hb d_X_sameEndings_73 (lv_at hl 1 rfl) ?_
          refine lv_iload hx hb d_X_sameEndings_75 (lv_at hl 0 rfl) ?_
          refine lv_icmp_eq (tgt := 82) hx hb d_X_sameEndings_77 (by decide) (fun h => absurd h (by decide +kernel)) (fun _ => ?_)
          refine lv_iconst (v := (nI 0)) hx hb d_X_sameEndings_80 (by decide +kernel) ?_
          exact W.zret (ty := .boolean) (v := (nI 0)) hx hb hr (by decide +kernel) (fun tt hth hW => ⟨⟨_, (), rfl, (Or.inr rfl), wg_h hth hP⟩, hS.F hth⟩) hS.2.2 d_X_sameEndings_81
        · skip
          refine lv_if_eq (tgt := 70) hx hb d_X_sameEndings_63 (by decide) (fun _ => ?_) (fun h => absurd h (by decide +kernel))
          refine lv_iconst (v := (nI 0)) hx hb d_X_sameEndings_70 (by decide +kernel) ?_
          refine lv_istore (lv' := [(7, .int (nI 0)), (6, .int (nI 0)), (0, .ref h0), (1, .int (nI k)), (2, .int (nI t)), (3, .int (nI j)), (4, .int (nI o)), (5, .int (nI x))]) hx hb d_X_sameEndings_71 hl (by decide) rfl (fun ls hl => ?_)
          refine lv_iload hx hb d_X_sameEndings_73 (lv_at hl 1 rfl) ?_
          refine lv_iload hx hb d_X_sameEndings_75 (lv_at hl 0 rfl) ?_
          refine lv_icmp_eq (tgt := 82) hx hb d_X_sameEndings_77 (by decide) (fun _ => ?_) (fun h => absurd h (by decide +kernel))
          refine lv_iload hx hb d_X_sameEndings_82 (lv_at hl 1 rfl) ?_
          refine lv_if_ne (tgt := 89) hx hb d_X_sameEndings_84 (by decide) (fun h => absurd h (by decide +kernel)) (fun _ => ?_)
          refine lv_iconst (v := (nI 1)) hx hb d_X_sameEndings_87 (by decide +kernel) ?_
          exact W.zret (ty := .boolean) (v := (nI 1)) hx hb hr (by decide +kernel) (fun tt hth hW => ⟨⟨_, (), rfl, (Or.inl rfl), wg_h hth hP⟩, hS.F hth⟩) hS.2.2 d_X_sameEndings_88
    · rw [nI_leI (by omega) (by omega)] at h18
      refine lv_aload_n hx hb d_X_sameEndings_21 rfl (lv_at hl 0 rfl) ?_
      refine lv_iload_n hx hb d_X_sameEndings_22 rfl (lv_at hl 1 rfl) ?_
      refine lv_iload hx hb d_X_sameEndings_23 (lv_at hl 5 rfl) ?_
      refine t_iadd (v := nI (k + x)) hx hb d_X_sameEndings_25 (nI_add _ _) ?_
      refine lv_iload_n hx hb d_X_sameEndings_26 rfl (lv_at hl 1 rfl) ?_
      refine lv_iload_n hx hb d_X_sameEndings_27 rfl (lv_at hl 2 rfl) ?_
      refine wg_cvi (As := [.int (nI (k + x)), .int (nI k), .int (nI t)]) (rest := []) hx hb hml hown hts hK hP (hD _) hS hA rfl rfl rfl (c_X_beginsAs l D cJ cI h0 ad _ I (k + x) k t (by omega) hk ht hI) kc_X_87 ⟨rfl, rfl⟩ ⟨Nat.le_of_ble_eq_true rfl, Nat.le_of_ble_eq_true rfl⟩ rfl hl.1 rfl (Nat.le_of_ble_eq_true rfl) d_X_sameEndings_28 ⟨Nat.zero_le _, Nat.zero_le _⟩ (fun r u28 tt H locs ht q28 hB _ _ hS => ?_)
      have hP : va_P D wg_cl (wg_WX cJ cI h0 ad I) H := by rw [← ht]; exact hB
      clear hB ht tt
      rcases q28 with ⟨rfl, hb28⟩ | ⟨rfl, hb28⟩
      · skip
        refine lv_if_eq (tgt := 38) hx hb d_X_sameEndings_31 (by decide) (fun h => absurd h (by decide +kernel)) (fun _ => ?_)
        refine lv_iconst (v := (nI 1)) hx hb d_X_sameEndings_34 (by decide +kernel) ?_
        refine lv_goto (tgt := 39) hx hb d_X_sameEndings_35 (by decide) ?_
        refine lv_istore (lv' := [(6, .int (nI 1)), (0, .ref h0), (1, .int (nI k)), (2, .int (nI t)), (3, .int (nI j)), (4, .int (nI o)), (5, .int (nI x))]) hx hb d_X_sameEndings_39 hl (by decide) rfl (fun ls hl => ?_)
        refine lv_iload_n hx hb d_X_sameEndings_41 rfl (lv_at hl 4 rfl) ?_
        refine lv_iload hx hb d_X_sameEndings_42 (lv_at hl 6 rfl) ?_
        refine t_iadd (v := nI (j + x)) hx hb d_X_sameEndings_44 (nI_add _ _) ?_
        refine lv_aload_n hx hb d_X_sameEndings_45 rfl (lv_at hl 1 rfl) ?_
        refine wg_gX hx hb hts hown hK hP 3 (by decide) (v := .int (nI (I 3 0))) kf_X_52 rfl d_X_sameEndings_46 ?_
        refine lv_icmp_ge (tgt := 70) hx hb d_X_sameEndings_49 (by decide) (fun h49 => ?_) (fun h49 => ?_)
        · rw [nI_leI (by omega) (by omega)] at h49
          refine lv_iconst (v := (nI 0)) hx hb d_X_sameEndings_70 (by decide +kernel) ?_
          refine lv_istore (lv' := [(7, .int (nI 0)), (6, .int (nI 1)), (0, .ref h0), (1, .int (nI k)), (2, .int (nI t)), (3, .int (nI j)), (4, .int (nI o)), (5, .int (nI x))]) hx hb d_X_sameEndings_71 hl (by decide) rfl (fun ls hl => ?_)
          refine lv_iload hx hb d_X_sameEndings_73 (lv_at hl 1 rfl) ?_
          refine lv_iload hx hb d_X_sameEndings_75 (lv_at hl 0 rfl) ?_
          refine lv_icmp_eq (tgt := 82) hx hb d_X_sameEndings_77 (by decide) (fun h => absurd h (by decide +kernel)) (fun _ => ?_)
          refine lv_iconst (v := (nI 0)) hx hb d_X_sameEndings_80 (by decide +kernel) ?_
          exact W.zret (ty := .boolean) (v := (nI 0)) hx hb hr (by decide +kernel) (fun tt hth hW => ⟨⟨_, (), rfl, (Or.inr rfl), wg_h hth hP⟩, hS.F hth⟩) hS.2.2 d_X_sameEndings_81
        · rw [nI_leI (by omega) (by omega)] at h49
          refine lv_aload_n hx hb d_X_sameEndings_52 rfl (lv_at hl 1 rfl) ?_
          refine lv_iload_n hx hb d_X_sameEndings_53 rfl (lv_at hl 4 rfl) ?_
          refine lv_iload hx hb d_X_sameEndings_54 (lv_at hl 6 rfl) ?_
          refine t_iadd (v := nI (j + x)) hx hb d_X_sameEndings_56 (nI_add _ _) ?_
          refine lv_iload_n hx hb d_X_sameEndings_57 rfl (lv_at hl 4 rfl) ?_
          refine lv_iload hx hb d_X_sameEndings_58 (lv_at hl 5 rfl) ?_
          refine wg_cvi (As := [.int (nI (j + x)), .int (nI j), .int (nI o)]) (rest := []) hx hb hml hown hts hK hP (hD _) hS hA rfl rfl rfl (c_X_beginsAs l D cJ cI h0 ad _ I (j + x) j o (by omega) hj ho hI) kc_X_87 ⟨rfl, rfl⟩ ⟨Nat.le_of_ble_eq_true rfl, Nat.le_of_ble_eq_true rfl⟩ rfl hl.1 rfl (Nat.le_of_ble_eq_true rfl) d_X_sameEndings_60 ⟨Nat.zero_le _, Nat.zero_le _⟩ (fun r u60 tt H locs ht q60 hB _ _ hS => ?_)
          have hP : va_P D wg_cl (wg_WX cJ cI h0 ad I) H := by rw [← ht]; exact hB
          clear hB ht tt
          rcases q60 with ⟨rfl, hb60⟩ | ⟨rfl, hb60⟩
          · skip
            refine lv_if_eq (tgt := 70) hx hb d_X_sameEndings_63 (by decide) (fun h => absurd h (by decide +kernel)) (fun _ => ?_)
            refine lv_iconst (v := (nI 1)) hx hb d_X_sameEndings_66 (by decide +kernel) ?_
            refine lv_goto (tgt := 71) hx hb d_X_sameEndings_67 (by decide) ?_
            refine lv_istore (lv' := [(7, .int (nI 1)), (6, .int (nI 1)), (0, .ref h0), (1, .int (nI k)), (2, .int (nI t)), (3, .int (nI j)), (4, .int (nI o)), (5, .int (nI x))]) hx hb d_X_sameEndings_71 hl (by decide) rfl (fun ls hl => ?_)
            refine lv_iload hx hb d_X_sameEndings_73 (lv_at hl 1 rfl) ?_
            refine lv_iload hx hb d_X_sameEndings_75 (lv_at hl 0 rfl) ?_
            refine lv_icmp_eq (tgt := 82) hx hb d_X_sameEndings_77 (by decide) (fun _ => ?_) (fun h => absurd h (by decide +kernel))
            refine lv_iload hx hb d_X_sameEndings_82 (lv_at hl 1 rfl) ?_
            refine lv_if_ne (tgt := 89) hx hb d_X_sameEndings_84 (by decide) (fun _ => ?_) (fun h => absurd h (by decide +kernel))
            refine lv_aload_n hx hb d_X_sameEndings_89 rfl (lv_at hl 2 rfl) ?_
            refine wg_gX hx hb hts hown hK hP 0 (by decide) (v := .ref (ad 0)) kf_X_9 rfl d_X_sameEndings_90 ?_
            refine lv_iload_n hx hb d_X_sameEndings_93 rfl (lv_at hl 3 rfl) ?_
            refine lv_iload hx hb d_X_sameEndings_94 (lv_at hl 7 rfl) ?_
            refine t_iadd (v := nI (k + x)) hx hb d_X_sameEndings_96 (nI_add _ _) ?_
            refine wg_lld (f := I 0) (j := (k + x)) hx hb hK hP 1 rfl (by omega) (by decide) d_X_sameEndings_97 ?_
            have hB97 := hw (k + x) (by omega)
            refine lv_iload_n hx hb d_X_sameEndings_98 rfl (lv_at hl 4 rfl) ?_
            refine wg_csl (As := [.long (lN (I 0 (k + x))), .int (nI t)]) (rest := []) hx hb hml hown hts hK hP hS hA (c_X_restOf l D cJ cI _ (I 0 (k + x)) t (by omega)) kc_X_114 ⟨rfl, rfl⟩ ⟨Nat.le_of_ble_eq_true rfl, Nat.le_of_ble_eq_true rfl⟩ rfl hl.1 rfl (Nat.le_of_ble_eq_true rfl) d_X_sameEndings_99 ⟨Nat.zero_le _, Nat.zero_le _⟩ (fun r H locs q99 hP hS => ?_)
            obtain rfl := q99
            refine lv_aload_n hx hb d_X_sameEndings_102 rfl (lv_at hl 2 rfl) ?_
            refine wg_gX hx hb hts hown hK hP 0 (by decide) (v := .ref (ad 0)) kf_X_9 rfl d_X_sameEndings_103 ?_
            refine lv_iload_n hx hb d_X_sameEndings_106 rfl (lv_at hl 5 rfl) ?_
            refine lv_iload hx hb d_X_sameEndings_107 (lv_at hl 7 rfl) ?_
            refine t_iadd (v := nI (j + x)) hx hb d_X_sameEndings_109 (nI_add _ _) ?_
            refine wg_lld (f := I 0) (j := (j + x)) hx hb hK hP 1 rfl (by omega) (by decide) d_X_sameEndings_110 ?_
            have hB110 := hw (j + x) (by omega)
            refine lv_iload hx hb d_X_sameEndings_111 (lv_at hl 6 rfl) ?_
            refine wg_csl (As := [.long (lN (I 0 (j + x))), .int (nI o)]) (rest := [.long (lN ((I 0 (k + x)) * 2 ^ (5 * t) % 2 ^ 60))]) hx hb hml hown hts hK hP hS hA (c_X_restOf l D cJ cI _ (I 0 (j + x)) o (by omega)) kc_X_114 ⟨rfl, rfl⟩ ⟨Nat.le_of_ble_eq_true rfl, Nat.le_of_ble_eq_true rfl⟩ rfl hl.1 rfl (Nat.le_of_ble_eq_true rfl) d_X_sameEndings_113 ⟨Nat.zero_le _, Nat.zero_le _⟩ (fun r H locs q113 hP hS => ?_)
            obtain rfl := q113
            refine W.lcmp hx hb d_X_sameEndings_116 ?_
            refine lv_if_eq (tgt := 122) hx hb d_X_sameEndings_117 (by decide) (fun h117 => ?_) (fun h117 => ?_)
            · rw [lg_cmp_eq] at h117
              rw [pk_lEQ (by omega) (by omega)] at h117
              refine lv_iinc (v := nI (x + 1)) (k := 7) (lv' := [(5, .int (nI (x + 1))), (7, .int (nI 1)), (6, .int (nI 1)), (0, .ref h0), (1, .int (nI k)), (2, .int (nI t)), (3, .int (nI j)), (4, .int (nI o))]) hx hb d_X_sameEndings_122 hl rfl (nI_1 _) (by decide) rfl (fun ls hl => ?_)
              refine lv_goto (tgt := 3) hx hb d_X_sameEndings_125 (by decide) ?_
              exact ih3 (x + 1) 0 0 (fun _ _ => 0) _ _ _ ⟨(by omega), hP, hS, lv_sub hl [3, 4, 5, 6, 7, 0] rfl⟩ (by omega)
            · rw [lg_cmp_eq] at h117
              rw [pk_lEQ (by omega) (by omega)] at h117
              refine lv_iconst (v := (nI 0)) hx hb d_X_sameEndings_120 (by decide +kernel) ?_
              exact W.zret (ty := .boolean) (v := (nI 0)) hx hb hr (by decide +kernel) (fun tt hth hW => ⟨⟨_, (), rfl, (Or.inr rfl), wg_h hth hP⟩, hS.F hth⟩) hS.2.2 d_X_sameEndings_121
          · skip
            refine lv_if_eq (tgt := 70) hx hb d_X_sameEndings_63 (by decide) (fun _ => ?_) (fun h => absurd h (by decide +kernel))
            refine lv_iconst (v := (nI 0)) hx hb d_X_sameEndings_70 (by decide +kernel) ?_
            refine lv_istore (lv' := [(7, .int (nI 0)), (6, .int (nI 1)), (0, .ref h0), (1, .int (nI k)), (2, .int (nI t)), (3, .int (nI j)), (4, .int (nI o)), (5, .int (nI x))]) hx hb d_X_sameEndings_71 hl (by decide) rfl (fun ls hl => ?_)
            refine lv_iload hx hb d_X_sameEndings_73 (lv_at hl 1 rfl) ?_
            refine lv_iload hx hb d_X_sameEndings_75 (lv_at hl 0 rfl) ?_
            refine lv_icmp_eq (tgt := 82) hx hb d_X_sameEndings_77 (by decide) (fun h => absurd h (by decide +kernel)) (fun _ => ?_)
            refine lv_iconst (v := (nI 0)) hx hb d_X_sameEndings_80 (by decide +kernel) ?_
            exact W.zret (ty := .boolean) (v := (nI 0)) hx hb hr (by decide +kernel) (fun tt hth hW => ⟨⟨_, (), rfl, (Or.inr rfl), wg_h hth hP⟩, hS.F hth⟩) hS.2.2 d_X_sameEndings_81
      · skip
        refine lv_if_eq (tgt := 38) hx hb d_X_sameEndings_31 (by decide) (fun _ => ?_) (fun h => absurd h (by decide +kernel))
        refine lv_iconst (v := (nI 0)) hx hb d_X_sameEndings_38 (by decide +kernel) ?_
        refine lv_istore (lv' := [(6, .int (nI 0)), (0, .ref h0), (1, .int (nI k)), (2, .int (nI t)), (3, .int (nI j)), (4, .int (nI o)), (5, .int (nI x))]) hx hb d_X_sameEndings_39 hl (by decide) rfl (fun ls hl => ?_)
        refine lv_iload_n hx hb d_X_sameEndings_41 rfl (lv_at hl 4 rfl) ?_
        refine lv_iload hx hb d_X_sameEndings_42 (lv_at hl 6 rfl) ?_
        refine t_iadd (v := nI (j + x)) hx hb d_X_sameEndings_44 (nI_add _ _) ?_
        refine lv_aload_n hx hb d_X_sameEndings_45 rfl (lv_at hl 1 rfl) ?_
        refine wg_gX hx hb hts hown hK hP 3 (by decide) (v := .int (nI (I 3 0))) kf_X_52 rfl d_X_sameEndings_46 ?_
        refine lv_icmp_ge (tgt := 70) hx hb d_X_sameEndings_49 (by decide) (fun h49 => ?_) (fun h49 => ?_)
        · rw [nI_leI (by omega) (by omega)] at h49
          refine lv_iconst (v := (nI 0)) hx hb d_X_sameEndings_70 (by decide +kernel) ?_
          refine lv_istore (lv' := [(7, .int (nI 0)), (6, .int (nI 0)), (0, .ref h0), (1, .int (nI k)), (2, .int (nI t)), (3, .int (nI j)), (4, .int (nI o)), (5, .int (nI x))]) hx hb d_X_sameEndings_71 hl (by decide) rfl (fun ls hl => ?_)
          refine lv_iload hx hb d_X_sameEndings_73 (lv_at hl 1 rfl) ?_
          refine lv_iload hx hb d_X_sameEndings_75 (lv_at hl 0 rfl) ?_
          refine lv_icmp_eq (tgt := 82) hx hb d_X_sameEndings_77 (by decide) (fun _ => ?_) (fun h => absurd h (by decide +kernel))
          refine lv_iload hx hb d_X_sameEndings_82 (lv_at hl 1 rfl) ?_
          refine lv_if_ne (tgt := 89) hx hb d_X_sameEndings_84 (by decide) (fun h => absurd h (by decide +kernel)) (fun _ => ?_)
          refine lv_iconst (v := (nI 1)) hx hb d_X_sameEndings_87 (by decide +kernel) ?_
          exact W.zret (ty := .boolean) (v := (nI 1)) hx hb hr (by decide +kernel) (fun tt hth hW => ⟨⟨_, (), rfl, (Or.inl rfl), wg_h hth hP⟩, hS.F hth⟩) hS.2.2 d_X_sameEndings_88
        · rw [nI_leI (by omega) (by omega)] at h49
          refine lv_aload_n hx hb d_X_sameEndings_52 rfl (lv_at hl 1 rfl) ?_
          refine lv_iload_n hx hb d_X_sameEndings_53 rfl (lv_at hl 4 rfl) ?_
          refine lv_iload hx hb d_X_sameEndings_54 (lv_at hl 6 rfl) ?_
          refine t_iadd (v := nI (j + x)) hx hb d_X_sameEndings_56 (nI_add _ _) ?_
          refine lv_iload_n hx hb d_X_sameEndings_57 rfl (lv_at hl 4 rfl) ?_
          refine lv_iload hx hb d_X_sameEndings_58 (lv_at hl 5 rfl) ?_
          refine wg_cvi (As := [.int (nI (j + x)), .int (nI j), .int (nI o)]) (rest := []) hx hb hml hown hts hK hP (hD _) hS hA rfl rfl rfl (c_X_beginsAs l D cJ cI h0 ad _ I (j + x) j o (by omega) hj ho hI) kc_X_87 ⟨rfl, rfl⟩ ⟨Nat.le_of_ble_eq_true rfl, Nat.le_of_ble_eq_true rfl⟩ rfl hl.1 rfl (Nat.le_of_ble_eq_true rfl) d_X_sameEndings_60 ⟨Nat.zero_le _, Nat.zero_le _⟩ (fun r u60 tt H locs ht q60 hB _ _ hS => ?_)
          have hP : va_P D wg_cl (wg_WX cJ cI h0 ad I) H := by rw [← ht]; exact hB
          clear hB ht tt
          rcases q60 with ⟨rfl, hb60⟩ | ⟨rfl, hb60⟩
          · skip
            refine lv_if_eq (tgt := 70) hx hb d_X_sameEndings_63 (by decide) (fun h => absurd h (by decide +kernel)) (fun _ => ?_)
            refine lv_iconst (v := (nI 1)) hx hb d_X_sameEndings_66 (by decide +kernel) ?_
            refine lv_goto (tgt := 71) hx hb d_X_sameEndings_67 (by decide) ?_
            refine lv_istore (lv' := [(7, .int (nI 1)), (6, .int (nI 0)), (0, .ref h0), (1, .int (nI k)), (2, .int (nI t)), (3, .int (nI j)), (4, .int (nI o)), (5, .int (nI x))]) hx hb d_X_sameEndings_71 hl (by decide) rfl (fun ls hl => ?_)
            refine lv_iload hx hb d_X_sameEndings_73 (lv_at hl 1 rfl) ?_
            refine lv_iload hx hb d_X_sameEndings_75 (lv_at hl 0 rfl) ?_
            refine lv_icmp_eq (tgt := 82) hx hb d_X_sameEndings_77 (by decide) (fun h => absurd h (by decide +kernel)) (fun _ => ?_)
            refine lv_iconst (v := (nI 0)) hx hb d_X_sameEndings_80 (by decide +kernel) ?_
            exact W.zret (ty := .boolean) (v := (nI 0)) hx hb hr (by decide +kernel) (fun tt hth hW => ⟨⟨_, (), rfl, (Or.inr rfl), wg_h hth hP⟩, hS.F hth⟩) hS.2.2 d_X_sameEndings_81
          · skip
            refine lv_if_eq (tgt := 70) hx hb d_X_sameEndings_63 (by decide) (fun _ => ?_) (fun h => absurd h (by decide +kernel))
            refine lv_iconst (v := (nI 0)) hx hb d_X_sameEndings_70 (by decide +kernel) ?_
            refine lv_istore (lv' := [(7, .int (nI 0)), (6, .int (nI 0)), (0, .ref h0), (1, .int (nI k)), (2, .int (nI t)), (3, .int (nI j)), (4, .int (nI o)), (5, .int (nI x))]) hx hb d_X_sameEndings_71 hl (by decide) rfl (fun ls hl => ?_)
            refine lv_iload hx hb d_X_sameEndings_73 (lv_at hl 1 rfl) ?_
            refine lv_iload hx hb d_X_sameEndings_75 (lv_at hl 0 rfl) ?_
            refine lv_icmp_eq (tgt := 82) hx hb d_X_sameEndings_77 (by decide) (fun _ => ?_) (fun h => absurd h (by decide +kernel))
            refine lv_iload hx hb d_X_sameEndings_82 (lv_at hl 1 rfl) ?_
            refine lv_if_ne (tgt := 89) hx hb d_X_sameEndings_84 (by decide) (fun h => absurd h (by decide +kernel)) (fun _ => ?_)
            refine lv_iconst (v := (nI 1)) hx hb d_X_sameEndings_87 (by decide +kernel) ?_
            exact W.zret (ty := .boolean) (v := (nI 1)) hx hb hr (by decide +kernel) (fun tt hth hW => ⟨⟨_, (), rfl, (Or.inl rfl), wg_h hth hP⟩, hS.F hth⟩) hS.2.2 d_X_sameEndings_88
set_option maxHeartbeats 4000000 in
set_option maxRecDepth 100000 in
theorem c_X_earlierNode (l : Launch) (D : va_G) (cJ cI : ClassId) (h0 : Nat) (ad : Nat → Nat) (sz : Nat) (I : wg_S) (k : Nat) (t : Nat) (hk : k < 48) (ht : t ≤ I 1 k) (hI : wg_XI I) : Met l y_X_earlierNode (wg_ws y_X_earlierNode b_X_earlierNode 6 (some .int)) ({ frames := 2, cells := 0, slots := 0, locals := 50 }) (va_Pc [.ref h0, .int (nI k), .int (nI t)] (wg_Pc D cJ cI (wg_WX cJ cI h0 ad I) sz)) (va_Qi (fun (r : Int32) (u : Unit) => r = -1 ∨ ∃ v, v < 577 ∧ r = nI v) (fun (_ : Unit) t => va_P D wg_cl (wg_WX cJ cI h0 ad I) t.heap) (va_A (wg_WX cJ cI h0 ad I) sz)) 0 0 (va_A (wg_WX cJ cI h0 ad I) sz) := by
  refine wg_head (Wd := (fun I => wg_WX cJ cI h0 ad I)) (I := I) (fun A => va_Qi (fun (r : Int32) (u : Unit) => r = -1 ∨ ∃ v, v < 577 ∧ r = nI v) (fun (_ : Unit) t => va_P D wg_cl (wg_WX cJ cI h0 ad I) t.heap) A) R_X (by decide) rfl (Nat.le_of_ble_eq_true rfl) (fun I J => wg_same_X I J) ?_
  intro p e s m below meth c A ls hx hb hr hlk hml hown hnm hts hA hK hD hP hS hl hsz
  clear hsz
  have hl : lv_has ls 6 [(0, .ref h0), (1, .int (nI k)), (2, .int (nI t))] := hl
  have hP : va_P D wg_cl (wg_WX cJ cI h0 ad I) s.heap := hP
  skip
  have hI' := hI
  obtain ⟨hn, hse, hc, hrc, hso, hw, hL, hF, hF1, hNW, hNL, hT, hWF, hNO⟩ := hI'
  refine lv_aload_n hx hb d_X_earlierNode_0 rfl (lv_at hl 0 rfl) ?_
  refine wg_gX hx hb hts hown hK hP 1 (by decide) (v := .ref (ad 1)) kf_X_13 rfl d_X_earlierNode_1 ?_
  refine lv_iload_n hx hb d_X_earlierNode_4 rfl (lv_at hl 1 rfl) ?_
  refine wg_ild (f := I 1) (j := k) hx hb hK hP 2 rfl (by omega) (by decide) d_X_earlierNode_5 ?_
  have hB5 := hL k (by omega)
  refine lv_iload_n hx hb d_X_earlierNode_6 rfl (lv_at hl 2 rfl) ?_
  refine t_isub (v := nI ((I 1 k) - t)) hx hb d_X_earlierNode_7 (pk_sub (by omega)) ?_
  refine lv_istore_n (lv' := [(3, .int (nI ((I 1 k) - t))), (0, .ref h0), (1, .int (nI k)), (2, .int (nI t))]) hx hb d_X_earlierNode_8 rfl hl (by decide) rfl (fun ls hl => ?_)
  refine lv_iconst (v := (nI 0)) hx hb d_X_earlierNode_9 (by decide +kernel) ?_
  refine lv_istore (lv' := [(4, .int (nI 0)), (3, .int (nI ((I 1 k) - t))), (0, .ref h0), (1, .int (nI k)), (2, .int (nI t))]) hx hb d_X_earlierNode_10 hl (by decide) rfl (fun ls hl => ?_)
  refine wg_loop (fun j _ _ _ H locs ls => (j ≤ k) ∧ va_P D wg_cl (wg_WX cJ cI h0 ad I) H ∧ va_S A s.heap H locs ∧ lv_has ls 6 [(0, .ref h0), (1, .int (nI k)), (2, .int (nI t)), (3, .int (nI ((I 1 k) - t))), (4, .int (nI j))]) (fun j _ _ _ => 48 - j) (fun j _z0 _z1 _J H locs ls hI ih12 => ?_) 0 0 0 (fun _ _ => 0) _ _ _ ⟨(by omega), hP, hS, lv_sub hl [2, 3, 4, 1, 0] rfl⟩
  obtain ⟨hj, hP, hS, hl⟩ := hI
  refine lv_iload hx hb d_X_earlierNode_12 (lv_at hl 4 rfl) ?_
  refine lv_iload_n hx hb d_X_earlierNode_14 rfl (lv_at hl 1 rfl) ?_
  refine lv_icmp_ge (tgt := 74) hx hb d_X_earlierNode_15 (by decide) (fun h15 => ?_) (fun h15 => ?_)
  · rw [nI_leI (by omega) (by omega)] at h15
    refine lv_iconst (v := (-1)) hx hb d_X_earlierNode_74 (by decide +kernel) ?_
    exact W.iret (v := (-1)) hx hb hr (fun tt hth hW => ⟨⟨_, (), rfl, (Or.inl rfl), wg_h hth hP⟩, hS.F hth⟩) hS.2.2 d_X_earlierNode_75
  · rw [nI_leI (by omega) (by omega)] at h15
    refine lv_aload_n hx hb d_X_earlierNode_18 rfl (lv_at hl 0 rfl) ?_
    refine wg_gX hx hb hts hown hK hP 1 (by decide) (v := .ref (ad 1)) kf_X_13 rfl d_X_earlierNode_19 ?_
    refine lv_iload hx hb d_X_earlierNode_22 (lv_at hl 4 rfl) ?_
    refine wg_ild (f := I 1) (j := j) hx hb hK hP 2 rfl (by omega) (by decide) d_X_earlierNode_24 ?_
    have hB24 := hL j (by omega)
    refine lv_iload_n hx hb d_X_earlierNode_25 rfl (lv_at hl 3 rfl) ?_
    refine lv_isub hx hb d_X_earlierNode_26 ?_
    refine lv_istore (lv' := [(5, .int (nI (I 1 j) - nI ((I 1 k) - t))), (0, .ref h0), (1, .int (nI k)), (2, .int (nI t)), (3, .int (nI ((I 1 k) - t))), (4, .int (nI j))]) hx hb d_X_earlierNode_27 hl (by decide) rfl (fun ls hl => ?_)
    refine lv_iload hx hb d_X_earlierNode_29 (lv_at hl 0 rfl) ?_
    refine lv_aload_n hx hb d_X_earlierNode_31 rfl (lv_at hl 1 rfl) ?_
    refine wg_gX hx hb hts hown hK hP 2 (by decide) (v := .ref (ad 2)) kf_X_17 rfl d_X_earlierNode_32 ?_
    refine lv_iload hx hb d_X_earlierNode_35 (lv_at hl 5 rfl) ?_
    refine wg_ild (f := I 2) (j := j) hx hb hK hP 3 rfl (by omega) (by decide) d_X_earlierNode_37 ?_
    have hB37 := hF j (by omega)
    refine lv_icmp_lt (tgt := 68) hx hb d_X_earlierNode_38 (by decide) (fun h38 => ?_) (fun h38 => ?_)
    · rw [wg_DltN (by omega) (by omega) (by omega)] at h38
      refine lv_iinc (v := nI (j + 1)) (k := 5) (lv' := [(4, .int (nI (j + 1))), (5, .int (nI (I 1 j) - nI ((I 1 k) - t))), (0, .ref h0), (1, .int (nI k)), (2, .int (nI t)), (3, .int (nI ((I 1 k) - t)))]) hx hb d_X_earlierNode_68 hl rfl (nI_1 _) (by decide) rfl (fun ls hl => ?_)
      refine lv_goto (tgt := 12) hx hb d_X_earlierNode_71 (by decide) ?_
      exact ih12 (j + 1) 0 0 (fun _ _ => 0) _ _ _ ⟨(by omega), hP, hS, lv_sub hl [2, 3, 4, 5, 0] rfl⟩ (by omega)
    · rw [wg_DltN (by omega) (by omega) (by omega)] at h38
      rw [pk_sub (show (I 1 k) - t ≤ I 1 j by omega)] at hl
      refine lv_aload_n hx hb d_X_earlierNode_41 rfl (lv_at hl 1 rfl) ?_
      refine lv_iload_n hx hb d_X_earlierNode_42 rfl (lv_at hl 2 rfl) ?_
      refine lv_iload_n hx hb d_X_earlierNode_43 rfl (lv_at hl 3 rfl) ?_
      refine lv_iload hx hb d_X_earlierNode_44 (lv_at hl 5 rfl) ?_
      refine lv_iload hx hb d_X_earlierNode_46 (lv_at hl 0 rfl) ?_
      refine wg_cvi (As := [.int (nI k), .int (nI t), .int (nI j), .int (nI ((I 1 j) - ((I 1 k) - t)))]) (rest := []) hx hb hml hown hts hK hP (hD _) hS hA rfl rfl rfl (c_X_sameEndings l D cJ cI h0 ad _ I k t j ((I 1 j) - ((I 1 k) - t)) hk (by omega) (by omega) (by omega) hI) kc_X_121 ⟨rfl, rfl⟩ ⟨Nat.le_of_ble_eq_true rfl, Nat.le_of_ble_eq_true rfl⟩ rfl hl.1 rfl (Nat.le_of_ble_eq_true rfl) d_X_earlierNode_48 ⟨Nat.zero_le _, Nat.zero_le _⟩ (fun r u48 tt H locs ht q48 hB _ _ hS => ?_)
      have hP : va_P D wg_cl (wg_WX cJ cI h0 ad I) H := by rw [← ht]; exact hB
      clear hB ht tt
      rcases q48 with rfl | rfl
      · skip
        refine lv_if_eq (tgt := 68) hx hb d_X_earlierNode_51 (by decide) (fun h => absurd h (by decide +kernel)) (fun _ => ?_)
        refine lv_aload_n hx hb d_X_earlierNode_54 rfl (lv_at hl 1 rfl) ?_
        refine wg_gX hx hb hts hown hK hP 5 (by decide) (v := .ref (ad 5)) kf_X_20 rfl d_X_earlierNode_55 ?_
        refine lv_iload hx hb d_X_earlierNode_58 (lv_at hl 5 rfl) ?_
        refine lv_bipush (v := (nI 13)) hx hb d_X_earlierNode_60 (by decide +kernel) ?_
        refine t_imul (v := nI (j * 13)) hx hb d_X_earlierNode_62 (pk_mul _ _) ?_
        refine lv_iload hx hb d_X_earlierNode_63 (lv_at hl 0 rfl) ?_
        refine t_iadd (v := nI ((j * 13) + ((I 1 j) - ((I 1 k) - t)))) hx hb d_X_earlierNode_65 (nI_add _ _) ?_
        refine wg_ild (f := I 5) (j := ((j * 13) + ((I 1 j) - ((I 1 k) - t)))) hx hb hK hP 4 rfl (by omega) (by decide) d_X_earlierNode_66 ?_
        have hB66 := hNO ((j * 13) + ((I 1 j) - ((I 1 k) - t))) (by omega)
        exact W.iret (v := (nI (I 5 ((j * 13) + ((I 1 j) - ((I 1 k) - t)))))) hx hb hr (fun tt hth hW => ⟨⟨_, (), rfl, (Or.inr ⟨_, hB66, rfl⟩), wg_h hth hP⟩, hS.F hth⟩) hS.2.2 d_X_earlierNode_67
      · skip
        refine lv_if_eq (tgt := 68) hx hb d_X_earlierNode_51 (by decide) (fun _ => ?_) (fun h => absurd h (by decide +kernel))
        refine lv_iinc (v := nI (j + 1)) (k := 5) (lv' := [(4, .int (nI (j + 1))), (5, .int (nI ((I 1 j) - ((I 1 k) - t)))), (0, .ref h0), (1, .int (nI k)), (2, .int (nI t)), (3, .int (nI ((I 1 k) - t)))]) hx hb d_X_earlierNode_68 hl rfl (nI_1 _) (by decide) rfl (fun ls hl => ?_)
        refine lv_goto (tgt := 12) hx hb d_X_earlierNode_71 (by decide) ?_
        exact ih12 (j + 1) 0 0 (fun _ _ => 0) _ _ _ ⟨(by omega), hP, hS, lv_sub hl [2, 3, 4, 5, 0] rfl⟩ (by omega)
set_option maxHeartbeats 4000000 in
set_option maxRecDepth 100000 in
theorem c_X_numberBeginnings (l : Launch) (D : va_G) (cJ cI : ClassId) (h0 : Nat) (ad : Nat → Nat) (sz : Nat) (I : wg_S) (k : Nat) (hk : k < I 3 0) (hI : wg_XI I) (hs1 : I 4 0 = 1) (hc1 : I 8 0 ≤ 12 * k + 1) (hc0 : k = 0 → I 8 0 = 0) : Met l y_X_numberBeginnings (wg_ws y_X_numberBeginnings b_X_numberBeginnings 4 none) ({ frames := 3, cells := 0, slots := 0, locals := 75 }) (va_Pc [.ref h0, .int (nI k)] (wg_Pc D cJ cI (wg_WX cJ cI h0 ad I) sz)) (va_Qv (fun (u : wg_S) => wg_XI u ∧ (∀ j, j < 5 ∨ 8 < j → u j = I j) ∧ u 8 0 ≤ 12 * (k + 1) + 1) (fun (u : wg_S) t => va_P D wg_cl (wg_WX cJ cI h0 ad u) t.heap) (va_A (wg_WX cJ cI h0 ad I) sz)) 0 0 (va_A (wg_WX cJ cI h0 ad I) sz) := by
  refine wg_head (Wd := (fun I => wg_WX cJ cI h0 ad I)) (I := I) (fun A => va_Qv (fun (u : wg_S) => wg_XI u ∧ (∀ j, j < 5 ∨ 8 < j → u j = I j) ∧ u 8 0 ≤ 12 * (k + 1) + 1) (fun (u : wg_S) t => va_P D wg_cl (wg_WX cJ cI h0 ad u) t.heap) A) R_X (by decide) rfl (Nat.le_of_ble_eq_true rfl) (fun I J => wg_same_X I J) ?_
  intro p e s m below meth c A ls hx hb hr hlk hml hown hnm hts hA hK hD hP hS hl hsz
  clear hsz
  have hl : lv_has ls 4 [(0, .ref h0), (1, .int (nI k))] := hl
  have hP : va_P D wg_cl (wg_WX cJ cI h0 ad I) s.heap := hP
  skip
  have hI' := hI
  obtain ⟨hn, hse, hc, hrc, hso, hw, hL, hF, hF1, hNW, hNL, hT, hWF, hNO⟩ := hI'
  have hF1k : 0 < k → 1 ≤ I 2 k := fun h => hF1 k h hk
  refine lv_aload_n hx hb d_X_numberBeginnings_0 rfl (lv_at hl 0 rfl) ?_
  refine wg_gX hx hb hts hown hK hP 2 (by decide) (v := .ref (ad 2)) kf_X_17 rfl d_X_numberBeginnings_1 ?_
  refine lv_iload_n hx hb d_X_numberBeginnings_4 rfl (lv_at hl 1 rfl) ?_
  refine wg_ild (f := I 2) (j := k) hx hb hK hP 3 rfl (by omega) (by decide) d_X_numberBeginnings_5 ?_
  have hB5 := hF k (by omega)
  refine lv_istore_n (lv' := [(2, .int (nI (I 2 k))), (0, .ref h0), (1, .int (nI k))]) hx hb d_X_numberBeginnings_6 rfl hl (by decide) rfl (fun ls hl => ?_)
  refine wg_loop (fun t _ _ J H locs ls => (wg_XI J) ∧ (∀ j, j < 5 ∨ 8 < j → J j = I j) ∧ (t ≤ 13 ∧ I 2 k ≤ t) ∧ (J 8 0 + I 2 k ≤ 12 * k + 1 + t ∧ (k = 0 → J 8 0 + I 2 k ≤ t)) ∧ va_P D wg_cl (wg_WX cJ cI h0 ad J) H ∧ va_S A s.heap H locs ∧ lv_has ls 4 [(0, .ref h0), (1, .int (nI k)), (2, .int (nI t))]) (fun t _ _ J => 13 - t) (fun t _z0 _z1 J H locs ls hI ih7 => ?_) (I 2 k) 0 0 I _ _ _ ⟨hI, (fun _ _ => rfl), (by omega), (by omega), hP, hS, lv_sub hl [1, 2, 0] rfl⟩
  obtain ⟨hJ, hkp, ht, hcc, hP, hS, hl⟩ := hI
  have hI' := hJ
  clear hn hse hc hrc hso hw hL hF hF1 hNW hNL hT hWF hNO
  obtain ⟨hn, hse, hc, hrc, hso, hw, hL, hF, hF1, hNW, hNL, hT, hWF, hNO⟩ := hI'
  have hJk : J 3 0 = I 3 0 := by rw [hkp 3 (by omega)]
  have hJs : J 4 0 = I 4 0 := by rw [hkp 4 (by omega)]
  refine lv_iload_n hx hb d_X_numberBeginnings_7 rfl (lv_at hl 2 rfl) ?_
  refine lv_aload_n hx hb d_X_numberBeginnings_8 rfl (lv_at hl 0 rfl) ?_
  refine wg_gX hx hb hts hown hK hP 1 (by decide) (v := .ref (ad 1)) kf_X_13 rfl d_X_numberBeginnings_9 ?_
  refine lv_iload_n hx hb d_X_numberBeginnings_12 rfl (lv_at hl 1 rfl) ?_
  refine wg_ild (f := J 1) (j := k) hx hb hK hP 2 rfl (by omega) (by decide) d_X_numberBeginnings_13 ?_
  have hB13 := hL k (by omega)
  refine lv_icmp_gt (tgt := 55) hx hb d_X_numberBeginnings_14 (by decide) (fun h14 => ?_) (fun h14 => ?_)
  · rw [nI_ltI (by omega) (by omega)] at h14
    exact W.vret hx hb hr (fun tt hth hW => ⟨⟨J, rfl, ⟨hJ, hkp, by omega⟩, wg_h hth hP⟩, hS.F hth⟩) hS.2.2 d_X_numberBeginnings_55
  · rw [nI_ltI (by omega) (by omega)] at h14
    refine lv_aload_n hx hb d_X_numberBeginnings_17 rfl (lv_at hl 0 rfl) ?_
    refine lv_iload_n hx hb d_X_numberBeginnings_18 rfl (lv_at hl 1 rfl) ?_
    refine lv_iload_n hx hb d_X_numberBeginnings_19 rfl (lv_at hl 2 rfl) ?_
    refine wg_cvi (As := [.int (nI k), .int (nI t)]) (rest := []) hx hb hml hown hts hK hP (hD _) hS hA rfl rfl rfl (c_X_earlierNode l D cJ cI h0 ad _ J k t (by omega) (by omega) hJ) kc_X_118 ⟨rfl, rfl⟩ ⟨Nat.le_of_ble_eq_true rfl, Nat.le_of_ble_eq_true rfl⟩ rfl hl.1 rfl (Nat.le_of_ble_eq_true rfl) d_X_numberBeginnings_20 ⟨Nat.zero_le _, Nat.zero_le _⟩ (fun r u20 tt H locs ht q20 hB _ _ hS => ?_)
    have hP : va_P D wg_cl (wg_WX cJ cI h0 ad J) H := by rw [← ht]; exact hB
    clear hB ht tt
    rcases q20 with rfl | ⟨v20, hv20, rfl⟩
    · skip
      refine lv_istore_n (lv' := [(3, .int (-1)), (0, .ref h0), (1, .int (nI k)), (2, .int (nI t))]) hx hb d_X_numberBeginnings_23 rfl hl (by decide) rfl (fun ls hl => ?_)
      refine lv_aload_n hx hb d_X_numberBeginnings_24 rfl (lv_at hl 1 rfl) ?_
      refine wg_gX hx hb hts hown hK hP 5 (by decide) (v := .ref (ad 5)) kf_X_20 rfl d_X_numberBeginnings_25 ?_
      refine lv_iload_n hx hb d_X_numberBeginnings_28 rfl (lv_at hl 2 rfl) ?_
      refine lv_bipush (v := (nI 13)) hx hb d_X_numberBeginnings_29 (by decide +kernel) ?_
      refine t_imul (v := nI (k * 13)) hx hb d_X_numberBeginnings_31 (pk_mul _ _) ?_
      refine lv_iload_n hx hb d_X_numberBeginnings_32 rfl (lv_at hl 3 rfl) ?_
      refine t_iadd (v := nI ((k * 13) + t)) hx hb d_X_numberBeginnings_33 (nI_add _ _) ?_
      refine lv_iload_n hx hb d_X_numberBeginnings_34 rfl (lv_at hl 0 rfl) ?_
      refine lv_if_lt (tgt := 42) hx hb d_X_numberBeginnings_35 (by decide) (fun _ => ?_) (fun h => absurd h (by decide +kernel))
      refine lv_aload_n hx hb d_X_numberBeginnings_42 rfl (lv_at hl 1 rfl) ?_
      refine lv_iload_n hx hb d_X_numberBeginnings_43 rfl (lv_at hl 2 rfl) ?_
      refine lv_iload_n hx hb d_X_numberBeginnings_44 rfl (lv_at hl 3 rfl) ?_
      refine wg_cvi (As := [.int (nI k), .int (nI t)]) (rest := [.int (nI ((k * 13) + t)), .ref (ad 5)]) hx hb hml hown hts hK hP (hD _) hS hA rfl rfl rfl (c_X_makeNode l D cJ cI h0 ad _ J k t (by omega)) kc_X_64 ⟨rfl, rfl⟩ ⟨Nat.le_of_ble_eq_true rfl, Nat.le_of_ble_eq_true rfl⟩ rfl hl.1 rfl (Nat.le_of_ble_eq_true rfl) d_X_numberBeginnings_45 ⟨Nat.zero_le _, Nat.zero_le _⟩ (fun r u45 tt H locs ht q45 hB _ _ hS => ?_)
      have hP : va_P D wg_cl (wg_WX cJ cI h0 ad u45) H := by rw [← ht]; exact hB
      clear hB ht tt
      obtain ⟨rfl, rfl⟩ := q45
      have hP : va_P D wg_cl (wg_WX cJ cI h0 ad (wg_st (wg_st (wg_st J 6 (J 8 0) k) 7 (J 8 0) t) 8 0 (J 8 0 + 1))) H := hP
      refine wg_sX5 (j := ((k * 13) + t)) (x := (J 8 0)) hx hb hK hP hD hS (by omega) d_X_numberBeginnings_48 (fun H locs hP hS => ?_)
      refine lv_iinc (v := nI (t + 1)) (k := 3) (lv' := [(2, .int (nI (t + 1))), (3, .int (-1)), (0, .ref h0), (1, .int (nI k))]) hx hb d_X_numberBeginnings_49 hl rfl (nI_1 _) (by decide) rfl (fun ls hl => ?_)
      refine lv_goto (tgt := 7) hx hb d_X_numberBeginnings_52 (by decide) ?_
      exact ih7 (t + 1) 0 0 (wg_st (wg_st (wg_st (wg_st J 6 (J 8 0) k) 7 (J 8 0) t) 8 0 (J 8 0 + 1)) 5 ((k * 13) + t) (J 8 0)) _ _ _ ⟨(by first | exact wg_XI_5 hJ (by omega) | exact wg_XI_mk hJ (by omega) (by omega) (by omega) (by omega)), (by first | exact fun j h => (wg_st_o _ _ _ _ (by omega)).trans (hkp j h) | exact fun j h => (wg_st_o _ _ _ _ (by omega)).trans ((wg_st_o _ _ _ _ (by omega)).trans ((wg_st_o _ _ _ _ (by omega)).trans ((wg_st_o _ _ _ _ (by omega)).trans (hkp j h))))), (by omega), (by first | exact ⟨by show J 8 0 + I 2 k ≤ _; omega, fun h => by show J 8 0 + I 2 k ≤ _; omega⟩ | exact ⟨by show J 8 0 + 1 + I 2 k ≤ _; omega, fun h => by show J 8 0 + 1 + I 2 k ≤ _; omega⟩), hP, hS, lv_sub hl [2, 3, 0] rfl⟩ (by omega)
    · skip
      refine lv_istore_n (lv' := [(3, .int (nI v20)), (0, .ref h0), (1, .int (nI k)), (2, .int (nI t))]) hx hb d_X_numberBeginnings_23 rfl hl (by decide) rfl (fun ls hl => ?_)
      refine lv_aload_n hx hb d_X_numberBeginnings_24 rfl (lv_at hl 1 rfl) ?_
      refine wg_gX hx hb hts hown hK hP 5 (by decide) (v := .ref (ad 5)) kf_X_20 rfl d_X_numberBeginnings_25 ?_
      refine lv_iload_n hx hb d_X_numberBeginnings_28 rfl (lv_at hl 2 rfl) ?_
      refine lv_bipush (v := (nI 13)) hx hb d_X_numberBeginnings_29 (by decide +kernel) ?_
      refine t_imul (v := nI (k * 13)) hx hb d_X_numberBeginnings_31 (pk_mul _ _) ?_
      refine lv_iload_n hx hb d_X_numberBeginnings_32 rfl (lv_at hl 3 rfl) ?_
      refine t_iadd (v := nI ((k * 13) + t)) hx hb d_X_numberBeginnings_33 (nI_add _ _) ?_
      refine lv_iload_n hx hb d_X_numberBeginnings_34 rfl (lv_at hl 0 rfl) ?_
      refine lv_if_lt (tgt := 42) hx hb d_X_numberBeginnings_35 (by decide) (fun h => absurd h (nI_pos (by omega))) (fun _ => ?_)
      refine lv_iload_n hx hb d_X_numberBeginnings_38 rfl (lv_at hl 0 rfl) ?_
      refine lv_goto (tgt := 48) hx hb d_X_numberBeginnings_39 (by decide) ?_
      refine wg_sX5 (j := ((k * 13) + t)) (x := v20) hx hb hK hP hD hS (by omega) d_X_numberBeginnings_48 (fun H locs hP hS => ?_)
      refine lv_iinc (v := nI (t + 1)) (k := 3) (lv' := [(2, .int (nI (t + 1))), (3, .int (nI v20)), (0, .ref h0), (1, .int (nI k))]) hx hb d_X_numberBeginnings_49 hl rfl (nI_1 _) (by decide) rfl (fun ls hl => ?_)
      refine lv_goto (tgt := 7) hx hb d_X_numberBeginnings_52 (by decide) ?_
      exact ih7 (t + 1) 0 0 (wg_st J 5 ((k * 13) + t) v20) _ _ _ ⟨(by first | exact wg_XI_5 hJ (by omega) | exact wg_XI_mk hJ (by omega) (by omega) (by omega) (by omega)), (by first | exact fun j h => (wg_st_o _ _ _ _ (by omega)).trans (hkp j h) | exact fun j h => (wg_st_o _ _ _ _ (by omega)).trans ((wg_st_o _ _ _ _ (by omega)).trans ((wg_st_o _ _ _ _ (by omega)).trans ((wg_st_o _ _ _ _ (by omega)).trans (hkp j h))))), (by omega), (by first | exact ⟨by show J 8 0 + I 2 k ≤ _; omega, fun h => by show J 8 0 + I 2 k ≤ _; omega⟩ | exact ⟨by show J 8 0 + 1 + I 2 k ≤ _; omega, fun h => by show J 8 0 + 1 + I 2 k ≤ _; omega⟩), hP, hS, lv_sub hl [2, 3, 0] rfl⟩ (by omega)
set_option maxHeartbeats 4000000 in
set_option maxRecDepth 100000 in
theorem c_X_seal (l : Launch) (D : va_G) (cJ cI : ClassId) (h0 : Nat) (ad : Nat → Nat) (sz : Nat) (I : wg_S) (hI : wg_XI I) : Met l y_X_seal (wg_ws y_X_seal b_X_seal 2 (some .boolean)) ({ frames := 4, cells := 0, slots := 0, locals := 98 }) (va_Pc [.ref h0] (wg_Pc D cJ cI (wg_WX cJ cI h0 ad I) sz)) (va_Qi (fun (r : Int32) (u : wg_S) => (¬ I 4 0 = 0 ∧ r = nI 0 ∧ u = I) ∨ (I 4 0 = 0 ∧ r = nI 1 ∧ u 4 0 = 1 ∧ wg_XI u ∧ (∀ j, j < 4 ∨ 8 < j → u j = I j))) (fun (u : wg_S) t => va_P D wg_cl (wg_WX cJ cI h0 ad u) t.heap) (va_A (wg_WX cJ cI h0 ad I) sz)) 0 0 (va_A (wg_WX cJ cI h0 ad I) sz) := by
  refine wg_head (Wd := (fun I => wg_WX cJ cI h0 ad I)) (I := I) (fun A => va_Qi (fun (r : Int32) (u : wg_S) => (¬ I 4 0 = 0 ∧ r = nI 0 ∧ u = I) ∨ (I 4 0 = 0 ∧ r = nI 1 ∧ u 4 0 = 1 ∧ wg_XI u ∧ (∀ j, j < 4 ∨ 8 < j → u j = I j))) (fun (u : wg_S) t => va_P D wg_cl (wg_WX cJ cI h0 ad u) t.heap) A) R_X (by decide) rfl (Nat.le_of_ble_eq_true rfl) (fun I J => wg_same_X I J) ?_
  intro p e s m below meth c A ls hx hb hr hlk hml hown hnm hts hA hK hD hP hS hl hsz
  clear hsz
  have hl : lv_has ls 2 [(0, .ref h0)] := hl
  have hP : va_P D wg_cl (wg_WX cJ cI h0 ad I) s.heap := hP
  skip
  have hI' := hI
  obtain ⟨hn, hse, hc, hrc, hso, hw, hL, hF, hF1, hNW, hNL, hT, hWF, hNO⟩ := hI'
  refine lv_aload_n hx hb d_X_seal_0 rfl (lv_at hl 0 rfl) ?_
  refine wg_gX hx hb hts hown hK hP 4 (by decide) (v := .int (nI (I 4 0))) kf_X_44 rfl d_X_seal_1 ?_
  refine lv_if_eq (tgt := 9) hx hb d_X_seal_4 (by decide) (fun h4 => ?_) (fun h4 => ?_)
  · rw [wg_z0 (by omega)] at h4
    refine lv_aload_n hx hb d_X_seal_9 rfl (lv_at hl 0 rfl) ?_
    refine lv_iconst (v := (nI 1)) hx hb d_X_seal_10 (by decide +kernel) ?_
    refine wg_pX4 (v := 1) hx hb hts hown hK hP hD hS kf_X_44 (by decide +kernel) (by decide +kernel) d_X_seal_11 (fun H locs hP hS => ?_)
    refine lv_aload_n hx hb d_X_seal_14 rfl (lv_at hl 0 rfl) ?_
    refine wg_gX hx hb hts hown hK hP 3 (by decide) (v := .int (nI (I 3 0))) kf_X_52 rfl d_X_seal_15 ?_
    refine lv_if_ne (tgt := 28) hx hb d_X_seal_18 (by decide) (fun h18 => ?_) (fun h18 => ?_)
    · rw [wg_z0 (by omega)] at h18
      refine lv_iconst (v := (nI 0)) hx hb d_X_seal_28 (by decide +kernel) ?_
      refine lv_istore_n (lv' := [(1, .int (nI 0)), (0, .ref h0)]) hx hb d_X_seal_29 rfl hl (by decide) rfl (fun ls hl => ?_)
      refine wg_loop (fun k _ _ J H locs ls => (wg_XI J) ∧ (J 4 0 = 1) ∧ (∀ j, j < 4 ∨ 8 < j → J j = I j) ∧ (J 8 0 ≤ 12 * k + 1 ∧ (k = 0 → 0 < J 3 0 → J 8 0 = 0)) ∧ (k ≤ 48) ∧ va_P D wg_cl (wg_WX cJ cI h0 ad J) H ∧ va_S A s.heap H locs ∧ lv_has ls 2 [(0, .ref h0), (1, .int (nI k))]) (fun k _ _ J => 48 - k) (fun k _z0 _z1 J H locs ls hI ih30 => ?_) 0 0 0 (wg_st I 4 0 1) _ _ _ ⟨(by first | exact wg_XI_4 hI | exact wg_XI_40 hI (by omega)), rfl, (by first | exact fun j h => wg_st_o _ _ _ _ (by omega) | exact fun j h => (wg_st_o _ _ _ _ (by omega)).trans ((wg_st_o _ _ _ _ (by omega)).trans ((wg_st_o _ _ _ _ (by omega)).trans (wg_st_o _ _ _ _ (by omega))))), (by first | exact ⟨by show I 8 0 ≤ _; omega, fun _ _ => by show I 8 0 = 0; omega⟩ | exact ⟨by show I 8 0 + 1 ≤ _; omega, fun _ h => absurd h (by show ¬ 0 < I 3 0; omega)⟩), (by omega), hP, hS, lv_sub hl [1, 0] rfl⟩
      obtain ⟨hJ, hJs, hJf, hJc, hk, hP, hS, hl⟩ := hI
      have hJ3 : J 3 0 ≤ 48 := hJ.1
      have hJn : J 3 0 = I 3 0 := by rw [hJf 3 (by omega)]
      refine lv_iload_n hx hb d_X_seal_30 rfl (lv_at hl 1 rfl) ?_
      refine lv_aload_n hx hb d_X_seal_31 rfl (lv_at hl 0 rfl) ?_
      refine wg_gX hx hb hts hown hK hP 3 (by decide) (v := .int (nI (J 3 0))) kf_X_52 rfl d_X_seal_32 ?_
      refine lv_icmp_ge (tgt := 49) hx hb d_X_seal_35 (by decide) (fun h35 => ?_) (fun h35 => ?_)
      · rw [nI_leI (by omega) (by omega)] at h35
        refine lv_iconst (v := (nI 1)) hx hb d_X_seal_49 (by decide +kernel) ?_
        exact W.zret (ty := .boolean) (v := (nI 1)) hx hb hr (by decide +kernel) (fun tt hth hW => ⟨⟨_, J, rfl, (Or.inr ⟨h4, rfl, hJs, hJ, hJf⟩), wg_h hth hP⟩, hS.F hth⟩) hS.2.2 d_X_seal_50
      · rw [nI_leI (by omega) (by omega)] at h35
        refine lv_aload_n hx hb d_X_seal_38 rfl (lv_at hl 0 rfl) ?_
        refine lv_iload_n hx hb d_X_seal_39 rfl (lv_at hl 1 rfl) ?_
        refine wg_cvv (As := [.int (nI k)]) (rest := []) hx hb hml hown hts hK hP (hD _) hS hA rfl rfl rfl (c_X_numberBeginnings l D cJ cI h0 ad _ J k (by omega) hJ hJs hJc.1 (fun h => hJc.2 h (by omega))) kc_X_68 ⟨rfl, rfl⟩ ⟨Nat.le_of_ble_eq_true rfl, Nat.le_of_ble_eq_true rfl⟩ rfl hl.1 rfl (Nat.le_of_ble_eq_true rfl) d_X_seal_40 ⟨Nat.zero_le _, Nat.zero_le _⟩ (fun u40 tt H locs ht q40 hB _ _ hS => ?_)
        have hP : va_P D wg_cl (wg_WX cJ cI h0 ad u40) H := by rw [← ht]; exact hB
        clear hB ht tt
        obtain ⟨hq40a, hq40b, hq40c⟩ := q40
        refine lv_iinc (v := nI (k + 1)) (k := 1) (lv' := [(1, .int (nI (k + 1))), (0, .ref h0)]) hx hb d_X_seal_43 hl rfl (nI_1 _) (by decide) rfl (fun ls hl => ?_)
        refine lv_goto (tgt := 30) hx hb d_X_seal_46 (by decide) ?_
        exact ih30 (k + 1) 0 0 u40 _ _ _ ⟨hq40a, (by rw [hq40b 4 (by omega)]; exact hJs), (fun j h => (hq40b j (by omega)).trans (hJf j h)), ⟨by omega, fun h => by omega⟩, (by omega), hP, hS, lv_sub hl [1, 0] rfl⟩ (by omega)
    · rw [wg_z0 (by omega)] at h18
      refine lv_aload_n hx hb d_X_seal_21 rfl (lv_at hl 0 rfl) ?_
      refine lv_iconst (v := (nI 0)) hx hb d_X_seal_22 (by decide +kernel) ?_
      refine lv_iconst (v := (nI 0)) hx hb d_X_seal_23 (by decide +kernel) ?_
      refine wg_cvi (As := [.int (nI 0), .int (nI 0)]) (rest := []) hx hb hml hown hts hK hP (hD _) hS hA rfl rfl rfl (c_X_makeNode l D cJ cI h0 ad _ (wg_st I 4 0 1) 0 0 (by show I 8 0 < 577; omega)) kc_X_64 ⟨rfl, rfl⟩ ⟨Nat.le_of_ble_eq_true rfl, Nat.le_of_ble_eq_true rfl⟩ rfl hl.1 rfl (Nat.le_of_ble_eq_true rfl) d_X_seal_24 ⟨Nat.zero_le _, Nat.zero_le _⟩ (fun r u24 tt H locs ht q24 hB _ _ hS => ?_)
      have hP : va_P D wg_cl (wg_WX cJ cI h0 ad u24) H := by rw [← ht]; exact hB
      clear hB ht tt
      obtain ⟨rfl, rfl⟩ := q24
      have hP : va_P D wg_cl (wg_WX cJ cI h0 ad (wg_st (wg_st (wg_st (wg_st I 4 0 1) 6 (I 8 0) 0) 7 (I 8 0) 0) 8 0 (I 8 0 + 1))) H := hP
      refine lv_pop hx hb d_X_seal_27 rfl ?_
      refine lv_iconst (v := (nI 0)) hx hb d_X_seal_28 (by decide +kernel) ?_
      refine lv_istore_n (lv' := [(1, .int (nI 0)), (0, .ref h0)]) hx hb d_X_seal_29 rfl hl (by decide) rfl (fun ls hl => ?_)
      refine wg_loop (fun k _ _ J H locs ls => (wg_XI J) ∧ (J 4 0 = 1) ∧ (∀ j, j < 4 ∨ 8 < j → J j = I j) ∧ (J 8 0 ≤ 12 * k + 1 ∧ (k = 0 → 0 < J 3 0 → J 8 0 = 0)) ∧ (k ≤ 48) ∧ va_P D wg_cl (wg_WX cJ cI h0 ad J) H ∧ va_S A s.heap H locs ∧ lv_has ls 2 [(0, .ref h0), (1, .int (nI k))]) (fun k _ _ J => 48 - k) (fun k _z0 _z1 J H locs ls hI ih30 => ?_) 0 0 0 (wg_st (wg_st (wg_st (wg_st I 4 0 1) 6 (I 8 0) 0) 7 (I 8 0) 0) 8 0 (I 8 0 + 1)) _ _ _ ⟨(by first | exact wg_XI_4 hI | exact wg_XI_40 hI (by omega)), rfl, (by first | exact fun j h => wg_st_o _ _ _ _ (by omega) | exact fun j h => (wg_st_o _ _ _ _ (by omega)).trans ((wg_st_o _ _ _ _ (by omega)).trans ((wg_st_o _ _ _ _ (by omega)).trans (wg_st_o _ _ _ _ (by omega))))), (by first | exact ⟨by show I 8 0 ≤ _; omega, fun _ _ => by show I 8 0 = 0; omega⟩ | exact ⟨by show I 8 0 + 1 ≤ _; omega, fun _ h => absurd h (by show ¬ 0 < I 3 0; omega)⟩), (by omega), hP, hS, lv_sub hl [1, 0] rfl⟩
      obtain ⟨hJ, hJs, hJf, hJc, hk, hP, hS, hl⟩ := hI
      have hJ3 : J 3 0 ≤ 48 := hJ.1
      have hJn : J 3 0 = I 3 0 := by rw [hJf 3 (by omega)]
      refine lv_iload_n hx hb d_X_seal_30 rfl (lv_at hl 1 rfl) ?_
      refine lv_aload_n hx hb d_X_seal_31 rfl (lv_at hl 0 rfl) ?_
      refine wg_gX hx hb hts hown hK hP 3 (by decide) (v := .int (nI (J 3 0))) kf_X_52 rfl d_X_seal_32 ?_
      refine lv_icmp_ge (tgt := 49) hx hb d_X_seal_35 (by decide) (fun h35 => ?_) (fun h35 => ?_)
      · rw [nI_leI (by omega) (by omega)] at h35
        refine lv_iconst (v := (nI 1)) hx hb d_X_seal_49 (by decide +kernel) ?_
        exact W.zret (ty := .boolean) (v := (nI 1)) hx hb hr (by decide +kernel) (fun tt hth hW => ⟨⟨_, J, rfl, (Or.inr ⟨h4, rfl, hJs, hJ, hJf⟩), wg_h hth hP⟩, hS.F hth⟩) hS.2.2 d_X_seal_50
      · rw [nI_leI (by omega) (by omega)] at h35
        refine lv_aload_n hx hb d_X_seal_38 rfl (lv_at hl 0 rfl) ?_
        refine lv_iload_n hx hb d_X_seal_39 rfl (lv_at hl 1 rfl) ?_
        refine wg_cvv (As := [.int (nI k)]) (rest := []) hx hb hml hown hts hK hP (hD _) hS hA rfl rfl rfl (c_X_numberBeginnings l D cJ cI h0 ad _ J k (by omega) hJ hJs hJc.1 (fun h => hJc.2 h (by omega))) kc_X_68 ⟨rfl, rfl⟩ ⟨Nat.le_of_ble_eq_true rfl, Nat.le_of_ble_eq_true rfl⟩ rfl hl.1 rfl (Nat.le_of_ble_eq_true rfl) d_X_seal_40 ⟨Nat.zero_le _, Nat.zero_le _⟩ (fun u40 tt H locs ht q40 hB _ _ hS => ?_)
        have hP : va_P D wg_cl (wg_WX cJ cI h0 ad u40) H := by rw [← ht]; exact hB
        clear hB ht tt
        obtain ⟨hq40a, hq40b, hq40c⟩ := q40
        refine lv_iinc (v := nI (k + 1)) (k := 1) (lv' := [(1, .int (nI (k + 1))), (0, .ref h0)]) hx hb d_X_seal_43 hl rfl (nI_1 _) (by decide) rfl (fun ls hl => ?_)
        refine lv_goto (tgt := 30) hx hb d_X_seal_46 (by decide) ?_
        exact ih30 (k + 1) 0 0 u40 _ _ _ ⟨hq40a, (by rw [hq40b 4 (by omega)]; exact hJs), (fun j h => (hq40b j (by omega)).trans (hJf j h)), ⟨by omega, fun h => by omega⟩, (by omega), hP, hS, lv_sub hl [1, 0] rfl⟩ (by omega)
  · rw [wg_z0 (by omega)] at h4
    refine lv_iconst (v := (nI 0)) hx hb d_X_seal_7 (by decide +kernel) ?_
    exact W.zret (ty := .boolean) (v := (nI 0)) hx hb hr (by decide +kernel) (fun tt hth hW => ⟨⟨_, I, rfl, (Or.inl ⟨h4, rfl, rfl⟩), wg_h hth hP⟩, hS.F hth⟩) hS.2.2 d_X_seal_8
set_option maxHeartbeats 4000000 in
set_option maxRecDepth 100000 in
theorem c_X_step (l : Launch) (D : va_G) (cJ cI : ClassId) (h0 : Nat) (ad : Nat → Nat) (sz : Nat) (I : wg_S) (x : Int32) (ch : Int32) (hI : wg_XI I) : Met l y_X_step (wg_ws y_X_step b_X_step 6 (some .int)) ({ frames := 1, cells := 0, slots := 0, locals := 23 }) (va_Pc [.ref h0, .int x, .int ch] (wg_Pc D cJ cI (wg_WX cJ cI h0 ad I) sz)) (va_Qi (fun (r : Int32) (u : Unit) => I 8 0 = 0 → r = -1) (fun (_ : Unit) t => va_P D wg_cl (wg_WX cJ cI h0 ad I) t.heap) (va_A (wg_WX cJ cI h0 ad I) sz)) 0 0 (va_A (wg_WX cJ cI h0 ad I) sz) := by
  refine wg_head (Wd := (fun I => wg_WX cJ cI h0 ad I)) (I := I) (fun A => va_Qi (fun (r : Int32) (u : Unit) => I 8 0 = 0 → r = -1) (fun (_ : Unit) t => va_P D wg_cl (wg_WX cJ cI h0 ad I) t.heap) A) R_X (by decide) rfl (Nat.le_of_ble_eq_true rfl) (fun I J => wg_same_X I J) ?_
  intro p e s m below meth c A ls hx hb hr hlk hml hown hnm hts hA hK hD hP hS hl hsz
  clear hsz
  have hl : lv_has ls 6 [(0, .ref h0), (1, .int x), (2, .int ch)] := hl
  have hP : va_P D wg_cl (wg_WX cJ cI h0 ad I) s.heap := hP
  skip
  have hI' := hI
  obtain ⟨hn, hse, hc, hrc, hso, hw, hL, hF, hF1, hNW, hNL, hT, hWF, hNO⟩ := hI'
  refine lv_aload_n hx hb d_X_step_0 rfl (lv_at hl 0 rfl) ?_
  refine lv_iload_n hx hb d_X_step_1 rfl (lv_at hl 1 rfl) ?_
  refine wg_cvi (As := [.int x]) (rest := []) hx hb hml hown hts hK hP (hD _) hS hA rfl rfl rfl (c_X_hasNode l D cJ cI h0 ad _ I x (by omega)) kc_X_84 ⟨rfl, rfl⟩ ⟨Nat.le_of_ble_eq_true rfl, Nat.le_of_ble_eq_true rfl⟩ rfl hl.1 rfl (Nat.le_of_ble_eq_true rfl) d_X_step_2 ⟨Nat.zero_le _, Nat.zero_le _⟩ (fun r u2 tt H locs ht q2 hB _ _ hS => ?_)
  have hP : va_P D wg_cl (wg_WX cJ cI h0 ad I) H := by rw [← ht]; exact hB
  clear hB ht tt
  rcases q2 with ⟨rfl, j2, hj2, rfl⟩ | ⟨rfl, hj2⟩
  · skip
    refine lv_if_eq (tgt := 19) hx hb d_X_step_5 (by decide) (fun h => absurd h (by decide +kernel)) (fun _ => ?_)
    refine lv_iload_n hx hb d_X_step_8 rfl (lv_at hl 2 rfl) ?_
    refine lv_iconst (v := (nI 1)) hx hb d_X_step_9 (by decide +kernel) ?_
    refine lv_icmp_lt (tgt := 19) hx hb d_X_step_10 (by decide) (fun h10 => ?_) (fun h10 => ?_)
    · refine lv_iconst (v := (-1)) hx hb d_X_step_19 (by decide +kernel) ?_
      exact W.iret (v := (-1)) hx hb hr (fun tt hth hW => ⟨⟨_, (), rfl, (fun _ => rfl), wg_h hth hP⟩, hS.F hth⟩) hS.2.2 d_X_step_20
    · refine lv_iload_n hx hb d_X_step_13 rfl (lv_at hl 2 rfl) ?_
      refine lv_bipush (v := (nI 26)) hx hb d_X_step_14 (by decide +kernel) ?_
      refine lv_icmp_le (tgt := 21) hx hb d_X_step_16 (by decide) (fun h16 => ?_) (fun h16 => ?_)
      · refine lv_aload_n hx hb d_X_step_21 rfl (lv_at hl 0 rfl) ?_
        refine wg_gX hx hb hts hown hK hP 6 (by decide) (v := .ref (ad 6)) kf_X_23 rfl d_X_step_22 ?_
        refine lv_iload_n hx hb d_X_step_25 rfl (lv_at hl 1 rfl) ?_
        refine wg_ild (f := I 6) (j := j2) hx hb hK hP 5 rfl (by omega) (by decide) d_X_step_26 ?_
        have hB26 := hNW j2 (by omega)
        refine lv_istore_n (lv' := [(3, .int (nI (I 6 j2))), (0, .ref h0), (1, .int (nI j2)), (2, .int ch)]) hx hb d_X_step_27 rfl hl (by decide) rfl (fun ls hl => ?_)
        refine lv_aload_n hx hb d_X_step_28 rfl (lv_at hl 1 rfl) ?_
        refine wg_gX hx hb hts hown hK hP 7 (by decide) (v := .ref (ad 7)) kf_X_26 rfl d_X_step_29 ?_
        refine lv_iload_n hx hb d_X_step_32 rfl (lv_at hl 2 rfl) ?_
        refine wg_ild (f := I 7) (j := j2) hx hb hK hP 6 rfl (by omega) (by decide) d_X_step_33 ?_
        have hB33 := hNL j2 (by omega)
        refine lv_istore (lv' := [(4, .int (nI (I 7 j2))), (3, .int (nI (I 6 j2))), (0, .ref h0), (1, .int (nI j2)), (2, .int ch)]) hx hb d_X_step_34 hl (by decide) rfl (fun ls hl => ?_)
        refine lv_iload_n hx hb d_X_step_36 rfl (lv_at hl 1 rfl) ?_
        refine lv_istore (lv' := [(5, .int (nI (I 6 j2))), (4, .int (nI (I 7 j2))), (3, .int (nI (I 6 j2))), (0, .ref h0), (1, .int (nI j2)), (2, .int ch)]) hx hb d_X_step_37 hl (by decide) rfl (fun ls hl => ?_)
        refine wg_loop (fun k _ _ _ H locs ls => (k ≤ 48) ∧ va_P D wg_cl (wg_WX cJ cI h0 ad I) H ∧ va_S A s.heap H locs ∧ lv_has ls 6 [(0, .ref h0), (2, .int ch), (3, .int (nI (I 6 j2))), (4, .int (nI (I 7 j2))), (5, .int (nI k))]) (fun k _ _ _ => 48 - k) (fun k _z0 _z1 _J H locs ls hI ih39 => ?_) (I 6 j2) 0 0 (fun _ _ => 0) _ _ _ ⟨(by omega), hP, hS, lv_sub hl [3, 5, 2, 1, 0] rfl⟩
        obtain ⟨hk, hP, hS, hl⟩ := hI
        refine lv_iload hx hb d_X_step_39 (lv_at hl 4 rfl) ?_
        refine lv_aload_n hx hb d_X_step_41 rfl (lv_at hl 0 rfl) ?_
        refine wg_gX hx hb hts hown hK hP 3 (by decide) (v := .int (nI (I 3 0))) kf_X_52 rfl d_X_step_42 ?_
        refine lv_icmp_ge (tgt := 98) hx hb d_X_step_45 (by decide) (fun h45 => ?_) (fun h45 => ?_)
        · rw [nI_leI (by omega) (by omega)] at h45
          refine lv_iconst (v := (-1)) hx hb d_X_step_98 (by decide +kernel) ?_
          exact W.iret (v := (-1)) hx hb hr (fun tt hth hW => ⟨⟨_, (), rfl, (fun _ => rfl), wg_h hth hP⟩, hS.F hth⟩) hS.2.2 d_X_step_99
        · rw [nI_leI (by omega) (by omega)] at h45
          refine lv_aload_n hx hb d_X_step_48 rfl (lv_at hl 0 rfl) ?_
          refine lv_iload hx hb d_X_step_49 (lv_at hl 4 rfl) ?_
          refine lv_iload_n hx hb d_X_step_51 rfl (lv_at hl 2 rfl) ?_
          refine lv_iload hx hb d_X_step_52 (lv_at hl 3 rfl) ?_
          refine wg_cvi (As := [.int (nI k), .int (nI (I 6 j2)), .int (nI (I 7 j2))]) (rest := []) hx hb hml hown hts hK hP (hD _) hS hA rfl rfl rfl (c_X_beginsAs l D cJ cI h0 ad _ I k (I 6 j2) (I 7 j2) (by omega) (by omega) (by omega) hI) kc_X_87 ⟨rfl, rfl⟩ ⟨Nat.le_of_ble_eq_true rfl, Nat.le_of_ble_eq_true rfl⟩ rfl hl.1 rfl (Nat.le_of_ble_eq_true rfl) d_X_step_54 ⟨Nat.zero_le _, Nat.zero_le _⟩ (fun r u54 tt H locs ht q54 hB _ _ hS => ?_)
          have hP : va_P D wg_cl (wg_WX cJ cI h0 ad I) H := by rw [← ht]; exact hB
          clear hB ht tt
          rcases q54 with ⟨rfl, hb54⟩ | ⟨rfl, hb54⟩
          · skip
            refine lv_if_eq (tgt := 98) hx hb d_X_step_57 (by decide) (fun h => absurd h (by decide +kernel)) (fun _ => ?_)
            refine lv_aload_n hx hb d_X_step_60 rfl (lv_at hl 0 rfl) ?_
            refine wg_gX hx hb hts hown hK hP 0 (by decide) (v := .ref (ad 0)) kf_X_9 rfl d_X_step_61 ?_
            refine lv_iload hx hb d_X_step_64 (lv_at hl 4 rfl) ?_
            refine wg_lld (f := I 0) (j := k) hx hb hK hP 1 rfl (by omega) (by decide) d_X_step_66 ?_
            have hB66 := hw k (by omega)
            refine lv_iload hx hb d_X_step_67 (lv_at hl 3 rfl) ?_
            refine wg_csi (As := [.long (lN (I 0 k)), .int (nI (I 7 j2))]) (rest := []) hx hb hml hown hts hK hP hS hA (c_X_letterAt l D cJ cI _ (I 0 k) (I 7 j2) (by omega) (by omega)) kc_X_91 ⟨rfl, rfl⟩ ⟨Nat.le_of_ble_eq_true rfl, Nat.le_of_ble_eq_true rfl⟩ rfl hl.1 rfl (Nat.le_of_ble_eq_true rfl) d_X_step_69 ⟨Nat.zero_le _, Nat.zero_le _⟩ (fun r H locs q69 hP hS => ?_)
            obtain rfl := q69
            have hq69 := wg_la_le (I 0 k) (I 7 j2)
            refine lv_iload_n hx hb d_X_step_72 rfl (lv_at hl 1 rfl) ?_
            refine lv_icmp_ne (tgt := 92) hx hb d_X_step_73 (by decide) (fun h73 => ?_) (fun h73 => ?_)
            · refine lv_iinc (v := nI (k + 1)) (k := 4) (lv' := [(5, .int (nI (k + 1))), (0, .ref h0), (2, .int ch), (3, .int (nI (I 6 j2))), (4, .int (nI (I 7 j2)))]) hx hb d_X_step_92 hl rfl (nI_1 _) (by decide) rfl (fun ls hl => ?_)
              refine lv_goto (tgt := 39) hx hb d_X_step_95 (by decide) ?_
              exact ih39 (k + 1) 0 0 (fun _ _ => 0) _ _ _ ⟨(by omega), hP, hS, lv_sub hl [1, 2, 3, 4, 0] rfl⟩ (by omega)
            · have h12 := wg_step12 h10 h73
              refine lv_aload_n hx hb d_X_step_76 rfl (lv_at hl 0 rfl) ?_
              refine wg_gX hx hb hts hown hK hP 5 (by decide) (v := .ref (ad 5)) kf_X_20 rfl d_X_step_77 ?_
              refine lv_iload hx hb d_X_step_80 (lv_at hl 4 rfl) ?_
              refine lv_bipush (v := (nI 13)) hx hb d_X_step_82 (by decide +kernel) ?_
              refine t_imul (v := nI (k * 13)) hx hb d_X_step_84 (pk_mul _ _) ?_
              refine lv_iload hx hb d_X_step_85 (lv_at hl 3 rfl) ?_
              refine t_iadd (v := nI ((k * 13) + (I 7 j2))) hx hb d_X_step_87 (nI_add _ _) ?_
              refine lv_iconst (v := (nI 1)) hx hb d_X_step_88 (by decide +kernel) ?_
              refine t_iadd (v := nI (((k * 13) + (I 7 j2)) + 1)) hx hb d_X_step_89 (nI_add _ _) ?_
              refine wg_ild (f := I 5) (j := (((k * 13) + (I 7 j2)) + 1)) hx hb hK hP 4 rfl (by omega) (by decide) d_X_step_90 ?_
              have hB90 := hNO (((k * 13) + (I 7 j2)) + 1) (by omega)
              exact W.iret (v := (nI (I 5 (((k * 13) + (I 7 j2)) + 1)))) hx hb hr (fun tt hth hW => ⟨⟨_, (), rfl, (fun h => by omega), wg_h hth hP⟩, hS.F hth⟩) hS.2.2 d_X_step_91
          · skip
            refine lv_if_eq (tgt := 98) hx hb d_X_step_57 (by decide) (fun _ => ?_) (fun h => absurd h (by decide +kernel))
            refine lv_iconst (v := (-1)) hx hb d_X_step_98 (by decide +kernel) ?_
            exact W.iret (v := (-1)) hx hb hr (fun tt hth hW => ⟨⟨_, (), rfl, (fun _ => rfl), wg_h hth hP⟩, hS.F hth⟩) hS.2.2 d_X_step_99
      · refine lv_iconst (v := (-1)) hx hb d_X_step_19 (by decide +kernel) ?_
        exact W.iret (v := (-1)) hx hb hr (fun tt hth hW => ⟨⟨_, (), rfl, (fun _ => rfl), wg_h hth hP⟩, hS.F hth⟩) hS.2.2 d_X_step_20
  · skip
    refine lv_if_eq (tgt := 19) hx hb d_X_step_5 (by decide) (fun _ => ?_) (fun h => absurd h (by decide +kernel))
    refine lv_iconst (v := (-1)) hx hb d_X_step_19 (by decide +kernel) ?_
    exact W.iret (v := (-1)) hx hb hr (fun tt hth hW => ⟨⟨_, (), rfl, (fun _ => rfl), wg_h hth hP⟩, hS.F hth⟩) hS.2.2 d_X_step_20
set_option maxHeartbeats 4000000 in
set_option maxRecDepth 100000 in
theorem c_X_ends (l : Launch) (D : va_G) (cJ cI : ClassId) (h0 : Nat) (ad : Nat → Nat) (sz : Nat) (I : wg_S) (x : Int32) (hI : wg_XI I) : Met l y_X_ends (wg_ws y_X_ends b_X_ends 3 (some .boolean)) ({ frames := 1, cells := 0, slots := 0, locals := 21 }) (va_Pc [.ref h0, .int x] (wg_Pc D cJ cI (wg_WX cJ cI h0 ad I) sz)) (va_Qi (fun (r : Int32) (u : Unit) => I 8 0 = 0 → r = nI 0) (fun (_ : Unit) t => va_P D wg_cl (wg_WX cJ cI h0 ad I) t.heap) (va_A (wg_WX cJ cI h0 ad I) sz)) 0 0 (va_A (wg_WX cJ cI h0 ad I) sz) := by
  refine wg_head (Wd := (fun I => wg_WX cJ cI h0 ad I)) (I := I) (fun A => va_Qi (fun (r : Int32) (u : Unit) => I 8 0 = 0 → r = nI 0) (fun (_ : Unit) t => va_P D wg_cl (wg_WX cJ cI h0 ad I) t.heap) A) R_X (by decide) rfl (Nat.le_of_ble_eq_true rfl) (fun I J => wg_same_X I J) ?_
  intro p e s m below meth c A ls hx hb hr hlk hml hown hnm hts hA hK hD hP hS hl hsz
  clear hsz
  have hl : lv_has ls 3 [(0, .ref h0), (1, .int x)] := hl
  have hP : va_P D wg_cl (wg_WX cJ cI h0 ad I) s.heap := hP
  skip
  have hI' := hI
  obtain ⟨hn, hse, hc, hrc, hso, hw, hL, hF, hF1, hNW, hNL, hT, hWF, hNO⟩ := hI'
  refine lv_aload_n hx hb d_X_ends_0 rfl (lv_at hl 0 rfl) ?_
  refine lv_iload_n hx hb d_X_ends_1 rfl (lv_at hl 1 rfl) ?_
  refine wg_cvi (As := [.int x]) (rest := []) hx hb hml hown hts hK hP (hD _) hS hA rfl rfl rfl (c_X_hasNode l D cJ cI h0 ad _ I x (by omega)) kc_X_84 ⟨rfl, rfl⟩ ⟨Nat.le_of_ble_eq_true rfl, Nat.le_of_ble_eq_true rfl⟩ rfl hl.1 rfl (Nat.le_of_ble_eq_true rfl) d_X_ends_2 ⟨Nat.zero_le _, Nat.zero_le _⟩ (fun r u2 tt H locs ht q2 hB _ _ hS => ?_)
  have hP : va_P D wg_cl (wg_WX cJ cI h0 ad I) H := by rw [← ht]; exact hB
  clear hB ht tt
  rcases q2 with ⟨rfl, j2, hj2, rfl⟩ | ⟨rfl, hj2⟩
  · skip
    refine lv_if_ne (tgt := 10) hx hb d_X_ends_5 (by decide) (fun _ => ?_) (fun h => absurd h (by decide +kernel))
    refine lv_aload_n hx hb d_X_ends_10 rfl (lv_at hl 0 rfl) ?_
    refine wg_gX hx hb hts hown hK hP 6 (by decide) (v := .ref (ad 6)) kf_X_23 rfl d_X_ends_11 ?_
    refine lv_iload_n hx hb d_X_ends_14 rfl (lv_at hl 1 rfl) ?_
    refine wg_ild (f := I 6) (j := j2) hx hb hK hP 5 rfl (by omega) (by decide) d_X_ends_15 ?_
    have hB15 := hNW j2 (by omega)
    refine lv_istore_n (lv' := [(2, .int (nI (I 6 j2))), (0, .ref h0), (1, .int (nI j2))]) hx hb d_X_ends_16 rfl hl (by decide) rfl (fun ls hl => ?_)
    refine lv_iload_n hx hb d_X_ends_17 rfl (lv_at hl 0 rfl) ?_
    refine lv_aload_n hx hb d_X_ends_18 rfl (lv_at hl 1 rfl) ?_
    refine wg_gX hx hb hts hown hK hP 3 (by decide) (v := .int (nI (I 3 0))) kf_X_52 rfl d_X_ends_19 ?_
    refine lv_icmp_ge (tgt := 44) hx hb d_X_ends_22 (by decide) (fun h22 => ?_) (fun h22 => ?_)
    · rw [nI_leI (by omega) (by omega)] at h22
      refine lv_iconst (v := (nI 0)) hx hb d_X_ends_44 (by decide +kernel) ?_
      exact W.zret (ty := .boolean) (v := (nI 0)) hx hb hr (by decide +kernel) (fun tt hth hW => ⟨⟨_, (), rfl, (fun h => by omega), wg_h hth hP⟩, hS.F hth⟩) hS.2.2 d_X_ends_45
    · rw [nI_leI (by omega) (by omega)] at h22
      refine lv_aload_n hx hb d_X_ends_25 rfl (lv_at hl 1 rfl) ?_
      refine wg_gX hx hb hts hown hK hP 1 (by decide) (v := .ref (ad 1)) kf_X_13 rfl d_X_ends_26 ?_
      refine lv_iload_n hx hb d_X_ends_29 rfl (lv_at hl 0 rfl) ?_
      refine wg_ild (f := I 1) (j := (I 6 j2)) hx hb hK hP 2 rfl (by omega) (by decide) d_X_ends_30 ?_
      have hB30 := hL (I 6 j2) (by omega)
      refine lv_aload_n hx hb d_X_ends_31 rfl (lv_at hl 1 rfl) ?_
      refine wg_gX hx hb hts hown hK hP 7 (by decide) (v := .ref (ad 7)) kf_X_26 rfl d_X_ends_32 ?_
      refine lv_iload_n hx hb d_X_ends_35 rfl (lv_at hl 2 rfl) ?_
      refine wg_ild (f := I 7) (j := j2) hx hb hK hP 6 rfl (by omega) (by decide) d_X_ends_36 ?_
      have hB36 := hNL j2 (by omega)
      refine lv_icmp_ne (tgt := 44) hx hb d_X_ends_37 (by decide) (fun h37 => ?_) (fun h37 => ?_)
      · rw [nI_eq (by omega) (by omega)] at h37
        refine lv_iconst (v := (nI 0)) hx hb d_X_ends_44 (by decide +kernel) ?_
        exact W.zret (ty := .boolean) (v := (nI 0)) hx hb hr (by decide +kernel) (fun tt hth hW => ⟨⟨_, (), rfl, (fun h => by omega), wg_h hth hP⟩, hS.F hth⟩) hS.2.2 d_X_ends_45
      · rw [nI_eq (by omega) (by omega)] at h37
        refine lv_iconst (v := (nI 1)) hx hb d_X_ends_40 (by decide +kernel) ?_
        refine lv_goto (tgt := 45) hx hb d_X_ends_41 (by decide) ?_
        exact W.zret (ty := .boolean) (v := (nI 1)) hx hb hr (by decide +kernel) (fun tt hth hW => ⟨⟨_, (), rfl, (fun h => by omega), wg_h hth hP⟩, hS.F hth⟩) hS.2.2 d_X_ends_45
  · skip
    refine lv_if_ne (tgt := 10) hx hb d_X_ends_5 (by decide) (fun h => absurd h (by decide +kernel)) (fun _ => ?_)
    refine lv_iconst (v := (nI 0)) hx hb d_X_ends_8 (by decide +kernel) ?_
    exact W.zret (ty := .boolean) (v := (nI 0)) hx hb hr (by decide +kernel) (fun tt hth hW => ⟨⟨_, (), rfl, (fun _ => rfl), wg_h hth hP⟩, hS.F hth⟩) hS.2.2 d_X_ends_9
set_option maxHeartbeats 4000000 in
set_option maxRecDepth 100000 in
theorem c_X_endings (l : Launch) (D : va_G) (cJ cI : ClassId) (h0 : Nat) (ad : Nat → Nat) (sz : Nat) (I : wg_S) (x : Int32) (hI : wg_XI I) : Met l y_X_endings (wg_ws y_X_endings b_X_endings 5 (some .int)) ({ frames := 1, cells := 0, slots := 0, locals := 23 }) (va_Pc [.ref h0, .int x] (wg_Pc D cJ cI (wg_WX cJ cI h0 ad I) sz)) (va_Qi (fun (r : Int32) (u : Unit) => I 8 0 = 0 → r = nI 0) (fun (_ : Unit) t => va_P D wg_cl (wg_WX cJ cI h0 ad I) t.heap) (va_A (wg_WX cJ cI h0 ad I) sz)) 0 0 (va_A (wg_WX cJ cI h0 ad I) sz) := by
  refine wg_head (Wd := (fun I => wg_WX cJ cI h0 ad I)) (I := I) (fun A => va_Qi (fun (r : Int32) (u : Unit) => I 8 0 = 0 → r = nI 0) (fun (_ : Unit) t => va_P D wg_cl (wg_WX cJ cI h0 ad I) t.heap) A) R_X (by decide) rfl (Nat.le_of_ble_eq_true rfl) (fun I J => wg_same_X I J) ?_
  intro p e s m below meth c A ls hx hb hr hlk hml hown hnm hts hA hK hD hP hS hl hsz
  clear hsz
  have hl : lv_has ls 5 [(0, .ref h0), (1, .int x)] := hl
  have hP : va_P D wg_cl (wg_WX cJ cI h0 ad I) s.heap := hP
  skip
  have hI' := hI
  obtain ⟨hn, hse, hc, hrc, hso, hw, hL, hF, hF1, hNW, hNL, hT, hWF, hNO⟩ := hI'
  refine lv_aload_n hx hb d_X_endings_0 rfl (lv_at hl 0 rfl) ?_
  refine lv_iload_n hx hb d_X_endings_1 rfl (lv_at hl 1 rfl) ?_
  refine wg_cvi (As := [.int x]) (rest := []) hx hb hml hown hts hK hP (hD _) hS hA rfl rfl rfl (c_X_hasNode l D cJ cI h0 ad _ I x (by omega)) kc_X_84 ⟨rfl, rfl⟩ ⟨Nat.le_of_ble_eq_true rfl, Nat.le_of_ble_eq_true rfl⟩ rfl hl.1 rfl (Nat.le_of_ble_eq_true rfl) d_X_endings_2 ⟨Nat.zero_le _, Nat.zero_le _⟩ (fun r u2 tt H locs ht q2 hB _ _ hS => ?_)
  have hP : va_P D wg_cl (wg_WX cJ cI h0 ad I) H := by rw [← ht]; exact hB
  clear hB ht tt
  rcases q2 with ⟨rfl, j2, hj2, rfl⟩ | ⟨rfl, hj2⟩
  · skip
    refine lv_if_ne (tgt := 10) hx hb d_X_endings_5 (by decide) (fun _ => ?_) (fun h => absurd h (by decide +kernel))
    refine lv_aload_n hx hb d_X_endings_10 rfl (lv_at hl 0 rfl) ?_
    refine wg_gX hx hb hts hown hK hP 6 (by decide) (v := .ref (ad 6)) kf_X_23 rfl d_X_endings_11 ?_
    refine lv_iload_n hx hb d_X_endings_14 rfl (lv_at hl 1 rfl) ?_
    refine wg_ild (f := I 6) (j := j2) hx hb hK hP 5 rfl (by omega) (by decide) d_X_endings_15 ?_
    have hB15 := hNW j2 (by omega)
    refine lv_istore_n (lv' := [(2, .int (nI (I 6 j2))), (0, .ref h0), (1, .int (nI j2))]) hx hb d_X_endings_16 rfl hl (by decide) rfl (fun ls hl => ?_)
    refine lv_iconst (v := (nI 0)) hx hb d_X_endings_17 (by decide +kernel) ?_
    refine lv_istore_n (lv' := [(3, .int (nI 0)), (2, .int (nI (I 6 j2))), (0, .ref h0), (1, .int (nI j2))]) hx hb d_X_endings_18 rfl hl (by decide) rfl (fun ls hl => ?_)
    refine lv_iload_n hx hb d_X_endings_19 rfl (lv_at hl 1 rfl) ?_
    refine lv_istore (lv' := [(4, .int (nI (I 6 j2))), (3, .int (nI 0)), (2, .int (nI (I 6 j2))), (0, .ref h0), (1, .int (nI j2))]) hx hb d_X_endings_20 hl (by decide) rfl (fun ls hl => ?_)
    refine wg_loop (fun k cnt _ _ H locs ls => (k ≤ 48) ∧ va_P D wg_cl (wg_WX cJ cI h0 ad I) H ∧ va_S A s.heap H locs ∧ lv_has ls 5 [(0, .ref h0), (1, .int (nI j2)), (2, .int (nI (I 6 j2))), (3, .int (nI cnt)), (4, .int (nI k))]) (fun k cnt _ _ => 48 - k) (fun k cnt _z0 _J H locs ls hI ih22 => ?_) (I 6 j2) 0 0 (fun _ _ => 0) _ _ _ ⟨(by omega), hP, hS, lv_sub hl [3, 4, 2, 1, 0] rfl⟩
    obtain ⟨hk, hP, hS, hl⟩ := hI
    refine lv_iload hx hb d_X_endings_22 (lv_at hl 4 rfl) ?_
    refine lv_aload_n hx hb d_X_endings_24 rfl (lv_at hl 0 rfl) ?_
    refine wg_gX hx hb hts hown hK hP 3 (by decide) (v := .int (nI (I 3 0))) kf_X_52 rfl d_X_endings_25 ?_
    refine lv_icmp_ge (tgt := 56) hx hb d_X_endings_28 (by decide) (fun h28 => ?_) (fun h28 => ?_)
    · rw [nI_leI (by omega) (by omega)] at h28
      refine lv_iload_n hx hb d_X_endings_56 rfl (lv_at hl 3 rfl) ?_
      exact W.iret (v := (nI cnt)) hx hb hr (fun tt hth hW => ⟨⟨_, (), rfl, (fun h => by omega), wg_h hth hP⟩, hS.F hth⟩) hS.2.2 d_X_endings_57
    · rw [nI_leI (by omega) (by omega)] at h28
      refine lv_aload_n hx hb d_X_endings_31 rfl (lv_at hl 0 rfl) ?_
      refine lv_iload hx hb d_X_endings_32 (lv_at hl 4 rfl) ?_
      refine lv_iload_n hx hb d_X_endings_34 rfl (lv_at hl 2 rfl) ?_
      refine lv_aload_n hx hb d_X_endings_35 rfl (lv_at hl 0 rfl) ?_
      refine wg_gX hx hb hts hown hK hP 7 (by decide) (v := .ref (ad 7)) kf_X_26 rfl d_X_endings_36 ?_
      refine lv_iload_n hx hb d_X_endings_39 rfl (lv_at hl 1 rfl) ?_
      refine wg_ild (f := I 7) (j := j2) hx hb hK hP 6 rfl (by omega) (by decide) d_X_endings_40 ?_
      have hB40 := hNL j2 (by omega)
      refine wg_cvi (As := [.int (nI k), .int (nI (I 6 j2)), .int (nI (I 7 j2))]) (rest := []) hx hb hml hown hts hK hP (hD _) hS hA rfl rfl rfl (c_X_beginsAs l D cJ cI h0 ad _ I k (I 6 j2) (I 7 j2) (by omega) (by omega) (by omega) hI) kc_X_87 ⟨rfl, rfl⟩ ⟨Nat.le_of_ble_eq_true rfl, Nat.le_of_ble_eq_true rfl⟩ rfl hl.1 rfl (Nat.le_of_ble_eq_true rfl) d_X_endings_41 ⟨Nat.zero_le _, Nat.zero_le _⟩ (fun r u41 tt H locs ht q41 hB _ _ hS => ?_)
      have hP : va_P D wg_cl (wg_WX cJ cI h0 ad I) H := by rw [← ht]; exact hB
      clear hB ht tt
      rcases q41 with ⟨rfl, hb41⟩ | ⟨rfl, hb41⟩
      · skip
        refine lv_if_eq (tgt := 56) hx hb d_X_endings_44 (by decide) (fun h => absurd h (by decide +kernel)) (fun _ => ?_)
        refine lv_iinc (v := nI (cnt + 1)) (k := 3) (lv' := [(3, .int (nI (cnt + 1))), (0, .ref h0), (1, .int (nI j2)), (2, .int (nI (I 6 j2))), (4, .int (nI k))]) hx hb d_X_endings_47 hl rfl (nI_1 _) (by decide) rfl (fun ls hl => ?_)
        refine lv_iinc (v := nI (k + 1)) (k := 4) (lv' := [(4, .int (nI (k + 1))), (3, .int (nI (cnt + 1))), (0, .ref h0), (1, .int (nI j2)), (2, .int (nI (I 6 j2)))]) hx hb d_X_endings_50 hl rfl (nI_1 _) (by decide) rfl (fun ls hl => ?_)
        refine lv_goto (tgt := 22) hx hb d_X_endings_53 (by decide) ?_
        exact ih22 (k + 1) (cnt + 1) 0 (fun _ _ => 0) _ _ _ ⟨(by omega), hP, hS, lv_sub hl [2, 3, 4, 1, 0] rfl⟩ (by omega)
      · skip
        refine lv_if_eq (tgt := 56) hx hb d_X_endings_44 (by decide) (fun _ => ?_) (fun h => absurd h (by decide +kernel))
        refine lv_iload_n hx hb d_X_endings_56 rfl (lv_at hl 3 rfl) ?_
        exact W.iret (v := (nI cnt)) hx hb hr (fun tt hth hW => ⟨⟨_, (), rfl, (fun h => by omega), wg_h hth hP⟩, hS.F hth⟩) hS.2.2 d_X_endings_57
  · skip
    refine lv_if_ne (tgt := 10) hx hb d_X_endings_5 (by decide) (fun h => absurd h (by decide +kernel)) (fun _ => ?_)
    refine lv_iconst (v := (nI 0)) hx hb d_X_endings_8 (by decide +kernel) ?_
    exact W.iret (v := (nI 0)) hx hb hr (fun tt hth hW => ⟨⟨_, (), rfl, (fun _ => rfl), wg_h hth hP⟩, hS.F hth⟩) hS.2.2 d_X_endings_9
