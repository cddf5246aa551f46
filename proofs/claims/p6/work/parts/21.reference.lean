set_option maxHeartbeats 4000000 in
set_option maxRecDepth 100000 in
theorem c_M_step (l : Launch) (D : va_G) (cJ cI : ClassId) (h0 : Nat) (ad : Nat → Nat) (sz : Nat) (I : wg_S) (x : Int32) (ch : Int32) (hI : wg_MI I) : Met l y_M_step (wg_ws y_M_step b_M_step 4 (some .int)) ({ frames := 2, cells := 0, slots := 0, locals := 46 }) (va_Pc [.ref h0, .int x, .int ch] (wg_Pc D cJ cI (wg_WM cJ cI h0 ad I) sz)) (va_Qi (fun (r : Int32) (u : Unit) => I 2 0 = 0 → r = -1) (fun (_ : Unit) t => va_P D wg_cl (wg_WM cJ cI h0 ad I) t.heap) (va_A (wg_WM cJ cI h0 ad I) sz)) 0 0 (va_A (wg_WM cJ cI h0 ad I) sz) := by
  refine wg_head (Wd := (fun I => wg_WM cJ cI h0 ad I)) (I := I) (fun A => va_Qi (fun (r : Int32) (u : Unit) => I 2 0 = 0 → r = -1) (fun (_ : Unit) t => va_P D wg_cl (wg_WM cJ cI h0 ad I) t.heap) A) R_M (by decide) rfl (Nat.le_of_ble_eq_true rfl) (fun I J => wg_same_M I J) ?_
  intro p e s m below meth c A ls hx hb hr hlk hml hown hnm hts hA hK hD hP hS hl hsz
  clear hsz
  have hl : lv_has ls 4 [(0, .ref h0), (1, .int x), (2, .int ch)] := hl
  have hP : va_P D wg_cl (wg_WM cJ cI h0 ad I) s.heap := hP
  skip
  have hI' := hI
  obtain ⟨hn, hse, hfd, hnd, hw, hOW, hOL⟩ := hI'
  refine lv_aload_n hx hb d_M_step_0 rfl (lv_at hl 0 rfl) ?_
  refine lv_iload_n hx hb d_M_step_1 rfl (lv_at hl 1 rfl) ?_
  refine wg_cvi (As := [.int x]) (rest := []) hx hb hml hown hts hK hP (hD _) hS hA rfl rfl rfl (c_M_isNode l D cJ cI h0 ad _ I x (by omega)) kc_M_75 ⟨rfl, rfl⟩ ⟨Nat.le_of_ble_eq_true rfl, Nat.le_of_ble_eq_true rfl⟩ rfl hl.1 rfl (Nat.le_of_ble_eq_true rfl) d_M_step_2 ⟨Nat.zero_le _, Nat.zero_le _⟩ (fun r u2 tt H locs ht q2 hB _ _ hS => ?_)
  have hP : va_P D wg_cl (wg_WM cJ cI h0 ad I) H := by rw [← ht]; exact hB
  clear hB ht tt
  rcases q2 with ⟨rfl, hz2a, hz2b, j2, hj2, rfl⟩ | ⟨rfl, hj2⟩
  · skip
    refine lv_if_eq (tgt := 30) hx hb d_M_step_5 (by decide) (fun h => absurd h (by decide +kernel)) (fun _ => ?_)
    refine lv_iload_n hx hb d_M_step_8 rfl (lv_at hl 2 rfl) ?_
    refine lv_iconst (v := (nI 1)) hx hb d_M_step_9 (by decide +kernel) ?_
    refine lv_icmp_lt (tgt := 30) hx hb d_M_step_10 (by decide) (fun h10 => ?_) (fun h10 => ?_)
    · refine lv_iconst (v := (-1)) hx hb d_M_step_30 (by decide +kernel) ?_
      exact W.iret (v := (-1)) hx hb hr (fun tt hth hW => ⟨⟨_, (), rfl, (fun _ => rfl), wg_h hth hP⟩, hS.F hth⟩) hS.2.2 d_M_step_31
    · refine lv_iload_n hx hb d_M_step_13 rfl (lv_at hl 2 rfl) ?_
      refine lv_bipush (v := (nI 26)) hx hb d_M_step_14 (by decide +kernel) ?_
      refine lv_icmp_gt (tgt := 30) hx hb d_M_step_16 (by decide) (fun h16 => ?_) (fun h16 => ?_)
      · refine lv_iconst (v := (-1)) hx hb d_M_step_30 (by decide +kernel) ?_
        exact W.iret (v := (-1)) hx hb hr (fun tt hth hW => ⟨⟨_, (), rfl, (fun _ => rfl), wg_h hth hP⟩, hS.F hth⟩) hS.2.2 d_M_step_31
      · refine lv_aload_n hx hb d_M_step_19 rfl (lv_at hl 0 rfl) ?_
        refine wg_gM hx hb hts hown hK hP 8 (by decide) (v := .ref (ad 8)) kf_M_26 rfl d_M_step_20 ?_
        refine lv_iload_n hx hb d_M_step_23 rfl (lv_at hl 1 rfl) ?_
        refine wg_ild (f := I 8) (j := j2) hx hb hK hP 6 rfl (by omega) (by decide) d_M_step_24 ?_
        have hB24 := hOL j2 (by omega)
        refine lv_bipush (v := (nI 12)) hx hb d_M_step_25 (by decide +kernel) ?_
        refine lv_icmp_ne (tgt := 32) hx hb d_M_step_27 (by decide) (fun h27 => ?_) (fun h27 => ?_)
        · rw [nI_eq (by omega) (by omega)] at h27
          refine lv_iconst (v := (nI 0)) hx hb d_M_step_32 (by decide +kernel) ?_
          refine lv_istore_n (lv' := [(3, .int (nI 0)), (0, .ref h0), (1, .int (nI j2)), (2, .int ch)]) hx hb d_M_step_33 rfl hl (by decide) rfl (fun ls hl => ?_)
          refine wg_loop (fun k _ _ _ H locs ls => (k ≤ 48) ∧ va_P D wg_cl (wg_WM cJ cI h0 ad I) H ∧ va_S A s.heap H locs ∧ lv_has ls 4 [(0, .ref h0), (1, .int (nI j2)), (2, .int ch), (3, .int (nI k))]) (fun k _ _ _ => 48 - k) (fun k _z0 _z1 _J H locs ls hI ih34 => ?_) 0 0 0 (fun _ _ => 0) _ _ _ ⟨(by omega), hP, hS, lv_sub hl [1, 2, 3, 0] rfl⟩
          obtain ⟨hk, hP, hS, hl⟩ := hI
          refine lv_iload_n hx hb d_M_step_34 rfl (lv_at hl 3 rfl) ?_
          refine lv_aload_n hx hb d_M_step_35 rfl (lv_at hl 0 rfl) ?_
          refine wg_gM hx hb hts hown hK hP 1 (by decide) (v := .int (nI (I 1 0))) kf_M_32 rfl d_M_step_36 ?_
          refine lv_icmp_ge (tgt := 106) hx hb d_M_step_39 (by decide) (fun h39 => ?_) (fun h39 => ?_)
          · rw [nI_leI (by omega) (by omega)] at h39
            refine lv_iconst (v := (-1)) hx hb d_M_step_106 (by decide +kernel) ?_
            exact W.iret (v := (-1)) hx hb hr (fun tt hth hW => ⟨⟨_, (), rfl, (fun _ => rfl), wg_h hth hP⟩, hS.F hth⟩) hS.2.2 d_M_step_107
          · rw [nI_leI (by omega) (by omega)] at h39
            refine lv_aload_n hx hb d_M_step_42 rfl (lv_at hl 0 rfl) ?_
            refine lv_iload_n hx hb d_M_step_43 rfl (lv_at hl 3 rfl) ?_
            refine lv_aload_n hx hb d_M_step_44 rfl (lv_at hl 0 rfl) ?_
            refine wg_gM hx hb hts hown hK hP 7 (by decide) (v := .ref (ad 7)) kf_M_23 rfl d_M_step_45 ?_
            refine lv_iload_n hx hb d_M_step_48 rfl (lv_at hl 1 rfl) ?_
            refine wg_ild (f := I 7) (j := j2) hx hb hK hP 5 rfl (by omega) (by decide) d_M_step_49 ?_
            have hB49 := hOW j2 (by omega)
            refine lv_aload_n hx hb d_M_step_50 rfl (lv_at hl 0 rfl) ?_
            refine wg_gM hx hb hts hown hK hP 8 (by decide) (v := .ref (ad 8)) kf_M_26 rfl d_M_step_51 ?_
            refine lv_iload_n hx hb d_M_step_54 rfl (lv_at hl 1 rfl) ?_
            refine wg_ild (f := I 8) (j := j2) hx hb hK hP 6 rfl (by omega) (by decide) d_M_step_55 ?_
            have hB55 := hOL j2 (by omega)
            refine wg_cvi (As := [.int (nI k), .int (nI (I 7 j2)), .int (nI (I 8 j2))]) (rest := []) hx hb hml hown hts hK hP (hD _) hS hA rfl rfl rfl (c_M_share l D cJ cI h0 ad _ I k (I 7 j2) (I 8 j2) (by omega) (by omega) (by omega) hI) kc_M_48 ⟨rfl, rfl⟩ ⟨Nat.le_of_ble_eq_true rfl, Nat.le_of_ble_eq_true rfl⟩ rfl hl.1 rfl (Nat.le_of_ble_eq_true rfl) d_M_step_56 ⟨Nat.zero_le _, Nat.zero_le _⟩ (fun r u56 tt H locs ht q56 hB _ _ hS => ?_)
            have hP : va_P D wg_cl (wg_WM cJ cI h0 ad I) H := by rw [← ht]; exact hB
            clear hB ht tt
            rcases q56 with ⟨rfl, hs56⟩ | ⟨rfl, hs56⟩
            · skip
              refine lv_if_eq (tgt := 100) hx hb d_M_step_59 (by decide) (fun h => absurd h (by decide +kernel)) (fun _ => ?_)
              refine lv_aload_n hx hb d_M_step_62 rfl (lv_at hl 0 rfl) ?_
              refine wg_gM hx hb hts hown hK hP 0 (by decide) (v := .ref (ad 0)) kf_M_7 rfl d_M_step_63 ?_
              refine lv_iload_n hx hb d_M_step_66 rfl (lv_at hl 3 rfl) ?_
              refine wg_lld (f := I 0) (j := k) hx hb hK hP 1 rfl (by omega) (by decide) d_M_step_67 ?_
              have hB67 := hw k (by omega)
              refine lv_aload_n hx hb d_M_step_68 rfl (lv_at hl 0 rfl) ?_
              refine wg_gM hx hb hts hown hK hP 8 (by decide) (v := .ref (ad 8)) kf_M_26 rfl d_M_step_69 ?_
              refine lv_iload_n hx hb d_M_step_72 rfl (lv_at hl 1 rfl) ?_
              refine wg_ild (f := I 8) (j := j2) hx hb hK hP 6 rfl (by omega) (by decide) d_M_step_73 ?_
              have hB73 := hOL j2 (by omega)
              refine wg_csi (As := [.long (lN (I 0 k)), .int (nI (I 8 j2))]) (rest := []) hx hb hml hown hts hK hP hS hA (c_M_letter l D cJ cI _ (I 0 k) (I 8 j2) (by omega) (by omega)) kc_M_36 ⟨rfl, rfl⟩ ⟨Nat.le_of_ble_eq_true rfl, Nat.le_of_ble_eq_true rfl⟩ rfl hl.1 rfl (Nat.le_of_ble_eq_true rfl) d_M_step_74 ⟨Nat.zero_le _, Nat.zero_le _⟩ (fun r H locs q74 hP hS => ?_)
              obtain rfl := q74
              have hq74 := wg_lt_le (I 0 k) (I 8 j2)
              refine lv_iload_n hx hb d_M_step_77 rfl (lv_at hl 2 rfl) ?_
              refine lv_icmp_ne (tgt := 100) hx hb d_M_step_78 (by decide) (fun h78 => ?_) (fun h78 => ?_)
              · refine lv_iinc (v := nI (k + 1)) (k := 3) (lv' := [(3, .int (nI (k + 1))), (0, .ref h0), (1, .int (nI j2)), (2, .int ch)]) hx hb d_M_step_100 hl rfl (nI_1 _) (by decide) rfl (fun ls hl => ?_)
                refine lv_goto (tgt := 34) hx hb d_M_step_103 (by decide) ?_
                exact ih34 (k + 1) 0 0 (fun _ _ => 0) _ _ _ ⟨(by omega), hP, hS, lv_sub hl [1, 2, 3, 0] rfl⟩ (by omega)
              · refine lv_aload_n hx hb d_M_step_81 rfl (lv_at hl 0 rfl) ?_
                refine wg_gM hx hb hts hown hK hP 6 (by decide) (v := .ref (ad 6)) kf_M_20 rfl d_M_step_82 ?_
                refine lv_bipush (v := (nI 13)) hx hb d_M_step_85 (by decide +kernel) ?_
                refine lv_iload_n hx hb d_M_step_87 rfl (lv_at hl 3 rfl) ?_
                refine t_imul (v := nI (13 * k)) hx hb d_M_step_88 (pk_mul _ _) ?_
                refine lv_aload_n hx hb d_M_step_89 rfl (lv_at hl 0 rfl) ?_
                refine wg_gM hx hb hts hown hK hP 8 (by decide) (v := .ref (ad 8)) kf_M_26 rfl d_M_step_90 ?_
                refine lv_iload_n hx hb d_M_step_93 rfl (lv_at hl 1 rfl) ?_
                refine wg_ild (f := I 8) (j := j2) hx hb hK hP 6 rfl (by omega) (by decide) d_M_step_94 ?_
                have hB94 := hOL j2 (by omega)
                refine t_iadd (v := nI ((13 * k) + (I 8 j2))) hx hb d_M_step_95 (nI_add _ _) ?_
                refine lv_iconst (v := (nI 1)) hx hb d_M_step_96 (by decide +kernel) ?_
                refine t_iadd (v := nI (((13 * k) + (I 8 j2)) + 1)) hx hb d_M_step_97 (nI_add _ _) ?_
                refine wg_ild (f := I 6) (j := (((13 * k) + (I 8 j2)) + 1)) hx hb hK hP 4 rfl (by omega) (by decide) d_M_step_98 ?_
                exact W.iret (v := (nI (I 6 (((13 * k) + (I 8 j2)) + 1)))) hx hb hr (fun tt hth hW => ⟨⟨_, (), rfl, (fun h => by omega), wg_h hth hP⟩, hS.F hth⟩) hS.2.2 d_M_step_99
            · skip
              refine lv_if_eq (tgt := 100) hx hb d_M_step_59 (by decide) (fun _ => ?_) (fun h => absurd h (by decide +kernel))
              refine lv_iinc (v := nI (k + 1)) (k := 3) (lv' := [(3, .int (nI (k + 1))), (0, .ref h0), (1, .int (nI j2)), (2, .int ch)]) hx hb d_M_step_100 hl rfl (nI_1 _) (by decide) rfl (fun ls hl => ?_)
              refine lv_goto (tgt := 34) hx hb d_M_step_103 (by decide) ?_
              exact ih34 (k + 1) 0 0 (fun _ _ => 0) _ _ _ ⟨(by omega), hP, hS, lv_sub hl [1, 2, 3, 0] rfl⟩ (by omega)
        · rw [nI_eq (by omega) (by omega)] at h27
          refine lv_iconst (v := (-1)) hx hb d_M_step_30 (by decide +kernel) ?_
          exact W.iret (v := (-1)) hx hb hr (fun tt hth hW => ⟨⟨_, (), rfl, (fun _ => rfl), wg_h hth hP⟩, hS.F hth⟩) hS.2.2 d_M_step_31
  · skip
    refine lv_if_eq (tgt := 30) hx hb d_M_step_5 (by decide) (fun _ => ?_) (fun h => absurd h (by decide +kernel))
    refine lv_iconst (v := (-1)) hx hb d_M_step_30 (by decide +kernel) ?_
    exact W.iret (v := (-1)) hx hb hr (fun tt hth hW => ⟨⟨_, (), rfl, (fun _ => rfl), wg_h hth hP⟩, hS.F hth⟩) hS.2.2 d_M_step_31
set_option maxHeartbeats 4000000 in
set_option maxRecDepth 100000 in
theorem c_M_ends (l : Launch) (D : va_G) (cJ cI : ClassId) (h0 : Nat) (ad : Nat → Nat) (sz : Nat) (I : wg_S) (x : Int32) (hI : wg_MI I) : Met l y_M_ends (wg_ws y_M_ends b_M_ends 3 (some .boolean)) ({ frames := 2, cells := 0, slots := 0, locals := 46 }) (va_Pc [.ref h0, .int x] (wg_Pc D cJ cI (wg_WM cJ cI h0 ad I) sz)) (va_Qi (fun (r : Int32) (u : Unit) => I 1 0 = 0 → r = nI 0) (fun (_ : Unit) t => va_P D wg_cl (wg_WM cJ cI h0 ad I) t.heap) (va_A (wg_WM cJ cI h0 ad I) sz)) 0 0 (va_A (wg_WM cJ cI h0 ad I) sz) := by
  refine wg_head (Wd := (fun I => wg_WM cJ cI h0 ad I)) (I := I) (fun A => va_Qi (fun (r : Int32) (u : Unit) => I 1 0 = 0 → r = nI 0) (fun (_ : Unit) t => va_P D wg_cl (wg_WM cJ cI h0 ad I) t.heap) A) R_M (by decide) rfl (Nat.le_of_ble_eq_true rfl) (fun I J => wg_same_M I J) ?_
  intro p e s m below meth c A ls hx hb hr hlk hml hown hnm hts hA hK hD hP hS hl hsz
  clear hsz
  have hl : lv_has ls 3 [(0, .ref h0), (1, .int x)] := hl
  have hP : va_P D wg_cl (wg_WM cJ cI h0 ad I) s.heap := hP
  skip
  have hI' := hI
  obtain ⟨hn, hse, hfd, hnd, hw, hOW, hOL⟩ := hI'
  refine lv_iconst (v := (nI 0)) hx hb d_M_ends_0 (by decide +kernel) ?_
  refine lv_istore_n (lv' := [(2, .int (nI 0)), (0, .ref h0), (1, .int x)]) hx hb d_M_ends_1 rfl hl (by decide) rfl (fun ls hl => ?_)
  refine wg_loop (fun k _ _ _ H locs ls => (k ≤ 48) ∧ va_P D wg_cl (wg_WM cJ cI h0 ad I) H ∧ va_S A s.heap H locs ∧ lv_has ls 3 [(0, .ref h0), (1, .int x), (2, .int (nI k))]) (fun k _ _ _ => 48 - k) (fun k _z0 _z1 _J H locs ls hI ih2 => ?_) 0 0 0 (fun _ _ => 0) _ _ _ ⟨(by omega), hP, hS, lv_sub hl [1, 2, 0] rfl⟩
  obtain ⟨hk, hP, hS, hl⟩ := hI
  refine lv_iload_n hx hb d_M_ends_2 rfl (lv_at hl 2 rfl) ?_
  refine lv_aload_n hx hb d_M_ends_3 rfl (lv_at hl 0 rfl) ?_
  refine wg_gM hx hb hts hown hK hP 1 (by decide) (v := .int (nI (I 1 0))) kf_M_32 rfl d_M_ends_4 ?_
  refine lv_icmp_ge (tgt := 64) hx hb d_M_ends_7 (by decide) (fun h7 => ?_) (fun h7 => ?_)
  · rw [nI_leI (by omega) (by omega)] at h7
    refine lv_iconst (v := (nI 0)) hx hb d_M_ends_64 (by decide +kernel) ?_
    exact W.zret (ty := .boolean) (v := (nI 0)) hx hb hr (by decide +kernel) (fun tt hth hW => ⟨⟨_, (), rfl, (fun _ => rfl), wg_h hth hP⟩, hS.F hth⟩) hS.2.2 d_M_ends_65
  · rw [nI_leI (by omega) (by omega)] at h7
    refine lv_aload_n hx hb d_M_ends_10 rfl (lv_at hl 0 rfl) ?_
    refine lv_iload_n hx hb d_M_ends_11 rfl (lv_at hl 1 rfl) ?_
    refine wg_cvi (As := [.int x]) (rest := []) hx hb hml hown hts hK hP (hD _) hS hA rfl rfl rfl (c_M_isNode l D cJ cI h0 ad _ I x (by omega)) kc_M_75 ⟨rfl, rfl⟩ ⟨Nat.le_of_ble_eq_true rfl, Nat.le_of_ble_eq_true rfl⟩ rfl hl.1 rfl (Nat.le_of_ble_eq_true rfl) d_M_ends_12 ⟨Nat.zero_le _, Nat.zero_le _⟩ (fun r u12 tt H locs ht q12 hB _ _ hS => ?_)
    have hP : va_P D wg_cl (wg_WM cJ cI h0 ad I) H := by rw [← ht]; exact hB
    clear hB ht tt
    rcases q12 with ⟨rfl, hz12a, hz12b, j12, hj12, rfl⟩ | ⟨rfl, hj12⟩
    · skip
      refine lv_if_eq (tgt := 58) hx hb d_M_ends_15 (by decide) (fun h => absurd h (by decide +kernel)) (fun _ => ?_)
      refine lv_aload_n hx hb d_M_ends_18 rfl (lv_at hl 0 rfl) ?_
      refine lv_iload_n hx hb d_M_ends_19 rfl (lv_at hl 2 rfl) ?_
      refine lv_aload_n hx hb d_M_ends_20 rfl (lv_at hl 0 rfl) ?_
      refine wg_gM hx hb hts hown hK hP 7 (by decide) (v := .ref (ad 7)) kf_M_23 rfl d_M_ends_21 ?_
      refine lv_iload_n hx hb d_M_ends_24 rfl (lv_at hl 1 rfl) ?_
      refine wg_ild (f := I 7) (j := j12) hx hb hK hP 5 rfl (by omega) (by decide) d_M_ends_25 ?_
      have hB25 := hOW j12 (by omega)
      refine lv_aload_n hx hb d_M_ends_26 rfl (lv_at hl 0 rfl) ?_
      refine wg_gM hx hb hts hown hK hP 8 (by decide) (v := .ref (ad 8)) kf_M_26 rfl d_M_ends_27 ?_
      refine lv_iload_n hx hb d_M_ends_30 rfl (lv_at hl 1 rfl) ?_
      refine wg_ild (f := I 8) (j := j12) hx hb hK hP 6 rfl (by omega) (by decide) d_M_ends_31 ?_
      have hB31 := hOL j12 (by omega)
      refine wg_cvi (As := [.int (nI k), .int (nI (I 7 j12)), .int (nI (I 8 j12))]) (rest := []) hx hb hml hown hts hK hP (hD _) hS hA rfl rfl rfl (c_M_share l D cJ cI h0 ad _ I k (I 7 j12) (I 8 j12) (by omega) (by omega) (by omega) hI) kc_M_48 ⟨rfl, rfl⟩ ⟨Nat.le_of_ble_eq_true rfl, Nat.le_of_ble_eq_true rfl⟩ rfl hl.1 rfl (Nat.le_of_ble_eq_true rfl) d_M_ends_32 ⟨Nat.zero_le _, Nat.zero_le _⟩ (fun r u32 tt H locs ht q32 hB _ _ hS => ?_)
      have hP : va_P D wg_cl (wg_WM cJ cI h0 ad I) H := by rw [← ht]; exact hB
      clear hB ht tt
      rcases q32 with ⟨rfl, hs32⟩ | ⟨rfl, hs32⟩
      · skip
        refine lv_if_eq (tgt := 58) hx hb d_M_ends_35 (by decide) (fun h => absurd h (by decide +kernel)) (fun _ => ?_)
        refine lv_aload_n hx hb d_M_ends_38 rfl (lv_at hl 0 rfl) ?_
        refine wg_gM hx hb hts hown hK hP 0 (by decide) (v := .ref (ad 0)) kf_M_7 rfl d_M_ends_39 ?_
        refine lv_iload_n hx hb d_M_ends_42 rfl (lv_at hl 2 rfl) ?_
        refine wg_lld (f := I 0) (j := k) hx hb hK hP 1 rfl (by omega) (by decide) d_M_ends_43 ?_
        have hB43 := hw k (by omega)
        refine wg_csi (As := [.long (lN (I 0 k))]) (rest := []) hx hb hml hown hts hK hP hS hA (c_M_length l D cJ cI _ (I 0 k) (by omega)) kc_M_52 ⟨rfl, rfl⟩ ⟨Nat.le_of_ble_eq_true rfl, Nat.le_of_ble_eq_true rfl⟩ rfl hl.1 rfl (Nat.le_of_ble_eq_true rfl) d_M_ends_44 ⟨Nat.zero_le _, Nat.zero_le _⟩ (fun r H locs q44 hP hS => ?_)
        obtain rfl := q44
        have hq44 := wg_ln_le (I 0 k)
        refine lv_aload_n hx hb d_M_ends_47 rfl (lv_at hl 0 rfl) ?_
        refine wg_gM hx hb hts hown hK hP 8 (by decide) (v := .ref (ad 8)) kf_M_26 rfl d_M_ends_48 ?_
        refine lv_iload_n hx hb d_M_ends_51 rfl (lv_at hl 1 rfl) ?_
        refine wg_ild (f := I 8) (j := j12) hx hb hK hP 6 rfl (by omega) (by decide) d_M_ends_52 ?_
        have hB52 := hOL j12 (by omega)
        refine lv_icmp_ne (tgt := 58) hx hb d_M_ends_53 (by decide) (fun h53 => ?_) (fun h53 => ?_)
        · rw [nI_eq (by omega) (by omega)] at h53
          refine lv_iinc (v := nI (k + 1)) (k := 2) (lv' := [(2, .int (nI (k + 1))), (0, .ref h0), (1, .int (nI j12))]) hx hb d_M_ends_58 hl rfl (nI_1 _) (by decide) rfl (fun ls hl => ?_)
          refine lv_goto (tgt := 2) hx hb d_M_ends_61 (by decide) ?_
          exact ih2 (k + 1) 0 0 (fun _ _ => 0) _ _ _ ⟨(by omega), hP, hS, lv_sub hl [1, 2, 0] rfl⟩ (by omega)
        · rw [nI_eq (by omega) (by omega)] at h53
          refine lv_iconst (v := (nI 1)) hx hb d_M_ends_56 (by decide +kernel) ?_
          exact W.zret (ty := .boolean) (v := (nI 1)) hx hb hr (by decide +kernel) (fun tt hth hW => ⟨⟨_, (), rfl, (fun h => by omega), wg_h hth hP⟩, hS.F hth⟩) hS.2.2 d_M_ends_57
      · skip
        refine lv_if_eq (tgt := 58) hx hb d_M_ends_35 (by decide) (fun _ => ?_) (fun h => absurd h (by decide +kernel))
        refine lv_iinc (v := nI (k + 1)) (k := 2) (lv' := [(2, .int (nI (k + 1))), (0, .ref h0), (1, .int (nI j12))]) hx hb d_M_ends_58 hl rfl (nI_1 _) (by decide) rfl (fun ls hl => ?_)
        refine lv_goto (tgt := 2) hx hb d_M_ends_61 (by decide) ?_
        exact ih2 (k + 1) 0 0 (fun _ _ => 0) _ _ _ ⟨(by omega), hP, hS, lv_sub hl [1, 2, 0] rfl⟩ (by omega)
    · skip
      refine lv_if_eq (tgt := 58) hx hb d_M_ends_15 (by decide) (fun _ => ?_) (fun h => absurd h (by decide +kernel))
      refine lv_iinc (v := nI (k + 1)) (k := 2) (lv' := [(2, .int (nI (k + 1))), (0, .ref h0), (1, .int x)]) hx hb d_M_ends_58 hl rfl (nI_1 _) (by decide) rfl (fun ls hl => ?_)
      refine lv_goto (tgt := 2) hx hb d_M_ends_61 (by decide) ?_
      exact ih2 (k + 1) 0 0 (fun _ _ => 0) _ _ _ ⟨(by omega), hP, hS, lv_sub hl [1, 2, 0] rfl⟩ (by omega)
set_option maxHeartbeats 4000000 in
set_option maxRecDepth 100000 in
theorem c_M_endings (l : Launch) (D : va_G) (cJ cI : ClassId) (h0 : Nat) (ad : Nat → Nat) (sz : Nat) (I : wg_S) (x : Int32) (hI : wg_MI I) : Met l y_M_endings (wg_ws y_M_endings b_M_endings 4 (some .int)) ({ frames := 2, cells := 0, slots := 0, locals := 46 }) (va_Pc [.ref h0, .int x] (wg_Pc D cJ cI (wg_WM cJ cI h0 ad I) sz)) (va_Qi (fun (r : Int32) (u : Unit) => I 1 0 = 0 → r = nI 0) (fun (_ : Unit) t => va_P D wg_cl (wg_WM cJ cI h0 ad I) t.heap) (va_A (wg_WM cJ cI h0 ad I) sz)) 0 0 (va_A (wg_WM cJ cI h0 ad I) sz) := by
  refine wg_head (Wd := (fun I => wg_WM cJ cI h0 ad I)) (I := I) (fun A => va_Qi (fun (r : Int32) (u : Unit) => I 1 0 = 0 → r = nI 0) (fun (_ : Unit) t => va_P D wg_cl (wg_WM cJ cI h0 ad I) t.heap) A) R_M (by decide) rfl (Nat.le_of_ble_eq_true rfl) (fun I J => wg_same_M I J) ?_
  intro p e s m below meth c A ls hx hb hr hlk hml hown hnm hts hA hK hD hP hS hl hsz
  clear hsz
  have hl : lv_has ls 4 [(0, .ref h0), (1, .int x)] := hl
  have hP : va_P D wg_cl (wg_WM cJ cI h0 ad I) s.heap := hP
  skip
  have hI' := hI
  obtain ⟨hn, hse, hfd, hnd, hw, hOW, hOL⟩ := hI'
  refine lv_iconst (v := (nI 0)) hx hb d_M_endings_0 (by decide +kernel) ?_
  refine lv_istore_n (lv' := [(2, .int (nI 0)), (0, .ref h0), (1, .int x)]) hx hb d_M_endings_1 rfl hl (by decide) rfl (fun ls hl => ?_)
  refine lv_iconst (v := (nI 0)) hx hb d_M_endings_2 (by decide +kernel) ?_
  refine lv_istore_n (lv' := [(3, .int (nI 0)), (2, .int (nI 0)), (0, .ref h0), (1, .int x)]) hx hb d_M_endings_3 rfl hl (by decide) rfl (fun ls hl => ?_)
  refine wg_loop (fun k cnt _ _ H locs ls => (k ≤ 48) ∧ (I 1 0 = 0 → cnt = 0) ∧ va_P D wg_cl (wg_WM cJ cI h0 ad I) H ∧ va_S A s.heap H locs ∧ lv_has ls 4 [(0, .ref h0), (1, .int x), (2, .int (nI cnt)), (3, .int (nI k))]) (fun k cnt _ _ => 48 - k) (fun k cnt _z0 _J H locs ls hI ih4 => ?_) 0 0 0 (fun _ _ => 0) _ _ _ ⟨(by omega), (by omega), hP, hS, lv_sub hl [2, 3, 1, 0] rfl⟩
  obtain ⟨hk, hcnt, hP, hS, hl⟩ := hI
  refine lv_iload_n hx hb d_M_endings_4 rfl (lv_at hl 3 rfl) ?_
  refine lv_aload_n hx hb d_M_endings_5 rfl (lv_at hl 0 rfl) ?_
  refine wg_gM hx hb hts hown hK hP 1 (by decide) (v := .int (nI (I 1 0))) kf_M_32 rfl d_M_endings_6 ?_
  refine lv_icmp_ge (tgt := 50) hx hb d_M_endings_9 (by decide) (fun h9 => ?_) (fun h9 => ?_)
  · rw [nI_leI (by omega) (by omega)] at h9
    refine lv_iload_n hx hb d_M_endings_50 rfl (lv_at hl 2 rfl) ?_
    exact W.iret (v := (nI cnt)) hx hb hr (fun tt hth hW => ⟨⟨_, (), rfl, (fun h => by rw [show cnt = 0 by omega]), wg_h hth hP⟩, hS.F hth⟩) hS.2.2 d_M_endings_51
  · rw [nI_leI (by omega) (by omega)] at h9
    refine lv_aload_n hx hb d_M_endings_12 rfl (lv_at hl 0 rfl) ?_
    refine lv_iload_n hx hb d_M_endings_13 rfl (lv_at hl 1 rfl) ?_
    refine wg_cvi (As := [.int x]) (rest := []) hx hb hml hown hts hK hP (hD _) hS hA rfl rfl rfl (c_M_isNode l D cJ cI h0 ad _ I x (by omega)) kc_M_75 ⟨rfl, rfl⟩ ⟨Nat.le_of_ble_eq_true rfl, Nat.le_of_ble_eq_true rfl⟩ rfl hl.1 rfl (Nat.le_of_ble_eq_true rfl) d_M_endings_14 ⟨Nat.zero_le _, Nat.zero_le _⟩ (fun r u14 tt H locs ht q14 hB _ _ hS => ?_)
    have hP : va_P D wg_cl (wg_WM cJ cI h0 ad I) H := by rw [← ht]; exact hB
    clear hB ht tt
    rcases q14 with ⟨rfl, hz14a, hz14b, j14, hj14, rfl⟩ | ⟨rfl, hj14⟩
    · skip
      refine lv_if_eq (tgt := 44) hx hb d_M_endings_17 (by decide) (fun h => absurd h (by decide +kernel)) (fun _ => ?_)
      refine lv_aload_n hx hb d_M_endings_20 rfl (lv_at hl 0 rfl) ?_
      refine lv_iload_n hx hb d_M_endings_21 rfl (lv_at hl 3 rfl) ?_
      refine lv_aload_n hx hb d_M_endings_22 rfl (lv_at hl 0 rfl) ?_
      refine wg_gM hx hb hts hown hK hP 7 (by decide) (v := .ref (ad 7)) kf_M_23 rfl d_M_endings_23 ?_
      refine lv_iload_n hx hb d_M_endings_26 rfl (lv_at hl 1 rfl) ?_
      refine wg_ild (f := I 7) (j := j14) hx hb hK hP 5 rfl (by omega) (by decide) d_M_endings_27 ?_
      have hB27 := hOW j14 (by omega)
      refine lv_aload_n hx hb d_M_endings_28 rfl (lv_at hl 0 rfl) ?_
      refine wg_gM hx hb hts hown hK hP 8 (by decide) (v := .ref (ad 8)) kf_M_26 rfl d_M_endings_29 ?_
      refine lv_iload_n hx hb d_M_endings_32 rfl (lv_at hl 1 rfl) ?_
      refine wg_ild (f := I 8) (j := j14) hx hb hK hP 6 rfl (by omega) (by decide) d_M_endings_33 ?_
      have hB33 := hOL j14 (by omega)
      refine wg_cvi (As := [.int (nI k), .int (nI (I 7 j14)), .int (nI (I 8 j14))]) (rest := []) hx hb hml hown hts hK hP (hD _) hS hA rfl rfl rfl (c_M_share l D cJ cI h0 ad _ I k (I 7 j14) (I 8 j14) (by omega) (by omega) (by omega) hI) kc_M_48 ⟨rfl, rfl⟩ ⟨Nat.le_of_ble_eq_true rfl, Nat.le_of_ble_eq_true rfl⟩ rfl hl.1 rfl (Nat.le_of_ble_eq_true rfl) d_M_endings_34 ⟨Nat.zero_le _, Nat.zero_le _⟩ (fun r u34 tt H locs ht q34 hB _ _ hS => ?_)
      have hP : va_P D wg_cl (wg_WM cJ cI h0 ad I) H := by rw [← ht]; exact hB
      clear hB ht tt
      rcases q34 with ⟨rfl, hs34⟩ | ⟨rfl, hs34⟩
      · skip
        refine lv_if_eq (tgt := 44) hx hb d_M_endings_37 (by decide) (fun h => absurd h (by decide +kernel)) (fun _ => ?_)
        refine lv_iload_n hx hb d_M_endings_40 rfl (lv_at hl 2 rfl) ?_
        refine lv_iconst (v := (nI 1)) hx hb d_M_endings_41 (by decide +kernel) ?_
        refine t_iadd (v := nI (cnt + 1)) hx hb d_M_endings_42 (nI_add _ _) ?_
        refine lv_istore_n (lv' := [(2, .int (nI (cnt + 1))), (0, .ref h0), (1, .int (nI j14)), (3, .int (nI k))]) hx hb d_M_endings_43 rfl hl (by decide) rfl (fun ls hl => ?_)
        refine lv_iinc (v := nI (k + 1)) (k := 3) (lv' := [(3, .int (nI (k + 1))), (2, .int (nI (cnt + 1))), (0, .ref h0), (1, .int (nI j14))]) hx hb d_M_endings_44 hl rfl (nI_1 _) (by decide) rfl (fun ls hl => ?_)
        refine lv_goto (tgt := 4) hx hb d_M_endings_47 (by decide) ?_
        exact ih4 (k + 1) (cnt + 1) 0 (fun _ _ => 0) _ _ _ ⟨(by omega), (by omega), hP, hS, lv_sub hl [2, 3, 1, 0] rfl⟩ (by omega)
      · skip
        refine lv_if_eq (tgt := 44) hx hb d_M_endings_37 (by decide) (fun _ => ?_) (fun h => absurd h (by decide +kernel))
        refine lv_iinc (v := nI (k + 1)) (k := 3) (lv' := [(3, .int (nI (k + 1))), (0, .ref h0), (1, .int (nI j14)), (2, .int (nI cnt))]) hx hb d_M_endings_44 hl rfl (nI_1 _) (by decide) rfl (fun ls hl => ?_)
        refine lv_goto (tgt := 4) hx hb d_M_endings_47 (by decide) ?_
        exact ih4 (k + 1) cnt 0 (fun _ _ => 0) _ _ _ ⟨(by omega), (by omega), hP, hS, lv_sub hl [1, 2, 3, 0] rfl⟩ (by omega)
    · skip
      refine lv_if_eq (tgt := 44) hx hb d_M_endings_17 (by decide) (fun _ => ?_) (fun h => absurd h (by decide +kernel))
      refine lv_iinc (v := nI (k + 1)) (k := 3) (lv' := [(3, .int (nI (k + 1))), (0, .ref h0), (1, .int x), (2, .int (nI cnt))]) hx hb d_M_endings_44 hl rfl (nI_1 _) (by decide) rfl (fun ls hl => ?_)
      refine lv_goto (tgt := 4) hx hb d_M_endings_47 (by decide) ?_
      exact ih4 (k + 1) cnt 0 (fun _ _ => 0) _ _ _ ⟨(by omega), (by omega), hP, hS, lv_sub hl [1, 2, 3, 0] rfl⟩ (by omega)
set_option maxHeartbeats 4000000 in
set_option maxRecDepth 100000 in
theorem c_M_between (l : Launch) (D : va_G) (cJ cI : ClassId) (h0 : Nat) (ad : Nat → Nat) (sz : Nat) (I : wg_S) (a : Nat) (b : Nat) (ha : a < 2 ^ 60) (hb60 : b < 2 ^ 60) : Met l y_M_between (wg_ws y_M_between b_M_between 10 (some .int)) ({ frames := 2, cells := 0, slots := 0, locals := 45 }) (va_Pc [.ref h0, .long (lN a), .long (lN b)] (wg_Pc D cJ cI (wg_WM cJ cI h0 ad I) sz)) (va_Qi (fun (r : Int32) (u : wg_S) => r = nI (wg_bt a b (wg_ln a) (wg_ln b)) ∧ (∀ j, ¬ j = 10 → u j = I j)) (fun (u : wg_S) t => va_P D wg_cl (wg_WM cJ cI h0 ad u) t.heap) (va_A (wg_WM cJ cI h0 ad I) sz)) 0 0 (va_A (wg_WM cJ cI h0 ad I) sz) := by
  refine wg_head (Wd := (fun I => wg_WM cJ cI h0 ad I)) (I := I) (fun A => va_Qi (fun (r : Int32) (u : wg_S) => r = nI (wg_bt a b (wg_ln a) (wg_ln b)) ∧ (∀ j, ¬ j = 10 → u j = I j)) (fun (u : wg_S) t => va_P D wg_cl (wg_WM cJ cI h0 ad u) t.heap) A) R_M (by decide) rfl (Nat.le_of_ble_eq_true rfl) (fun I J => wg_same_M I J) ?_
  intro p e s m below meth c A ls hx hb hr hlk hml hown hnm hts hA hK hD hP hS hl hsz
  clear hsz
  have hl : lv_has ls 10 [(0, .ref h0), (1, .long (lN a)), (3, .long (lN b))] := hl
  have hP : va_P D wg_cl (wg_WM cJ cI h0 ad I) s.heap := hP
  skip
  refine lv_lload_n hx hb d_M_between_0 rfl (lv_at hl 1 rfl) ?_
  refine wg_csi (As := [.long (lN a)]) (rest := []) hx hb hml hown hts hK hP hS hA (c_M_length l D cJ cI _ a (by omega)) kc_M_52 ⟨rfl, rfl⟩ ⟨Nat.le_of_ble_eq_true rfl, Nat.le_of_ble_eq_true rfl⟩ rfl hl.1 rfl (Nat.le_of_ble_eq_true rfl) d_M_between_1 ⟨Nat.zero_le _, Nat.zero_le _⟩ (fun r H locs q1 hP hS => ?_)
  obtain rfl := q1
  have hq1 := wg_ln_le a
  refine lv_istore (lv' := [(5, .int (nI (wg_ln a))), (0, .ref h0), (1, .long (lN a)), (3, .long (lN b))]) hx hb d_M_between_4 hl (by decide) rfl (fun ls hl => ?_)
  refine lv_lload_n hx hb d_M_between_6 rfl (lv_at hl 3 rfl) ?_
  refine wg_csi (As := [.long (lN b)]) (rest := []) hx hb hml hown hts hK hP hS hA (c_M_length l D cJ cI _ b (by omega)) kc_M_52 ⟨rfl, rfl⟩ ⟨Nat.le_of_ble_eq_true rfl, Nat.le_of_ble_eq_true rfl⟩ rfl hl.1 rfl (Nat.le_of_ble_eq_true rfl) d_M_between_7 ⟨Nat.zero_le _, Nat.zero_le _⟩ (fun r H locs q7 hP hS => ?_)
  obtain rfl := q7
  have hq7 := wg_ln_le b
  refine lv_istore (lv' := [(6, .int (nI (wg_ln b))), (5, .int (nI (wg_ln a))), (0, .ref h0), (1, .long (lN a)), (3, .long (lN b))]) hx hb d_M_between_10 hl (by decide) rfl (fun ls hl => ?_)
  refine lv_iconst (v := (nI 0)) hx hb d_M_between_12 (by decide +kernel) ?_
  refine lv_istore (lv' := [(7, .int (nI 0)), (6, .int (nI (wg_ln b))), (5, .int (nI (wg_ln a))), (0, .ref h0), (1, .long (lN a)), (3, .long (lN b))]) hx hb d_M_between_13 hl (by decide) rfl (fun ls hl => ?_)
  refine wg_loop (fun i _ _ J H locs ls => (i ≤ wg_ln a + 1) ∧ (∀ j, ¬ j = 10 → J j = I j) ∧ (∀ x y, x < i → y ≤ wg_ln b → J 10 (13 * x + y) = wg_bt a b x y) ∧ va_P D wg_cl (wg_WM cJ cI h0 ad J) H ∧ va_S A s.heap H locs ∧ lv_has ls 10 [(0, .ref h0), (1, .long (lN a)), (3, .long (lN b)), (5, .int (nI (wg_ln a))), (6, .int (nI (wg_ln b))), (7, .int (nI i))]) (fun i _ _ J => 13 - i) (fun i _z0 _z1 J H locs ls hI ih15 => ?_) 0 0 0 I _ _ _ ⟨(by omega), (fun _ _ => rfl), (fun x y h => by omega), hP, hS, lv_sub hl [3, 4, 5, 2, 1, 0] rfl⟩
  obtain ⟨hi, hJo, hfl, hP, hS, hl⟩ := hI
  refine lv_iload hx hb d_M_between_15 (lv_at hl 5 rfl) ?_
  refine lv_iload hx hb d_M_between_17 (lv_at hl 3 rfl) ?_
  refine lv_icmp_gt (tgt := 205) hx hb d_M_between_19 (by decide) (fun h19 => ?_) (fun h19 => ?_)
  · rw [nI_ltI (by omega) (by omega)] at h19
    refine lv_aload_n hx hb d_M_between_205 rfl (lv_at hl 0 rfl) ?_
    refine wg_gM hx hb hts hown hK hP 10 (by decide) (v := .ref (ad 10)) kf_M_29 rfl d_M_between_206 ?_
    refine lv_bipush (v := (nI 13)) hx hb d_M_between_209 (by decide +kernel) ?_
    refine lv_iload hx hb d_M_between_211 (lv_at hl 3 rfl) ?_
    refine t_imul (v := nI (13 * (wg_ln a))) hx hb d_M_between_213 (pk_mul _ _) ?_
    refine lv_iload hx hb d_M_between_214 (lv_at hl 4 rfl) ?_
    refine t_iadd (v := nI ((13 * (wg_ln a)) + (wg_ln b))) hx hb d_M_between_216 (nI_add _ _) ?_
    refine wg_ild (f := J 10) (j := ((13 * (wg_ln a)) + (wg_ln b))) hx hb hK hP 7 rfl (by omega) (by decide) d_M_between_217 ?_
    exact W.iret (v := (nI (J 10 ((13 * (wg_ln a)) + (wg_ln b))))) hx hb hr (fun tt hth hW => ⟨⟨_, J, rfl, ⟨by rw [hfl _ _ (by omega) (by omega)], hJo⟩, wg_h hth hP⟩, hS.F hth⟩) hS.2.2 d_M_between_218
  · rw [nI_ltI (by omega) (by omega)] at h19
    refine lv_iconst (v := (nI 0)) hx hb d_M_between_22 (by decide +kernel) ?_
    refine lv_istore (lv' := [(8, .int (nI 0)), (0, .ref h0), (1, .long (lN a)), (3, .long (lN b)), (5, .int (nI (wg_ln a))), (6, .int (nI (wg_ln b))), (7, .int (nI i))]) hx hb d_M_between_23 hl (by decide) rfl (fun ls hl => ?_)
    refine wg_loop (fun j _ _ K H locs ls => (j ≤ wg_ln b + 1) ∧ (∀ j, ¬ j = 10 → K j = I j) ∧ (∀ x y, x < i → y ≤ wg_ln b → K 10 (13 * x + y) = wg_bt a b x y) ∧ (∀ y, y < j → K 10 (13 * i + y) = wg_bt a b i y) ∧ va_P D wg_cl (wg_WM cJ cI h0 ad K) H ∧ va_S A s.heap H locs ∧ lv_has ls 10 [(0, .ref h0), (1, .long (lN a)), (3, .long (lN b)), (5, .int (nI (wg_ln a))), (6, .int (nI (wg_ln b))), (7, .int (nI i)), (8, .int (nI j))]) (fun j _ _ K => 13 - j) (fun j _z0 _z1 K H locs ls hI ih25 => ?_) 0 0 0 J _ _ _ ⟨(by omega), hJo, hfl, (fun y h => by omega), hP, hS, lv_sub hl [1, 2, 3, 4, 5, 6, 0] rfl⟩
    obtain ⟨hj, hKo, hf1, hf2, hP, hS, hl⟩ := hI
    refine lv_iload hx hb d_M_between_25 (lv_at hl 6 rfl) ?_
    refine lv_iload hx hb d_M_between_27 (lv_at hl 4 rfl) ?_
    refine lv_icmp_gt (tgt := 199) hx hb d_M_between_29 (by decide) (fun h29 => ?_) (fun h29 => ?_)
    · rw [nI_ltI (by omega) (by omega)] at h29
      refine lv_iinc (v := nI (i + 1)) (k := 5) (lv' := [(7, .int (nI (i + 1))), (0, .ref h0), (1, .long (lN a)), (3, .long (lN b)), (5, .int (nI (wg_ln a))), (6, .int (nI (wg_ln b))), (8, .int (nI j))]) hx hb d_M_between_199 hl rfl (nI_1 _) (by decide) rfl (fun ls hl => ?_)
      refine lv_goto (tgt := 15) hx hb d_M_between_202 (by decide) ?_
      exact ih15 (i + 1) 0 0 K _ _ _ ⟨(by omega), hKo, (fun x y h1 h2 => by rcases Nat.lt_succ_iff_lt_or_eq.mp h1 with h | rfl; exact hf1 x y h h2; exact hf2 y (by omega)), hP, hS, lv_sub hl [1, 2, 3, 4, 5, 0] rfl⟩ (by omega)
    · rw [nI_ltI (by omega) (by omega)] at h29
      refine lv_iload hx hb d_M_between_32 (lv_at hl 5 rfl) ?_
      refine lv_iload hx hb d_M_between_34 (lv_at hl 6 rfl) ?_
      refine t_iadd (v := nI (i + j)) hx hb d_M_between_36 (nI_add _ _) ?_
      refine lv_istore (lv' := [(9, .int (nI (i + j))), (0, .ref h0), (1, .long (lN a)), (3, .long (lN b)), (5, .int (nI (wg_ln a))), (6, .int (nI (wg_ln b))), (7, .int (nI i)), (8, .int (nI j))]) hx hb d_M_between_37 hl (by decide) rfl (fun ls hl => ?_)
      refine lv_iload hx hb d_M_between_39 (lv_at hl 6 rfl) ?_
      refine lv_if_le (tgt := 178) hx hb d_M_between_41 (by decide) (fun h41 => ?_) (fun h41 => ?_)
      · rw [wg_le0 (by omega)] at h41
        have hbest : i + j = wg_bt a b i j := by first | (rw [h41, wg_bt_0]; omega) | (rw [h46, wg_bt_i]; omega) | (rw [wg_bt_p (by omega) (by omega), ← e1, ← e2, ← e3]; first | (rw [if_pos h83]; omega) | (rw [if_neg h83]; omega))
        refine lv_aload_n hx hb d_M_between_178 rfl (lv_at hl 1 rfl) ?_
        refine wg_gM hx hb hts hown hK hP 10 (by decide) (v := .ref (ad 10)) kf_M_29 rfl d_M_between_179 ?_
        refine lv_bipush (v := (nI 13)) hx hb d_M_between_182 (by decide +kernel) ?_
        refine lv_iload hx hb d_M_between_184 (lv_at hl 6 rfl) ?_
        refine t_imul (v := nI (13 * i)) hx hb d_M_between_186 (pk_mul _ _) ?_
        refine lv_iload hx hb d_M_between_187 (lv_at hl 7 rfl) ?_
        refine t_iadd (v := nI ((13 * i) + j)) hx hb d_M_between_189 (nI_add _ _) ?_
        refine lv_iload hx hb d_M_between_190 (lv_at hl 0 rfl) ?_
        refine wg_sM10 (j := ((13 * i) + j)) (x := (i + j)) hx hb hK hP hD hS (by omega) d_M_between_192 (fun H locs hP hS => ?_)
        refine lv_iinc (v := nI (j + 1)) (k := 7) (lv' := [(8, .int (nI (j + 1))), (9, .int (nI (i + j))), (0, .ref h0), (1, .long (lN a)), (3, .long (lN b)), (5, .int (nI (wg_ln a))), (6, .int (nI (wg_ln b))), (7, .int (nI i))]) hx hb d_M_between_193 hl rfl (nI_1 _) (by decide) rfl (fun ls hl => ?_)
        refine lv_goto (tgt := 25) hx hb d_M_between_196 (by decide) ?_
        exact ih25 (j + 1) 0 0 (wg_st K 10 ((13 * i) + j) (i + j)) _ _ _ ⟨(by omega), (fun j h => (wg_st_o _ _ _ _ h).trans (hKo j h)), (fun x y h1 h2 => (wg_st_n _ _ _ _ (by omega)).trans (hf1 x y h1 h2)), (fun y h => by rcases Nat.lt_succ_iff_lt_or_eq.mp h with h | rfl; exact (wg_st_n _ _ _ _ (by omega)).trans (hf2 y h); exact (wg_st_s _ _ _ _).trans hbest), hP, hS, lv_sub hl [2, 3, 4, 5, 6, 7, 0] rfl⟩ (by omega)
      · rw [wg_le0 (by omega)] at h41
        refine lv_iload hx hb d_M_between_44 (lv_at hl 7 rfl) ?_
        refine lv_if_le (tgt := 178) hx hb d_M_between_46 (by decide) (fun h46 => ?_) (fun h46 => ?_)
        · rw [wg_le0 (by omega)] at h46
          have hbest : i + j = wg_bt a b i j := by first | (rw [h41, wg_bt_0]; omega) | (rw [h46, wg_bt_i]; omega) | (rw [wg_bt_p (by omega) (by omega), ← e1, ← e2, ← e3]; first | (rw [if_pos h83]; omega) | (rw [if_neg h83]; omega))
          refine lv_aload_n hx hb d_M_between_178 rfl (lv_at hl 1 rfl) ?_
          refine wg_gM hx hb hts hown hK hP 10 (by decide) (v := .ref (ad 10)) kf_M_29 rfl d_M_between_179 ?_
          refine lv_bipush (v := (nI 13)) hx hb d_M_between_182 (by decide +kernel) ?_
          refine lv_iload hx hb d_M_between_184 (lv_at hl 6 rfl) ?_
          refine t_imul (v := nI (13 * i)) hx hb d_M_between_186 (pk_mul _ _) ?_
          refine lv_iload hx hb d_M_between_187 (lv_at hl 7 rfl) ?_
          refine t_iadd (v := nI ((13 * i) + j)) hx hb d_M_between_189 (nI_add _ _) ?_
          refine lv_iload hx hb d_M_between_190 (lv_at hl 0 rfl) ?_
          refine wg_sM10 (j := ((13 * i) + j)) (x := (i + j)) hx hb hK hP hD hS (by omega) d_M_between_192 (fun H locs hP hS => ?_)
          refine lv_iinc (v := nI (j + 1)) (k := 7) (lv' := [(8, .int (nI (j + 1))), (9, .int (nI (i + j))), (0, .ref h0), (1, .long (lN a)), (3, .long (lN b)), (5, .int (nI (wg_ln a))), (6, .int (nI (wg_ln b))), (7, .int (nI i))]) hx hb d_M_between_193 hl rfl (nI_1 _) (by decide) rfl (fun ls hl => ?_)
          refine lv_goto (tgt := 25) hx hb d_M_between_196 (by decide) ?_
          exact ih25 (j + 1) 0 0 (wg_st K 10 ((13 * i) + j) (i + j)) _ _ _ ⟨(by omega), (fun j h => (wg_st_o _ _ _ _ h).trans (hKo j h)), (fun x y h1 h2 => (wg_st_n _ _ _ _ (by omega)).trans (hf1 x y h1 h2)), (fun y h => by rcases Nat.lt_succ_iff_lt_or_eq.mp h with h | rfl; exact (wg_st_n _ _ _ _ (by omega)).trans (hf2 y h); exact (wg_st_s _ _ _ _).trans hbest), hP, hS, lv_sub hl [2, 3, 4, 5, 6, 7, 0] rfl⟩ (by omega)
        · rw [wg_le0 (by omega)] at h46
          have e1 : K 10 (13 * i - 13 + j - 1) = wg_bt a b (i - 1) (j - 1) := by rw [show 13 * i - 13 + j - 1 = 13 * (i - 1) + (j - 1) by omega]; exact hf1 _ _ (by omega) (by omega)
          have e2 : K 10 (13 * i - 13 + j) = wg_bt a b (i - 1) j := by rw [show 13 * i - 13 + j = 13 * (i - 1) + j by omega]; exact hf1 _ _ (by omega) (by omega)
          have e3 : K 10 (13 * i + j - 1) = wg_bt a b i (j - 1) := by rw [show 13 * i + j - 1 = 13 * i + (j - 1) by omega]; exact hf2 _ (by omega)
          have l1 := wg_bt_le a b (i - 1) (j - 1)
          have l2 := wg_bt_le a b (i - 1) j
          have l3 := wg_bt_le a b i (j - 1)
          refine lv_aload_n hx hb d_M_between_49 rfl (lv_at hl 1 rfl) ?_
          refine wg_gM hx hb hts hown hK hP 10 (by decide) (v := .ref (ad 10)) kf_M_29 rfl d_M_between_50 ?_
          refine lv_bipush (v := (nI 13)) hx hb d_M_between_53 (by decide +kernel) ?_
          refine lv_iload hx hb d_M_between_55 (lv_at hl 6 rfl) ?_
          refine t_imul (v := nI (13 * i)) hx hb d_M_between_57 (pk_mul _ _) ?_
          refine lv_bipush (v := (nI 13)) hx hb d_M_between_58 (by decide +kernel) ?_
          refine t_isub (v := nI ((13 * i) - 13)) hx hb d_M_between_60 (pk_sub (by omega)) ?_
          refine lv_iload hx hb d_M_between_61 (lv_at hl 7 rfl) ?_
          refine t_iadd (v := nI (((13 * i) - 13) + j)) hx hb d_M_between_63 (nI_add _ _) ?_
          refine lv_iconst (v := (nI 1)) hx hb d_M_between_64 (by decide +kernel) ?_
          refine t_isub (v := nI ((((13 * i) - 13) + j) - 1)) hx hb d_M_between_65 (pk_sub (by omega)) ?_
          refine wg_ild (f := K 10) (j := ((((13 * i) - 13) + j) - 1)) hx hb hK hP 7 rfl (by omega) (by decide) d_M_between_66 ?_
          refine lv_lload_n hx hb d_M_between_67 rfl (lv_at hl 2 rfl) ?_
          refine lv_iload hx hb d_M_between_68 (lv_at hl 6 rfl) ?_
          refine lv_iconst (v := (nI 1)) hx hb d_M_between_70 (by decide +kernel) ?_
          refine t_isub (v := nI (i - 1)) hx hb d_M_between_71 (pk_sub (by omega)) ?_
          refine wg_csi (As := [.long (lN a), .int (nI (i - 1))]) (rest := [.int (nI (K 10 ((((13 * i) - 13) + j) - 1)))]) hx hb hml hown hts hK hP hS hA (c_M_letter l D cJ cI _ a (i - 1) (by omega) (by omega)) kc_M_36 ⟨rfl, rfl⟩ ⟨Nat.le_of_ble_eq_true rfl, Nat.le_of_ble_eq_true rfl⟩ rfl hl.1 rfl (Nat.le_of_ble_eq_true rfl) d_M_between_72 ⟨Nat.zero_le _, Nat.zero_le _⟩ (fun r H locs q72 hP hS => ?_)
          obtain rfl := q72
          have hq72 := wg_lt_le a (i - 1)
          refine lv_lload_n hx hb d_M_between_75 rfl (lv_at hl 3 rfl) ?_
          refine lv_iload hx hb d_M_between_76 (lv_at hl 7 rfl) ?_
          refine lv_iconst (v := (nI 1)) hx hb d_M_between_78 (by decide +kernel) ?_
          refine t_isub (v := nI (j - 1)) hx hb d_M_between_79 (pk_sub (by omega)) ?_
          refine wg_csi (As := [.long (lN b), .int (nI (j - 1))]) (rest := [.int (nI (wg_lt a (i - 1))), .int (nI (K 10 ((((13 * i) - 13) + j) - 1)))]) hx hb hml hown hts hK hP hS hA (c_M_letter l D cJ cI _ b (j - 1) (by omega) (by omega)) kc_M_36 ⟨rfl, rfl⟩ ⟨Nat.le_of_ble_eq_true rfl, Nat.le_of_ble_eq_true rfl⟩ rfl hl.1 rfl (Nat.le_of_ble_eq_true rfl) d_M_between_80 ⟨Nat.zero_le _, Nat.zero_le _⟩ (fun r H locs q80 hP hS => ?_)
          obtain rfl := q80
          have hq80 := wg_lt_le b (j - 1)
          refine lv_icmp_ne (tgt := 90) hx hb d_M_between_83 (by decide) (fun h83 => ?_) (fun h83 => ?_)
          · rw [nI_eq (by omega) (by omega)] at h83
            refine lv_iconst (v := (nI 1)) hx hb d_M_between_90 (by decide +kernel) ?_
            refine t_iadd (v := nI ((K 10 ((((13 * i) - 13) + j) - 1)) + 1)) hx hb d_M_between_91 (nI_add _ _) ?_
            refine lv_istore (lv' := [(9, .int (nI ((K 10 ((((13 * i) - 13) + j) - 1)) + 1))), (0, .ref h0), (1, .long (lN a)), (3, .long (lN b)), (5, .int (nI (wg_ln a))), (6, .int (nI (wg_ln b))), (7, .int (nI i)), (8, .int (nI j))]) hx hb d_M_between_92 hl (by decide) rfl (fun ls hl => ?_)
            refine lv_aload_n hx hb d_M_between_94 rfl (lv_at hl 1 rfl) ?_
            refine wg_gM hx hb hts hown hK hP 10 (by decide) (v := .ref (ad 10)) kf_M_29 rfl d_M_between_95 ?_
            refine lv_bipush (v := (nI 13)) hx hb d_M_between_98 (by decide +kernel) ?_
            refine lv_iload hx hb d_M_between_100 (lv_at hl 6 rfl) ?_
            refine t_imul (v := nI (13 * i)) hx hb d_M_between_102 (pk_mul _ _) ?_
            refine lv_bipush (v := (nI 13)) hx hb d_M_between_103 (by decide +kernel) ?_
            refine t_isub (v := nI ((13 * i) - 13)) hx hb d_M_between_105 (pk_sub (by omega)) ?_
            refine lv_iload hx hb d_M_between_106 (lv_at hl 7 rfl) ?_
            refine t_iadd (v := nI (((13 * i) - 13) + j)) hx hb d_M_between_108 (nI_add _ _) ?_
            refine wg_ild (f := K 10) (j := (((13 * i) - 13) + j)) hx hb hK hP 7 rfl (by omega) (by decide) d_M_between_109 ?_
            refine lv_iconst (v := (nI 1)) hx hb d_M_between_110 (by decide +kernel) ?_
            refine t_iadd (v := nI ((K 10 (((13 * i) - 13) + j)) + 1)) hx hb d_M_between_111 (nI_add _ _) ?_
            refine lv_iload hx hb d_M_between_112 (lv_at hl 0 rfl) ?_
            refine lv_icmp_ge (tgt := 137) hx hb d_M_between_114 (by decide) (fun h114 => ?_) (fun h114 => ?_)
            · rw [nI_leI (by omega) (by omega)] at h114
              refine lv_aload_n hx hb d_M_between_137 rfl (lv_at hl 1 rfl) ?_
              refine wg_gM hx hb hts hown hK hP 10 (by decide) (v := .ref (ad 10)) kf_M_29 rfl d_M_between_138 ?_
              refine lv_bipush (v := (nI 13)) hx hb d_M_between_141 (by decide +kernel) ?_
              refine lv_iload hx hb d_M_between_143 (lv_at hl 6 rfl) ?_
              refine t_imul (v := nI (13 * i)) hx hb d_M_between_145 (pk_mul _ _) ?_
              refine lv_iload hx hb d_M_between_146 (lv_at hl 7 rfl) ?_
              refine t_iadd (v := nI ((13 * i) + j)) hx hb d_M_between_148 (nI_add _ _) ?_
              refine lv_iconst (v := (nI 1)) hx hb d_M_between_149 (by decide +kernel) ?_
              refine t_isub (v := nI (((13 * i) + j) - 1)) hx hb d_M_between_150 (pk_sub (by omega)) ?_
              refine wg_ild (f := K 10) (j := (((13 * i) + j) - 1)) hx hb hK hP 7 rfl (by omega) (by decide) d_M_between_151 ?_
              refine lv_iconst (v := (nI 1)) hx hb d_M_between_152 (by decide +kernel) ?_
              refine t_iadd (v := nI ((K 10 (((13 * i) + j) - 1)) + 1)) hx hb d_M_between_153 (nI_add _ _) ?_
              refine lv_iload hx hb d_M_between_154 (lv_at hl 0 rfl) ?_
              refine lv_icmp_ge (tgt := 178) hx hb d_M_between_156 (by decide) (fun h156 => ?_) (fun h156 => ?_)
              · rw [nI_leI (by omega) (by omega)] at h156
                have hbest : (K 10 ((((13 * i) - 13) + j) - 1)) + 1 = wg_bt a b i j := by first | (rw [h41, wg_bt_0]; omega) | (rw [h46, wg_bt_i]; omega) | (rw [wg_bt_p (by omega) (by omega), ← e1, ← e2, ← e3]; first | (rw [if_pos h83]; omega) | (rw [if_neg h83]; omega))
                refine lv_aload_n hx hb d_M_between_178 rfl (lv_at hl 1 rfl) ?_
                refine wg_gM hx hb hts hown hK hP 10 (by decide) (v := .ref (ad 10)) kf_M_29 rfl d_M_between_179 ?_
                refine lv_bipush (v := (nI 13)) hx hb d_M_between_182 (by decide +kernel) ?_
                refine lv_iload hx hb d_M_between_184 (lv_at hl 6 rfl) ?_
                refine t_imul (v := nI (13 * i)) hx hb d_M_between_186 (pk_mul _ _) ?_
                refine lv_iload hx hb d_M_between_187 (lv_at hl 7 rfl) ?_
                refine t_iadd (v := nI ((13 * i) + j)) hx hb d_M_between_189 (nI_add _ _) ?_
                refine lv_iload hx hb d_M_between_190 (lv_at hl 0 rfl) ?_
                refine wg_sM10 (j := ((13 * i) + j)) (x := ((K 10 ((((13 * i) - 13) + j) - 1)) + 1)) hx hb hK hP hD hS (by omega) d_M_between_192 (fun H locs hP hS => ?_)
                refine lv_iinc (v := nI (j + 1)) (k := 7) (lv' := [(8, .int (nI (j + 1))), (9, .int (nI ((K 10 ((((13 * i) - 13) + j) - 1)) + 1))), (0, .ref h0), (1, .long (lN a)), (3, .long (lN b)), (5, .int (nI (wg_ln a))), (6, .int (nI (wg_ln b))), (7, .int (nI i))]) hx hb d_M_between_193 hl rfl (nI_1 _) (by decide) rfl (fun ls hl => ?_)
                refine lv_goto (tgt := 25) hx hb d_M_between_196 (by decide) ?_
                exact ih25 (j + 1) 0 0 (wg_st K 10 ((13 * i) + j) ((K 10 ((((13 * i) - 13) + j) - 1)) + 1)) _ _ _ ⟨(by omega), (fun j h => (wg_st_o _ _ _ _ h).trans (hKo j h)), (fun x y h1 h2 => (wg_st_n _ _ _ _ (by omega)).trans (hf1 x y h1 h2)), (fun y h => by rcases Nat.lt_succ_iff_lt_or_eq.mp h with h | rfl; exact (wg_st_n _ _ _ _ (by omega)).trans (hf2 y h); exact (wg_st_s _ _ _ _).trans hbest), hP, hS, lv_sub hl [2, 3, 4, 5, 6, 7, 0] rfl⟩ (by omega)
              · rw [nI_leI (by omega) (by omega)] at h156
                refine lv_aload_n hx hb d_M_between_159 rfl (lv_at hl 1 rfl) ?_
                refine wg_gM hx hb hts hown hK hP 10 (by decide) (v := .ref (ad 10)) kf_M_29 rfl d_M_between_160 ?_
                refine lv_bipush (v := (nI 13)) hx hb d_M_between_163 (by decide +kernel) ?_
                refine lv_iload hx hb d_M_between_165 (lv_at hl 6 rfl) ?_
                refine t_imul (v := nI (13 * i)) hx hb d_M_between_167 (pk_mul _ _) ?_
                refine lv_iload hx hb d_M_between_168 (lv_at hl 7 rfl) ?_
                refine t_iadd (v := nI ((13 * i) + j)) hx hb d_M_between_170 (nI_add _ _) ?_
                refine lv_iconst (v := (nI 1)) hx hb d_M_between_171 (by decide +kernel) ?_
                refine t_isub (v := nI (((13 * i) + j) - 1)) hx hb d_M_between_172 (pk_sub (by omega)) ?_
                refine wg_ild (f := K 10) (j := (((13 * i) + j) - 1)) hx hb hK hP 7 rfl (by omega) (by decide) d_M_between_173 ?_
                refine lv_iconst (v := (nI 1)) hx hb d_M_between_174 (by decide +kernel) ?_
                refine t_iadd (v := nI ((K 10 (((13 * i) + j) - 1)) + 1)) hx hb d_M_between_175 (nI_add _ _) ?_
                refine lv_istore (lv' := [(9, .int (nI ((K 10 (((13 * i) + j) - 1)) + 1))), (0, .ref h0), (1, .long (lN a)), (3, .long (lN b)), (5, .int (nI (wg_ln a))), (6, .int (nI (wg_ln b))), (7, .int (nI i)), (8, .int (nI j))]) hx hb d_M_between_176 hl (by decide) rfl (fun ls hl => ?_)
                have hbest : (K 10 (((13 * i) + j) - 1)) + 1 = wg_bt a b i j := by first | (rw [h41, wg_bt_0]; omega) | (rw [h46, wg_bt_i]; omega) | (rw [wg_bt_p (by omega) (by omega), ← e1, ← e2, ← e3]; first | (rw [if_pos h83]; omega) | (rw [if_neg h83]; omega))
                refine lv_aload_n hx hb d_M_between_178 rfl (lv_at hl 1 rfl) ?_
                refine wg_gM hx hb hts hown hK hP 10 (by decide) (v := .ref (ad 10)) kf_M_29 rfl d_M_between_179 ?_
                refine lv_bipush (v := (nI 13)) hx hb d_M_between_182 (by decide +kernel) ?_
                refine lv_iload hx hb d_M_between_184 (lv_at hl 6 rfl) ?_
                refine t_imul (v := nI (13 * i)) hx hb d_M_between_186 (pk_mul _ _) ?_
                refine lv_iload hx hb d_M_between_187 (lv_at hl 7 rfl) ?_
                refine t_iadd (v := nI ((13 * i) + j)) hx hb d_M_between_189 (nI_add _ _) ?_
                refine lv_iload hx hb d_M_between_190 (lv_at hl 0 rfl) ?_
                refine wg_sM10 (j := ((13 * i) + j)) (x := ((K 10 (((13 * i) + j) - 1)) + 1)) hx hb hK hP hD hS (by omega) d_M_between_192 (fun H locs hP hS => ?_)
                refine lv_iinc (v := nI (j + 1)) (k := 7) (lv' := [(8, .int (nI (j + 1))), (9, .int (nI ((K 10 (((13 * i) + j) - 1)) + 1))), (0, .ref h0), (1, .long (lN a)), (3, .long (lN b)), (5, .int (nI (wg_ln a))), (6, .int (nI (wg_ln b))), (7, .int (nI i))]) hx hb d_M_between_193 hl rfl (nI_1 _) (by decide) rfl (fun ls hl => ?_)
                refine lv_goto (tgt := 25) hx hb d_M_between_196 (by decide) ?_
                exact ih25 (j + 1) 0 0 (wg_st K 10 ((13 * i) + j) ((K 10 (((13 * i) + j) - 1)) + 1)) _ _ _ ⟨(by omega), (fun j h => (wg_st_o _ _ _ _ h).trans (hKo j h)), (fun x y h1 h2 => (wg_st_n _ _ _ _ (by omega)).trans (hf1 x y h1 h2)), (fun y h => by rcases Nat.lt_succ_iff_lt_or_eq.mp h with h | rfl; exact (wg_st_n _ _ _ _ (by omega)).trans (hf2 y h); exact (wg_st_s _ _ _ _).trans hbest), hP, hS, lv_sub hl [2, 3, 4, 5, 6, 7, 0] rfl⟩ (by omega)
            · rw [nI_leI (by omega) (by omega)] at h114
              refine lv_aload_n hx hb d_M_between_117 rfl (lv_at hl 1 rfl) ?_
              refine wg_gM hx hb hts hown hK hP 10 (by decide) (v := .ref (ad 10)) kf_M_29 rfl d_M_between_118 ?_
              refine lv_bipush (v := (nI 13)) hx hb d_M_between_121 (by decide +kernel) ?_
              refine lv_iload hx hb d_M_between_123 (lv_at hl 6 rfl) ?_
              refine t_imul (v := nI (13 * i)) hx hb d_M_between_125 (pk_mul _ _) ?_
              refine lv_bipush (v := (nI 13)) hx hb d_M_between_126 (by decide +kernel) ?_
              refine t_isub (v := nI ((13 * i) - 13)) hx hb d_M_between_128 (pk_sub (by omega)) ?_
              refine lv_iload hx hb d_M_between_129 (lv_at hl 7 rfl) ?_
              refine t_iadd (v := nI (((13 * i) - 13) + j)) hx hb d_M_between_131 (nI_add _ _) ?_
              refine wg_ild (f := K 10) (j := (((13 * i) - 13) + j)) hx hb hK hP 7 rfl (by omega) (by decide) d_M_between_132 ?_
              refine lv_iconst (v := (nI 1)) hx hb d_M_between_133 (by decide +kernel) ?_
              refine t_iadd (v := nI ((K 10 (((13 * i) - 13) + j)) + 1)) hx hb d_M_between_134 (nI_add _ _) ?_
              refine lv_istore (lv' := [(9, .int (nI ((K 10 (((13 * i) - 13) + j)) + 1))), (0, .ref h0), (1, .long (lN a)), (3, .long (lN b)), (5, .int (nI (wg_ln a))), (6, .int (nI (wg_ln b))), (7, .int (nI i)), (8, .int (nI j))]) hx hb d_M_between_135 hl (by decide) rfl (fun ls hl => ?_)
              refine lv_aload_n hx hb d_M_between_137 rfl (lv_at hl 1 rfl) ?_
              refine wg_gM hx hb hts hown hK hP 10 (by decide) (v := .ref (ad 10)) kf_M_29 rfl d_M_between_138 ?_
              refine lv_bipush (v := (nI 13)) hx hb d_M_between_141 (by decide +kernel) ?_
              refine lv_iload hx hb d_M_between_143 (lv_at hl 6 rfl) ?_
              refine t_imul (v := nI (13 * i)) hx hb d_M_between_145 (pk_mul _ _) ?_
              refine lv_iload hx hb d_M_between_146 (lv_at hl 7 rfl) ?_
              refine t_iadd (v := nI ((13 * i) + j)) hx hb d_M_between_148 (nI_add _ _) ?_
              refine lv_iconst (v := (nI 1)) hx hb d_M_between_149 (by decide +kernel) ?_
              refine t_isub (v := nI (((13 * i) + j) - 1)) hx hb d_M_between_150 (pk_sub (by omega)) ?_
              refine wg_ild (f := K 10) (j := (((13 * i) + j) - 1)) hx hb hK hP 7 rfl (by omega) (by decide) d_M_between_151 ?_
              refine lv_iconst (v := (nI 1)) hx hb d_M_between_152 (by decide +kernel) ?_
              refine t_iadd (v := nI ((K 10 (((13 * i) + j) - 1)) + 1)) hx hb d_M_between_153 (nI_add _ _) ?_
              refine lv_iload hx hb d_M_between_154 (lv_at hl 0 rfl) ?_
              refine lv_icmp_ge (tgt := 178) hx hb d_M_between_156 (by decide) (fun h156 => ?_) (fun h156 => ?_)
              · rw [nI_leI (by omega) (by omega)] at h156
                have hbest : (K 10 (((13 * i) - 13) + j)) + 1 = wg_bt a b i j := by first | (rw [h41, wg_bt_0]; omega) | (rw [h46, wg_bt_i]; omega) | (rw [wg_bt_p (by omega) (by omega), ← e1, ← e2, ← e3]; first | (rw [if_pos h83]; omega) | (rw [if_neg h83]; omega))
                refine lv_aload_n hx hb d_M_between_178 rfl (lv_at hl 1 rfl) ?_
                refine wg_gM hx hb hts hown hK hP 10 (by decide) (v := .ref (ad 10)) kf_M_29 rfl d_M_between_179 ?_
                refine lv_bipush (v := (nI 13)) hx hb d_M_between_182 (by decide +kernel) ?_
                refine lv_iload hx hb d_M_between_184 (lv_at hl 6 rfl) ?_
                refine t_imul (v := nI (13 * i)) hx hb d_M_between_186 (pk_mul _ _) ?_
                refine lv_iload hx hb d_M_between_187 (lv_at hl 7 rfl) ?_
                refine t_iadd (v := nI ((13 * i) + j)) hx hb d_M_between_189 (nI_add _ _) ?_
                refine lv_iload hx hb d_M_between_190 (lv_at hl 0 rfl) ?_
                refine wg_sM10 (j := ((13 * i) + j)) (x := ((K 10 (((13 * i) - 13) + j)) + 1)) hx hb hK hP hD hS (by omega) d_M_between_192 (fun H locs hP hS => ?_)
                refine lv_iinc (v := nI (j + 1)) (k := 7) (lv' := [(8, .int (nI (j + 1))), (9, .int (nI ((K 10 (((13 * i) - 13) + j)) + 1))), (0, .ref h0), (1, .long (lN a)), (3, .long (lN b)), (5, .int (nI (wg_ln a))), (6, .int (nI (wg_ln b))), (7, .int (nI i))]) hx hb d_M_between_193 hl rfl (nI_1 _) (by decide) rfl (fun ls hl => ?_)
                refine lv_goto (tgt := 25) hx hb d_M_between_196 (by decide) ?_
                exact ih25 (j + 1) 0 0 (wg_st K 10 ((13 * i) + j) ((K 10 (((13 * i) - 13) + j)) + 1)) _ _ _ ⟨(by omega), (fun j h => (wg_st_o _ _ _ _ h).trans (hKo j h)), (fun x y h1 h2 => (wg_st_n _ _ _ _ (by omega)).trans (hf1 x y h1 h2)), (fun y h => by rcases Nat.lt_succ_iff_lt_or_eq.mp h with h | rfl; exact (wg_st_n _ _ _ _ (by omega)).trans (hf2 y h); exact (wg_st_s _ _ _ _).trans hbest), hP, hS, lv_sub hl [2, 3, 4, 5, 6, 7, 0] rfl⟩ (by omega)
              · rw [nI_leI (by omega) (by omega)] at h156
                refine lv_aload_n hx hb d_M_between_159 rfl (lv_at hl 1 rfl) ?_
                refine wg_gM hx hb hts hown hK hP 10 (by decide) (v := .ref (ad 10)) kf_M_29 rfl d_M_between_160 ?_
                refine lv_bipush (v := (nI 13)) hx hb d_M_between_163 (by decide +kernel) ?_
                refine lv_iload hx hb d_M_between_165 (lv_at hl 6 rfl) ?_
                refine t_imul (v := nI (13 * i)) hx hb d_M_between_167 (pk_mul _ _) ?_
                refine lv_iload hx hb d_M_between_168 (lv_at hl 7 rfl) ?_
                refine t_iadd (v := nI ((13 * i) + j)) hx hb d_M_between_170 (nI_add _ _) ?_
                refine lv_iconst (v := (nI 1)) hx hb d_M_between_171 (by decide +kernel) ?_
                refine t_isub (v := nI (((13 * i) + j) - 1)) hx hb d_M_between_172 (pk_sub (by omega)) ?_
                refine wg_ild (f := K 10) (j := (((13 * i) + j) - 1)) hx hb hK hP 7 rfl (by omega) (by decide) d_M_between_173 ?_
                refine lv_iconst (v := (nI 1)) hx hb d_M_between_174 (by decide +kernel) ?_
                refine t_iadd (v := nI ((K 10 (((13 * i) + j) - 1)) + 1)) hx hb d_M_between_175 (nI_add _ _) ?_
                refine lv_istore (lv' := [(9, .int (nI ((K 10 (((13 * i) + j) - 1)) + 1))), (0, .ref h0), (1, .long (lN a)), (3, .long (lN b)), (5, .int (nI (wg_ln a))), (6, .int (nI (wg_ln b))), (7, .int (nI i)), (8, .int (nI j))]) hx hb d_M_between_176 hl (by decide) rfl (fun ls hl => ?_)
                have hbest : (K 10 (((13 * i) + j) - 1)) + 1 = wg_bt a b i j := by first | (rw [h41, wg_bt_0]; omega) | (rw [h46, wg_bt_i]; omega) | (rw [wg_bt_p (by omega) (by omega), ← e1, ← e2, ← e3]; first | (rw [if_pos h83]; omega) | (rw [if_neg h83]; omega))
                refine lv_aload_n hx hb d_M_between_178 rfl (lv_at hl 1 rfl) ?_
                refine wg_gM hx hb hts hown hK hP 10 (by decide) (v := .ref (ad 10)) kf_M_29 rfl d_M_between_179 ?_
                refine lv_bipush (v := (nI 13)) hx hb d_M_between_182 (by decide +kernel) ?_
                refine lv_iload hx hb d_M_between_184 (lv_at hl 6 rfl) ?_
                refine t_imul (v := nI (13 * i)) hx hb d_M_between_186 (pk_mul _ _) ?_
                refine lv_iload hx hb d_M_between_187 (lv_at hl 7 rfl) ?_
                refine t_iadd (v := nI ((13 * i) + j)) hx hb d_M_between_189 (nI_add _ _) ?_
                refine lv_iload hx hb d_M_between_190 (lv_at hl 0 rfl) ?_
                refine wg_sM10 (j := ((13 * i) + j)) (x := ((K 10 (((13 * i) + j) - 1)) + 1)) hx hb hK hP hD hS (by omega) d_M_between_192 (fun H locs hP hS => ?_)
                refine lv_iinc (v := nI (j + 1)) (k := 7) (lv' := [(8, .int (nI (j + 1))), (9, .int (nI ((K 10 (((13 * i) + j) - 1)) + 1))), (0, .ref h0), (1, .long (lN a)), (3, .long (lN b)), (5, .int (nI (wg_ln a))), (6, .int (nI (wg_ln b))), (7, .int (nI i))]) hx hb d_M_between_193 hl rfl (nI_1 _) (by decide) rfl (fun ls hl => ?_)
                refine lv_goto (tgt := 25) hx hb d_M_between_196 (by decide) ?_
                exact ih25 (j + 1) 0 0 (wg_st K 10 ((13 * i) + j) ((K 10 (((13 * i) + j) - 1)) + 1)) _ _ _ ⟨(by omega), (fun j h => (wg_st_o _ _ _ _ h).trans (hKo j h)), (fun x y h1 h2 => (wg_st_n _ _ _ _ (by omega)).trans (hf1 x y h1 h2)), (fun y h => by rcases Nat.lt_succ_iff_lt_or_eq.mp h with h | rfl; exact (wg_st_n _ _ _ _ (by omega)).trans (hf2 y h); exact (wg_st_s _ _ _ _).trans hbest), hP, hS, lv_sub hl [2, 3, 4, 5, 6, 7, 0] rfl⟩ (by omega)
          · rw [nI_eq (by omega) (by omega)] at h83
            refine lv_iconst (v := (nI 0)) hx hb d_M_between_86 (by decide +kernel) ?_
            refine lv_goto (tgt := 91) hx hb d_M_between_87 (by decide) ?_
            refine t_iadd (v := nI ((K 10 ((((13 * i) - 13) + j) - 1)) + 0)) hx hb d_M_between_91 (nI_add _ _) ?_
            refine lv_istore (lv' := [(9, .int (nI ((K 10 ((((13 * i) - 13) + j) - 1)) + 0))), (0, .ref h0), (1, .long (lN a)), (3, .long (lN b)), (5, .int (nI (wg_ln a))), (6, .int (nI (wg_ln b))), (7, .int (nI i)), (8, .int (nI j))]) hx hb d_M_between_92 hl (by decide) rfl (fun ls hl => ?_)
            refine lv_aload_n hx hb d_M_between_94 rfl (lv_at hl 1 rfl) ?_
            refine wg_gM hx hb hts hown hK hP 10 (by decide) (v := .ref (ad 10)) kf_M_29 rfl d_M_between_95 ?_
            refine lv_bipush (v := (nI 13)) hx hb d_M_between_98 (by decide +kernel) ?_
            refine lv_iload hx hb d_M_between_100 (lv_at hl 6 rfl) ?_
            refine t_imul (v := nI (13 * i)) hx hb d_M_between_102 (pk_mul _ _) ?_
            refine lv_bipush (v := (nI 13)) hx hb d_M_between_103 (by decide +kernel) ?_
            refine t_isub (v := nI ((13 * i) - 13)) hx hb d_M_between_105 (pk_sub (by omega)) ?_
            refine lv_iload hx hb d_M_between_106 (lv_at hl 7 rfl) ?_
            refine t_iadd (v := nI (((13 * i) - 13) + j)) hx hb d_M_between_108 (nI_add _ _) ?_
            refine wg_ild (f := K 10) (j := (((13 * i) - 13) + j)) hx hb hK hP 7 rfl (by omega) (by decide) d_M_between_109 ?_
            refine lv_iconst (v := (nI 1)) hx hb d_M_between_110 (by decide +kernel) ?_
            refine t_iadd (v := nI ((K 10 (((13 * i) - 13) + j)) + 1)) hx hb d_M_between_111 (nI_add _ _) ?_
            refine lv_iload hx hb d_M_between_112 (lv_at hl 0 rfl) ?_
            refine lv_icmp_ge (tgt := 137) hx hb d_M_between_114 (by decide) (fun h114 => ?_) (fun h114 => ?_)
            · rw [nI_leI (by omega) (by omega)] at h114
              refine lv_aload_n hx hb d_M_between_137 rfl (lv_at hl 1 rfl) ?_
              refine wg_gM hx hb hts hown hK hP 10 (by decide) (v := .ref (ad 10)) kf_M_29 rfl d_M_between_138 ?_
              refine lv_bipush (v := (nI 13)) hx hb d_M_between_141 (by decide +kernel) ?_
              refine lv_iload hx hb d_M_between_143 (lv_at hl 6 rfl) ?_
              refine t_imul (v := nI (13 * i)) hx hb d_M_between_145 (pk_mul _ _) ?_
              refine lv_iload hx hb d_M_between_146 (lv_at hl 7 rfl) ?_
              refine t_iadd (v := nI ((13 * i) + j)) hx hb d_M_between_148 (nI_add _ _) ?_
              refine lv_iconst (v := (nI 1)) hx hb d_M_between_149 (by decide +kernel) ?_
              refine t_isub (v := nI (((13 * i) + j) - 1)) hx hb d_M_between_150 (pk_sub (by omega)) ?_
              refine wg_ild (f := K 10) (j := (((13 * i) + j) - 1)) hx hb hK hP 7 rfl (by omega) (by decide) d_M_between_151 ?_
              refine lv_iconst (v := (nI 1)) hx hb d_M_between_152 (by decide +kernel) ?_
              refine t_iadd (v := nI ((K 10 (((13 * i) + j) - 1)) + 1)) hx hb d_M_between_153 (nI_add _ _) ?_
              refine lv_iload hx hb d_M_between_154 (lv_at hl 0 rfl) ?_
              refine lv_icmp_ge (tgt := 178) hx hb d_M_between_156 (by decide) (fun h156 => ?_) (fun h156 => ?_)
              · rw [nI_leI (by omega) (by omega)] at h156
                have hbest : (K 10 ((((13 * i) - 13) + j) - 1)) + 0 = wg_bt a b i j := by first | (rw [h41, wg_bt_0]; omega) | (rw [h46, wg_bt_i]; omega) | (rw [wg_bt_p (by omega) (by omega), ← e1, ← e2, ← e3]; first | (rw [if_pos h83]; omega) | (rw [if_neg h83]; omega))
                refine lv_aload_n hx hb d_M_between_178 rfl (lv_at hl 1 rfl) ?_
                refine wg_gM hx hb hts hown hK hP 10 (by decide) (v := .ref (ad 10)) kf_M_29 rfl d_M_between_179 ?_
                refine lv_bipush (v := (nI 13)) hx hb d_M_between_182 (by decide +kernel) ?_
                refine lv_iload hx hb d_M_between_184 (lv_at hl 6 rfl) ?_
                refine t_imul (v := nI (13 * i)) hx hb d_M_between_186 (pk_mul _ _) ?_
                refine lv_iload hx hb d_M_between_187 (lv_at hl 7 rfl) ?_
                refine t_iadd (v := nI ((13 * i) + j)) hx hb d_M_between_189 (nI_add _ _) ?_
                refine lv_iload hx hb d_M_between_190 (lv_at hl 0 rfl) ?_
                refine wg_sM10 (j := ((13 * i) + j)) (x := ((K 10 ((((13 * i) - 13) + j) - 1)) + 0)) hx hb hK hP hD hS (by omega) d_M_between_192 (fun H locs hP hS => ?_)
                refine lv_iinc (v := nI (j + 1)) (k := 7) (lv' := [(8, .int (nI (j + 1))), (9, .int (nI ((K 10 ((((13 * i) - 13) + j) - 1)) + 0))), (0, .ref h0), (1, .long (lN a)), (3, .long (lN b)), (5, .int (nI (wg_ln a))), (6, .int (nI (wg_ln b))), (7, .int (nI i))]) hx hb d_M_between_193 hl rfl (nI_1 _) (by decide) rfl (fun ls hl => ?_)
                refine lv_goto (tgt := 25) hx hb d_M_between_196 (by decide) ?_
                exact ih25 (j + 1) 0 0 (wg_st K 10 ((13 * i) + j) ((K 10 ((((13 * i) - 13) + j) - 1)) + 0)) _ _ _ ⟨(by omega), (fun j h => (wg_st_o _ _ _ _ h).trans (hKo j h)), (fun x y h1 h2 => (wg_st_n _ _ _ _ (by omega)).trans (hf1 x y h1 h2)), (fun y h => by rcases Nat.lt_succ_iff_lt_or_eq.mp h with h | rfl; exact (wg_st_n _ _ _ _ (by omega)).trans (hf2 y h); exact (wg_st_s _ _ _ _).trans hbest), hP, hS, lv_sub hl [2, 3, 4, 5, 6, 7, 0] rfl⟩ (by omega)
              · rw [nI_leI (by omega) (by omega)] at h156
                refine lv_aload_n hx hb d_M_between_159 rfl (lv_at hl 1 rfl) ?_
                refine wg_gM hx hb hts hown hK hP 10 (by decide) (v := .ref (ad 10)) kf_M_29 rfl d_M_between_160 ?_
                refine lv_bipush (v := (nI 13)) hx hb d_M_between_163 (by decide +kernel) ?_
                refine lv_iload hx hb d_M_between_165 (lv_at hl 6 rfl) ?_
                refine t_imul (v := nI (13 * i)) hx hb d_M_between_167 (pk_mul _ _) ?_
                refine lv_iload hx hb d_M_between_168 (lv_at hl 7 rfl) ?_
                refine t_iadd (v := nI ((13 * i) + j)) hx hb d_M_between_170 (nI_add _ _) ?_
                refine lv_iconst (v := (nI 1)) hx hb d_M_between_171 (by decide +kernel) ?_
                refine t_isub (v := nI (((13 * i) + j) - 1)) hx hb d_M_between_172 (pk_sub (by omega)) ?_
                refine wg_ild (f := K 10) (j := (((13 * i) + j) - 1)) hx hb hK hP 7 rfl (by omega) (by decide) d_M_between_173 ?_
                refine lv_iconst (v := (nI 1)) hx hb d_M_between_174 (by decide +kernel) ?_
                refine t_iadd (v := nI ((K 10 (((13 * i) + j) - 1)) + 1)) hx hb d_M_between_175 (nI_add _ _) ?_
                refine lv_istore (lv' := [(9, .int (nI ((K 10 (((13 * i) + j) - 1)) + 1))), (0, .ref h0), (1, .long (lN a)), (3, .long (lN b)), (5, .int (nI (wg_ln a))), (6, .int (nI (wg_ln b))), (7, .int (nI i)), (8, .int (nI j))]) hx hb d_M_between_176 hl (by decide) rfl (fun ls hl => ?_)
                have hbest : (K 10 (((13 * i) + j) - 1)) + 1 = wg_bt a b i j := by first | (rw [h41, wg_bt_0]; omega) | (rw [h46, wg_bt_i]; omega) | (rw [wg_bt_p (by omega) (by omega), ← e1, ← e2, ← e3]; first | (rw [if_pos h83]; omega) | (rw [if_neg h83]; omega))
                refine lv_aload_n hx hb d_M_between_178 rfl (lv_at hl 1 rfl) ?_
                refine wg_gM hx hb hts hown hK hP 10 (by decide) (v := .ref (ad 10)) kf_M_29 rfl d_M_between_179 ?_
                refine lv_bipush (v := (nI 13)) hx hb d_M_between_182 (by decide +kernel) ?_
                refine lv_iload hx hb d_M_between_184 (lv_at hl 6 rfl) ?_
                refine t_imul (v := nI (13 * i)) hx hb d_M_between_186 (pk_mul _ _) ?_
                refine lv_iload hx hb d_M_between_187 (lv_at hl 7 rfl) ?_
                refine t_iadd (v := nI ((13 * i) + j)) hx hb d_M_between_189 (nI_add _ _) ?_
                refine lv_iload hx hb d_M_between_190 (lv_at hl 0 rfl) ?_
                refine wg_sM10 (j := ((13 * i) + j)) (x := ((K 10 (((13 * i) + j) - 1)) + 1)) hx hb hK hP hD hS (by omega) d_M_between_192 (fun H locs hP hS => ?_)
                refine lv_iinc (v := nI (j + 1)) (k := 7) (lv' := [(8, .int (nI (j + 1))), (9, .int (nI ((K 10 (((13 * i) + j) - 1)) + 1))), (0, .ref h0), (1, .long (lN a)), (3, .long (lN b)), (5, .int (nI (wg_ln a))), (6, .int (nI (wg_ln b))), (7, .int (nI i))]) hx hb d_M_between_193 hl rfl (nI_1 _) (by decide) rfl (fun ls hl => ?_)
                refine lv_goto (tgt := 25) hx hb d_M_between_196 (by decide) ?_
                exact ih25 (j + 1) 0 0 (wg_st K 10 ((13 * i) + j) ((K 10 (((13 * i) + j) - 1)) + 1)) _ _ _ ⟨(by omega), (fun j h => (wg_st_o _ _ _ _ h).trans (hKo j h)), (fun x y h1 h2 => (wg_st_n _ _ _ _ (by omega)).trans (hf1 x y h1 h2)), (fun y h => by rcases Nat.lt_succ_iff_lt_or_eq.mp h with h | rfl; exact (wg_st_n _ _ _ _ (by omega)).trans (hf2 y h); exact (wg_st_s _ _ _ _).trans hbest), hP, hS, lv_sub hl [2, 3, 4, 5, 6, 7, 0] rfl⟩ (by omega)
            · rw [nI_leI (by omega) (by omega)] at h114
              refine lv_aload_n hx hb d_M_between_117 rfl (lv_at hl 1 rfl) ?_
              refine wg_gM hx hb hts hown hK hP 10 (by decide) (v := .ref (ad 10)) kf_M_29 rfl d_M_between_118 ?_
              refine lv_bipush (v := (nI 13)) hx hb d_M_between_121 (by decide +kernel) ?_
              refine lv_iload hx hb d_M_between_123 (lv_at hl 6 rfl) ?_
              refine t_imul (v := nI (13 * i)) hx hb d_M_between_125 (pk_mul _ _) ?_
              refine lv_bipush (v := (nI 13)) hx hb d_M_between_126 (by decide +kernel) ?_
              refine t_isub (v := nI ((13 * i) - 13)) hx hb d_M_between_128 (pk_sub (by omega)) ?_
              refine lv_iload hx hb d_M_between_129 (lv_at hl 7 rfl) ?_
              refine t_iadd (v := nI (((13 * i) - 13) + j)) hx hb d_M_between_131 (nI_add _ _) ?_
              refine wg_ild (f := K 10) (j := (((13 * i) - 13) + j)) hx hb hK hP 7 rfl (by omega) (by decide) d_M_between_132 ?_
              refine lv_iconst (v := (nI 1)) hx hb d_M_between_133 (by decide +kernel) ?_
              refine t_iadd (v := nI ((K 10 (((13 * i) - 13) + j)) + 1)) hx hb d_M_between_134 (nI_add _ _) ?_
              refine lv_istore (lv' := [(9, .int (nI ((K 10 (((13 * i) - 13) + j)) + 1))), (0, .ref h0), (1, .long (lN a)), (3, .long (lN b)), (5, .int (nI (wg_ln a))), (6, .int (nI (wg_ln b))), (7, .int (nI i)), (8, .int (nI j))]) hx hb d_M_between_135 hl (by decide) rfl (fun ls hl => ?_)
              refine lv_aload_n hx hb d_M_between_137 rfl (lv_at hl 1 rfl) ?_
              refine wg_gM hx hb hts hown hK hP 10 (by decide) (v := .ref (ad 10)) kf_M_29 rfl d_M_between_138 ?_
              refine lv_bipush (v := (nI 13)) hx hb d_M_between_141 (by decide +kernel) ?_
              refine lv_iload hx hb d_M_between_143 (lv_at hl 6 rfl) ?_
              refine t_imul (v := nI (13 * i)) hx hb d_M_between_145 (pk_mul _ _) ?_
              refine lv_iload hx hb d_M_between_146 (lv_at hl 7 rfl) ?_
              refine t_iadd (v := nI ((13 * i) + j)) hx hb d_M_between_148 (nI_add _ _) ?_
              refine lv_iconst (v := (nI 1)) hx hb d_M_between_149 (by decide +kernel) ?_
              refine t_isub (v := nI (((13 * i) + j) - 1)) hx hb d_M_between_150 (pk_sub (by omega)) ?_
              refine wg_ild (f := K 10) (j := (((13 * i) + j) - 1)) hx hb hK hP 7 rfl (by omega) (by decide) d_M_between_151 ?_
              refine lv_iconst (v := (nI 1)) hx hb d_M_between_152 (by decide +kernel) ?_
              refine t_iadd (v := nI ((K 10 (((13 * i) + j) - 1)) + 1)) hx hb d_M_between_153 (nI_add _ _) ?_
              refine lv_iload hx hb d_M_between_154 (lv_at hl 0 rfl) ?_
              refine lv_icmp_ge (tgt := 178) hx hb d_M_between_156 (by decide) (fun h156 => ?_) (fun h156 => ?_)
              · rw [nI_leI (by omega) (by omega)] at h156
                have hbest : (K 10 (((13 * i) - 13) + j)) + 1 = wg_bt a b i j := by first | (rw [h41, wg_bt_0]; omega) | (rw [h46, wg_bt_i]; omega) | (rw [wg_bt_p (by omega) (by omega), ← e1, ← e2, ← e3]; first | (rw [if_pos h83]; omega) | (rw [if_neg h83]; omega))
                refine lv_aload_n hx hb d_M_between_178 rfl (lv_at hl 1 rfl) ?_
                refine wg_gM hx hb hts hown hK hP 10 (by decide) (v := .ref (ad 10)) kf_M_29 rfl d_M_between_179 ?_
                refine lv_bipush (v := (nI 13)) hx hb d_M_between_182 (by decide +kernel) ?_
                refine lv_iload hx hb d_M_between_184 (lv_at hl 6 rfl) ?_
                refine t_imul (v := nI (13 * i)) hx hb d_M_between_186 (pk_mul _ _) ?_
                refine lv_iload hx hb d_M_between_187 (lv_at hl 7 rfl) ?_
                refine t_iadd (v := nI ((13 * i) + j)) hx hb d_M_between_189 (nI_add _ _) ?_
                refine lv_iload hx hb d_M_between_190 (lv_at hl 0 rfl) ?_
                refine wg_sM10 (j := ((13 * i) + j)) (x := ((K 10 (((13 * i) - 13) + j)) + 1)) hx hb hK hP hD hS (by omega) d_M_between_192 (fun H locs hP hS => ?_)
                refine lv_iinc (v := nI (j + 1)) (k := 7) (lv' := [(8, .int (nI (j + 1))), (9, .int (nI ((K 10 (((13 * i) - 13) + j)) + 1))), (0, .ref h0), (1, .long (lN a)), (3, .long (lN b)), (5, .int (nI (wg_ln a))), (6, .int (nI (wg_ln b))), (7, .int (nI i))]) hx hb d_M_between_193 hl rfl (nI_1 _) (by decide) rfl (fun ls hl => ?_)
                refine lv_goto (tgt := 25) hx hb d_M_between_196 (by decide) ?_
                exact ih25 (j + 1) 0 0 (wg_st K 10 ((13 * i) + j) ((K 10 (((13 * i) - 13) + j)) + 1)) _ _ _ ⟨(by omega), (fun j h => (wg_st_o _ _ _ _ h).trans (hKo j h)), (fun x y h1 h2 => (wg_st_n _ _ _ _ (by omega)).trans (hf1 x y h1 h2)), (fun y h => by rcases Nat.lt_succ_iff_lt_or_eq.mp h with h | rfl; exact (wg_st_n _ _ _ _ (by omega)).trans (hf2 y h); exact (wg_st_s _ _ _ _).trans hbest), hP, hS, lv_sub hl [2, 3, 4, 5, 6, 7, 0] rfl⟩ (by omega)
              · rw [nI_leI (by omega) (by omega)] at h156
                refine lv_aload_n hx hb d_M_between_159 rfl (lv_at hl 1 rfl) ?_
                refine wg_gM hx hb hts hown hK hP 10 (by decide) (v := .ref (ad 10)) kf_M_29 rfl d_M_between_160 ?_
                refine lv_bipush (v := (nI 13)) hx hb d_M_between_163 (by decide +kernel) ?_
                refine lv_iload hx hb d_M_between_165 (lv_at hl 6 rfl) ?_
                refine t_imul (v := nI (13 * i)) hx hb d_M_between_167 (pk_mul _ _) ?_
                refine lv_iload hx hb d_M_between_168 (lv_at hl 7 rfl) ?_
                refine t_iadd (v := nI ((13 * i) + j)) hx hb d_M_between_170 (nI_add _ _) ?_
                refine lv_iconst (v := (nI 1)) hx hb d_M_between_171 (by decide +kernel) ?_
                refine t_isub (v := nI (((13 * i) + j) - 1)) hx hb d_M_between_172 (pk_sub (by omega)) ?_
                refine wg_ild (f := K 10) (j := (((13 * i) + j) - 1)) hx hb hK hP 7 rfl (by omega) (by decide) d_M_between_173 ?_
                refine lv_iconst (v := (nI 1)) hx hb d_M_between_174 (by decide +kernel) ?_
                refine t_iadd (v := nI ((K 10 (((13 * i) + j) - 1)) + 1)) hx hb d_M_between_175 (nI_add _ _) ?_
                refine lv_istore (lv' := [(9, .int (nI ((K 10 (((13 * i) + j) - 1)) + 1))), (0, .ref h0), (1, .long (lN a)), (3, .long (lN b)), (5, .int (nI (wg_ln a))), (6, .int (nI (wg_ln b))), (7, .int (nI i)), (8, .int (nI j))]) hx hb d_M_between_176 hl (by decide) rfl (fun ls hl => ?_)
                have hbest : (K 10 (((13 * i) + j) - 1)) + 1 = wg_bt a b i j := by first | (rw [h41, wg_bt_0]; omega) | (rw [h46, wg_bt_i]; omega) | (rw [wg_bt_p (by omega) (by omega), ← e1, ← e2, ← e3]; first | (rw [if_pos h83]; omega) | (rw [if_neg h83]; omega))
                refine lv_aload_n hx hb d_M_between_178 rfl (lv_at hl 1 rfl) ?_
                refine wg_gM hx hb hts hown hK hP 10 (by decide) (v := .ref (ad 10)) kf_M_29 rfl d_M_between_179 ?_
                refine lv_bipush (v := (nI 13)) hx hb d_M_between_182 (by decide +kernel) ?_
                refine lv_iload hx hb d_M_between_184 (lv_at hl 6 rfl) ?_
                refine t_imul (v := nI (13 * i)) hx hb d_M_between_186 (pk_mul _ _) ?_
                refine lv_iload hx hb d_M_between_187 (lv_at hl 7 rfl) ?_
                refine t_iadd (v := nI ((13 * i) + j)) hx hb d_M_between_189 (nI_add _ _) ?_
                refine lv_iload hx hb d_M_between_190 (lv_at hl 0 rfl) ?_
                refine wg_sM10 (j := ((13 * i) + j)) (x := ((K 10 (((13 * i) + j) - 1)) + 1)) hx hb hK hP hD hS (by omega) d_M_between_192 (fun H locs hP hS => ?_)
                refine lv_iinc (v := nI (j + 1)) (k := 7) (lv' := [(8, .int (nI (j + 1))), (9, .int (nI ((K 10 (((13 * i) + j) - 1)) + 1))), (0, .ref h0), (1, .long (lN a)), (3, .long (lN b)), (5, .int (nI (wg_ln a))), (6, .int (nI (wg_ln b))), (7, .int (nI i))]) hx hb d_M_between_193 hl rfl (nI_1 _) (by decide) rfl (fun ls hl => ?_)
                refine lv_goto (tgt := 25) hx hb d_M_between_196 (by decide) ?_
                exact ih25 (j + 1) 0 0 (wg_st K 10 ((13 * i) + j) ((K 10 (((13 * i) + j) - 1)) + 1)) _ _ _ ⟨(by omega), (fun j h => (wg_st_o _ _ _ _ h).trans (hKo j h)), (fun x y h1 h2 => (wg_st_n _ _ _ _ (by omega)).trans (hf1 x y h1 h2)), (fun y h => by rcases Nat.lt_succ_iff_lt_or_eq.mp h with h | rfl; exact (wg_st_n _ _ _ _ (by omega)).trans (hf2 y h); exact (wg_st_s _ _ _ _).trans hbest), hP, hS, lv_sub hl [2, 3, 4, 5, 6, 7, 0] rfl⟩ (by omega)
set_option maxHeartbeats 4000000 in
set_option maxRecDepth 100000 in
theorem c_M_distance (l : Launch) (D : va_G) (cJ cI : ClassId) (h0 : Nat) (ad : Nat → Nat) (sz : Nat) (I : wg_S) (n : Nat) (k : Int32) (hn64 : n < 2 ^ 64) (hI : wg_MI I) : Met l y_M_distance (wg_ws y_M_distance b_M_distance 4 (some .int)) ({ frames := 3, cells := 0, slots := 0, locals := 74 }) (va_Pc [.ref h0, .long (lN n), .int k] (wg_Pc D cJ cI (wg_WM cJ cI h0 ad I) sz)) (va_Qi (fun (r : Int32) (u : wg_S) => (¬ (wg_ok n ∧ ∃ j, j < I 1 0 ∧ k = nI j) ∧ r = -1 ∧ u = I) ∨ (wg_ok n ∧ ∃ j, j < I 1 0 ∧ k = nI j ∧ r = nI (wg_bt n (I 0 j) (wg_ln n) (wg_ln (I 0 j))) ∧ wg_MI u ∧ (∀ x, ¬ x = 10 → u x = I x))) (fun (u : wg_S) t => va_P D wg_cl (wg_WM cJ cI h0 ad u) t.heap) (va_A (wg_WM cJ cI h0 ad I) sz)) 0 0 (va_A (wg_WM cJ cI h0 ad I) sz) := by
  refine wg_head (Wd := (fun I => wg_WM cJ cI h0 ad I)) (I := I) (fun A => va_Qi (fun (r : Int32) (u : wg_S) => (¬ (wg_ok n ∧ ∃ j, j < I 1 0 ∧ k = nI j) ∧ r = -1 ∧ u = I) ∨ (wg_ok n ∧ ∃ j, j < I 1 0 ∧ k = nI j ∧ r = nI (wg_bt n (I 0 j) (wg_ln n) (wg_ln (I 0 j))) ∧ wg_MI u ∧ (∀ x, ¬ x = 10 → u x = I x))) (fun (u : wg_S) t => va_P D wg_cl (wg_WM cJ cI h0 ad u) t.heap) A) R_M (by decide) rfl (Nat.le_of_ble_eq_true rfl) (fun I J => wg_same_M I J) ?_
  intro p e s m below meth c A ls hx hb hr hlk hml hown hnm hts hA hK hD hP hS hl hsz
  clear hsz
  have hl : lv_has ls 4 [(0, .ref h0), (1, .long (lN n)), (3, .int k)] := hl
  have hP : va_P D wg_cl (wg_WM cJ cI h0 ad I) s.heap := hP
  skip
  have hI' := hI
  obtain ⟨hn, hse, hfd, hnd, hw, hOW, hOL⟩ := hI'
  refine lv_lload_n hx hb d_M_distance_0 rfl (lv_at hl 1 rfl) ?_
  refine wg_csi (As := [.long (lN n)]) (rest := []) hx hb hml hown hts hK hP hS hA (c_M_isWord l D cJ cI _ n (by omega)) kc_M_44 ⟨rfl, rfl⟩ ⟨Nat.le_of_ble_eq_true rfl, Nat.le_of_ble_eq_true rfl⟩ rfl hl.1 rfl (Nat.le_of_ble_eq_true rfl) d_M_distance_1 ⟨Nat.zero_le _, Nat.zero_le _⟩ (fun r H locs q1 hP hS => ?_)
  rcases q1 with ⟨rfl, hok1⟩ | ⟨rfl, hok1⟩
  · skip
    have hlt1 := hok1.1
    refine lv_if_eq (tgt := 19) hx hb d_M_distance_4 (by decide) (fun h => absurd h (by decide +kernel)) (fun _ => ?_)
    refine lv_iload_n hx hb d_M_distance_7 rfl (lv_at hl 2 rfl) ?_
    refine lv_if_lt (tgt := 19) hx hb d_M_distance_8 (by decide) (fun h8 => ?_) (fun h8 => ?_)
    · refine lv_iconst (v := (-1)) hx hb d_M_distance_19 (by decide +kernel) ?_
      refine lv_goto (tgt := 34) hx hb d_M_distance_20 (by decide) ?_
      exact W.iret (v := (-1)) hx hb hr (fun tt hth hW => ⟨⟨_, I, rfl, (Or.inl ⟨by first | exact fun q => hok1 q.1 | exact fun q => (by obtain ⟨j, q1, q2⟩ := q.2; exact wg_has0a (n := I 1 0) (by omega) h8 j q1 q2) | exact fun q => (by obtain ⟨j, q1, q2⟩ := q.2; exact wg_has0b (n := I 1 0) (by omega) (Int32.not_lt.mp h16) j q1 q2), rfl, rfl⟩), wg_h hth hP⟩, hS.F hth⟩) hS.2.2 d_M_distance_34
    · refine lv_iload_n hx hb d_M_distance_11 rfl (lv_at hl 2 rfl) ?_
      refine lv_aload_n hx hb d_M_distance_12 rfl (lv_at hl 0 rfl) ?_
      refine wg_gM hx hb hts hown hK hP 1 (by decide) (v := .int (nI (I 1 0))) kf_M_32 rfl d_M_distance_13 ?_
      refine lv_icmp_lt (tgt := 23) hx hb d_M_distance_16 (by decide) (fun h16 => ?_) (fun h16 => ?_)
      · obtain ⟨j, hj, rfl⟩ := wg_has1 (n := I 1 0) (by omega) h8 (Int32.not_le.mpr h16)
        refine lv_aload_n hx hb d_M_distance_23 rfl (lv_at hl 0 rfl) ?_
        refine lv_lload_n hx hb d_M_distance_24 rfl (lv_at hl 1 rfl) ?_
        refine lv_aload_n hx hb d_M_distance_25 rfl (lv_at hl 0 rfl) ?_
        refine wg_gM hx hb hts hown hK hP 0 (by decide) (v := .ref (ad 0)) kf_M_7 rfl d_M_distance_26 ?_
        refine lv_iload_n hx hb d_M_distance_29 rfl (lv_at hl 2 rfl) ?_
        refine wg_lld (f := I 0) (j := j) hx hb hK hP 1 rfl (by omega) (by decide) d_M_distance_30 ?_
        have hB30 := hw j (by omega)
        refine wg_cvi (As := [.long (lN n), .long (lN (I 0 j))]) (rest := []) hx hb hml hown hts hK hP (hD _) hS hA rfl rfl rfl (c_M_between l D cJ cI h0 ad _ I n (I 0 j) (by omega) (by omega)) kc_M_79 ⟨rfl, rfl⟩ ⟨Nat.le_of_ble_eq_true rfl, Nat.le_of_ble_eq_true rfl⟩ rfl hl.1 rfl (Nat.le_of_ble_eq_true rfl) d_M_distance_31 ⟨Nat.zero_le _, Nat.zero_le _⟩ (fun r u31 tt H locs ht q31 hB _ _ hS => ?_)
        have hP : va_P D wg_cl (wg_WM cJ cI h0 ad u31) H := by rw [← ht]; exact hB
        clear hB ht tt
        obtain ⟨rfl, hq31a⟩ := q31
        have hl31a := wg_ln_le n
        have hl31b := wg_ln_le (I 0 j)
        have hl31c := wg_bt_le n (I 0 j) (wg_ln n) (wg_ln (I 0 j))
        exact W.iret (v := (nI (wg_bt n (I 0 j) (wg_ln n) (wg_ln (I 0 j))))) hx hb hr (fun tt hth hW => ⟨⟨_, u31, rfl, (Or.inr ⟨hok1, j, hj, rfl, rfl, wg_MI_10 hI hq31a, hq31a⟩), wg_h hth hP⟩, hS.F hth⟩) hS.2.2 d_M_distance_34
      · refine lv_iconst (v := (-1)) hx hb d_M_distance_19 (by decide +kernel) ?_
        refine lv_goto (tgt := 34) hx hb d_M_distance_20 (by decide) ?_
        exact W.iret (v := (-1)) hx hb hr (fun tt hth hW => ⟨⟨_, I, rfl, (Or.inl ⟨by first | exact fun q => hok1 q.1 | exact fun q => (by obtain ⟨j, q1, q2⟩ := q.2; exact wg_has0a (n := I 1 0) (by omega) h8 j q1 q2) | exact fun q => (by obtain ⟨j, q1, q2⟩ := q.2; exact wg_has0b (n := I 1 0) (by omega) (Int32.not_lt.mp h16) j q1 q2), rfl, rfl⟩), wg_h hth hP⟩, hS.F hth⟩) hS.2.2 d_M_distance_34
  · skip
    refine lv_if_eq (tgt := 19) hx hb d_M_distance_4 (by decide) (fun _ => ?_) (fun h => absurd h (by decide +kernel))
    refine lv_iconst (v := (-1)) hx hb d_M_distance_19 (by decide +kernel) ?_
    refine lv_goto (tgt := 34) hx hb d_M_distance_20 (by decide) ?_
    exact W.iret (v := (-1)) hx hb hr (fun tt hth hW => ⟨⟨_, I, rfl, (Or.inl ⟨by first | exact fun q => hok1 q.1 | exact fun q => (by obtain ⟨j, q1, q2⟩ := q.2; exact wg_has0a (n := I 1 0) (by omega) h8 j q1 q2) | exact fun q => (by obtain ⟨j, q1, q2⟩ := q.2; exact wg_has0b (n := I 1 0) (by omega) (Int32.not_lt.mp h16) j q1 q2), rfl, rfl⟩), wg_h hth hP⟩, hS.F hth⟩) hS.2.2 d_M_distance_34
set_option maxHeartbeats 4000000 in
set_option maxRecDepth 100000 in
theorem c_M_search (l : Launch) (D : va_G) (cJ cI : ClassId) (h0 : Nat) (ad : Nat → Nat) (sz : Nat) (I : wg_S) (n : Nat) (d : Int32) (hn64 : n < 2 ^ 64) (hI : wg_MI I) : Met l y_M_search (wg_ws y_M_search b_M_search 6 (some .int)) ({ frames := 3, cells := 0, slots := 0, locals := 74 }) (va_Pc [.ref h0, .long (lN n), .int d] (wg_Pc D cJ cI (wg_WM cJ cI h0 ad I) sz)) (va_Qi (fun (r : Int32) (u : wg_S) => (I 2 0 = 0 ∧ r = -1 ∧ u = I) ∨ (¬ I 2 0 = 0 ∧ ¬ (wg_ok n ∧ ∃ dn, dn ≤ 3 ∧ d = nI dn) ∧ r = -2 ∧ u = I) ∨ (¬ I 2 0 = 0 ∧ wg_ok n ∧ ∃ dn, dn ≤ 3 ∧ d = nI dn ∧ r = nI (u 3 0) ∧ u 3 0 = wg_ct (fun k => wg_bt n (I 0 k) (wg_ln n) (wg_ln (I 0 k))) (dn + 1) (I 1 0) ∧ wg_RS (fun k => wg_bt n (I 0 k) (wg_ln n) (wg_ln (I 0 k))) (I 1 0) (u 4) (u 5) (dn + 1) 0 ∧ wg_MI u ∧ (∀ j, ¬ j = 3 → ¬ j = 4 → ¬ j = 5 → ¬ j = 10 → u j = I j))) (fun (u : wg_S) t => va_P D wg_cl (wg_WM cJ cI h0 ad u) t.heap) (va_A (wg_WM cJ cI h0 ad I) sz)) 0 0 (va_A (wg_WM cJ cI h0 ad I) sz) := by
  refine wg_head (Wd := (fun I => wg_WM cJ cI h0 ad I)) (I := I) (fun A => va_Qi (fun (r : Int32) (u : wg_S) => (I 2 0 = 0 ∧ r = -1 ∧ u = I) ∨ (¬ I 2 0 = 0 ∧ ¬ (wg_ok n ∧ ∃ dn, dn ≤ 3 ∧ d = nI dn) ∧ r = -2 ∧ u = I) ∨ (¬ I 2 0 = 0 ∧ wg_ok n ∧ ∃ dn, dn ≤ 3 ∧ d = nI dn ∧ r = nI (u 3 0) ∧ u 3 0 = wg_ct (fun k => wg_bt n (I 0 k) (wg_ln n) (wg_ln (I 0 k))) (dn + 1) (I 1 0) ∧ wg_RS (fun k => wg_bt n (I 0 k) (wg_ln n) (wg_ln (I 0 k))) (I 1 0) (u 4) (u 5) (dn + 1) 0 ∧ wg_MI u ∧ (∀ j, ¬ j = 3 → ¬ j = 4 → ¬ j = 5 → ¬ j = 10 → u j = I j))) (fun (u : wg_S) t => va_P D wg_cl (wg_WM cJ cI h0 ad u) t.heap) A) R_M (by decide) rfl (Nat.le_of_ble_eq_true rfl) (fun I J => wg_same_M I J) ?_
  intro p e s m below meth c A ls hx hb hr hlk hml hown hnm hts hA hK hD hP hS hl hsz
  clear hsz
  have hl : lv_has ls 6 [(0, .ref h0), (1, .long (lN n)), (3, .int d)] := hl
  have hP : va_P D wg_cl (wg_WM cJ cI h0 ad I) s.heap := hP
  skip
  have hI' := hI
  obtain ⟨hn, hse, hfd, hnd, hw, hOW, hOL⟩ := hI'
  refine lv_aload_n hx hb d_M_search_0 rfl (lv_at hl 0 rfl) ?_
  refine wg_gM hx hb hts hown hK hP 2 (by decide) (v := .int (nI (I 2 0))) kf_M_40 rfl d_M_search_1 ?_
  refine lv_if_ne (tgt := 9) hx hb d_M_search_4 (by decide) (fun h4 => ?_) (fun h4 => ?_)
  · rw [wg_z0 (by omega)] at h4
    refine lv_lload_n hx hb d_M_search_9 rfl (lv_at hl 1 rfl) ?_
    refine wg_csi (As := [.long (lN n)]) (rest := []) hx hb hml hown hts hK hP hS hA (c_M_isWord l D cJ cI _ n (by omega)) kc_M_44 ⟨rfl, rfl⟩ ⟨Nat.le_of_ble_eq_true rfl, Nat.le_of_ble_eq_true rfl⟩ rfl hl.1 rfl (Nat.le_of_ble_eq_true rfl) d_M_search_10 ⟨Nat.zero_le _, Nat.zero_le _⟩ (fun r H locs q10 hP hS => ?_)
    rcases q10 with ⟨rfl, hok10⟩ | ⟨rfl, hok10⟩
    · skip
      have hlt10 := hok10.1
      refine lv_if_eq (tgt := 25) hx hb d_M_search_13 (by decide) (fun h => absurd h (by decide +kernel)) (fun _ => ?_)
      refine lv_iload_n hx hb d_M_search_16 rfl (lv_at hl 2 rfl) ?_
      refine lv_if_lt (tgt := 25) hx hb d_M_search_17 (by decide) (fun h17 => ?_) (fun h17 => ?_)
      · refine lv_bipush (v := (-2)) hx hb d_M_search_25 (by decide +kernel) ?_
        exact W.iret (v := (-2)) hx hb hr (fun tt hth hW => ⟨⟨_, I, rfl, (Or.inr (Or.inl ⟨h4, by first | exact fun q => hok10 q.1 | exact fun q => wg_dno1 h17 q.2 | exact fun q => wg_dno2 h22 q.2, rfl, rfl⟩)), wg_h hth hP⟩, hS.F hth⟩) hS.2.2 d_M_search_27
      · refine lv_iload_n hx hb d_M_search_20 rfl (lv_at hl 2 rfl) ?_
        refine lv_iconst (v := (nI 3)) hx hb d_M_search_21 (by decide +kernel) ?_
        refine lv_icmp_le (tgt := 28) hx hb d_M_search_22 (by decide) (fun h22 => ?_) (fun h22 => ?_)
        · obtain ⟨dn, hdn, rfl⟩ := nI_of2 (n := 3) (by decide +kernel) h17 h22
          refine lv_aload_n hx hb d_M_search_28 rfl (lv_at hl 0 rfl) ?_
          refine lv_iconst (v := (nI 0)) hx hb d_M_search_29 (by decide +kernel) ?_
          refine wg_pM3 (v := 0) hx hb hts hown hK hP hD hS kf_M_70 d_M_search_30 (fun H locs hP hS => ?_)
          refine lv_iconst (v := (nI 0)) hx hb d_M_search_33 (by decide +kernel) ?_
          refine lv_istore (lv' := [(4, .int (nI 0)), (0, .ref h0), (1, .long (lN n)), (3, .int (nI dn))]) hx hb d_M_search_34 hl (by decide) rfl (fun ls hl => ?_)
          refine wg_loop (fun g _ _ J H locs ls => (g ≤ dn + 1) ∧ (∀ j, ¬ j = 3 → ¬ j = 4 → ¬ j = 5 → ¬ j = 10 → J j = I j) ∧ (J 3 0 = wg_ct (fun k => wg_bt n (I 0 k) (wg_ln n) (wg_ln (I 0 k))) g (I 1 0)) ∧ (wg_RS (fun k => wg_bt n (I 0 k) (wg_ln n) (wg_ln (I 0 k))) (I 1 0) (J 4) (J 5) g 0) ∧ va_P D wg_cl (wg_WM cJ cI h0 ad J) H ∧ va_S A s.heap H locs ∧ lv_has ls 6 [(0, .ref h0), (1, .long (lN n)), (3, .int (nI dn)), (4, .int (nI g))]) (fun g _ _ J => dn + 1 - g) (fun g _z0 _z1 J H locs ls hI ih36 => ?_) 0 0 0 (wg_st I 3 0 0) _ _ _ ⟨(by omega), (fun j h _ _ _ => wg_st_o _ _ _ _ h), (wg_ct_0 _ _).symm, (wg_RS_0 _ _ _ _), hP, hS, lv_sub hl [1, 2, 3, 0] rfl⟩
          obtain ⟨hg, hJo, hJc, hJR, hP, hS, hl⟩ := hI
          have hJ48 : J 3 0 ≤ 48 := by rw [hJc]; have := wg_cc_le (fun k => wg_bt n (I 0 k) (wg_ln n) (wg_ln (I 0 k))) g (I 1 0); omega
          refine lv_iload hx hb d_M_search_36 (lv_at hl 3 rfl) ?_
          refine lv_iload_n hx hb d_M_search_38 rfl (lv_at hl 2 rfl) ?_
          refine lv_icmp_gt (tgt := 115) hx hb d_M_search_39 (by decide) (fun h39 => ?_) (fun h39 => ?_)
          · rw [nI_ltI (by omega) (by omega)] at h39
            refine lv_aload_n hx hb d_M_search_115 rfl (lv_at hl 0 rfl) ?_
            refine wg_gM hx hb hts hown hK hP 3 (by decide) (v := .int (nI (J 3 0))) kf_M_70 rfl d_M_search_116 ?_
            exact W.iret (v := (nI (J 3 0))) hx hb hr (fun tt hth hW => ⟨⟨_, J, rfl, (Or.inr (Or.inr ⟨h4, hok10, dn, hdn, rfl, rfl, by rw [hJc, show g = dn + 1 by omega], by rw [show g = dn + 1 by omega] at hJR; exact hJR, wg_MI_s hI hJo hJ48, hJo⟩)), wg_h hth hP⟩, hS.F hth⟩) hS.2.2 d_M_search_119
          · rw [nI_ltI (by omega) (by omega)] at h39
            refine lv_iconst (v := (nI 0)) hx hb d_M_search_42 (by decide +kernel) ?_
            refine lv_istore (lv' := [(5, .int (nI 0)), (0, .ref h0), (1, .long (lN n)), (3, .int (nI dn)), (4, .int (nI g))]) hx hb d_M_search_43 hl (by decide) rfl (fun ls hl => ?_)
            refine wg_loop (fun k _ _ K H locs ls => (k ≤ I 1 0) ∧ (∀ j, ¬ j = 3 → ¬ j = 4 → ¬ j = 5 → ¬ j = 10 → K j = I j) ∧ (K 3 0 = wg_ct (fun k => wg_bt n (I 0 k) (wg_ln n) (wg_ln (I 0 k))) g (I 1 0) + wg_cq (fun k => wg_bt n (I 0 k) (wg_ln n) (wg_ln (I 0 k))) g k) ∧ (wg_RS (fun k => wg_bt n (I 0 k) (wg_ln n) (wg_ln (I 0 k))) (I 1 0) (K 4) (K 5) g k) ∧ va_P D wg_cl (wg_WM cJ cI h0 ad K) H ∧ va_S A s.heap H locs ∧ lv_has ls 6 [(0, .ref h0), (1, .long (lN n)), (3, .int (nI dn)), (4, .int (nI g)), (5, .int (nI k))]) (fun k _ _ K => 48 - k) (fun k _z0 _z1 K H locs ls hI ih45 => ?_) 0 0 0 J _ _ _ ⟨(by omega), hJo, hJc, hJR, hP, hS, lv_sub hl [1, 2, 3, 4, 0] rfl⟩
            obtain ⟨hk, hKo, hKc, hKR, hP, hS, hl⟩ := hI
            have hK1 : K 1 0 = I 1 0 := by rw [hKo 1 (by decide) (by decide) (by decide) (by decide)]
            have hK0 : K 0 = I 0 := hKo 0 (by decide) (by decide) (by decide) (by decide)
            have hKw : ∀ k, k < 48 → K 0 k < 2 ^ 60 := by rw [hK0]; exact hw
            refine lv_iload hx hb d_M_search_45 (lv_at hl 4 rfl) ?_
            refine lv_aload_n hx hb d_M_search_47 rfl (lv_at hl 0 rfl) ?_
            refine wg_gM hx hb hts hown hK hP 1 (by decide) (v := .int (nI (K 1 0))) kf_M_32 rfl d_M_search_48 ?_
            refine lv_icmp_ge (tgt := 109) hx hb d_M_search_51 (by decide) (fun h51 => ?_) (fun h51 => ?_)
            · rw [nI_leI (by omega) (by omega)] at h51
              have hkk : k = I 1 0 := by omega
              refine lv_iinc (v := nI (g + 1)) (k := 3) (lv' := [(4, .int (nI (g + 1))), (0, .ref h0), (1, .long (lN n)), (3, .int (nI dn)), (5, .int (nI k))]) hx hb d_M_search_109 hl rfl (nI_1 _) (by decide) rfl (fun ls hl => ?_)
              refine lv_goto (tgt := 36) hx hb d_M_search_112 (by decide) ?_
              exact ih36 (g + 1) 0 0 K _ _ _ ⟨(by omega), hKo, (by rw [hKc, wg_ct_s, hkk]), (wg_RS_n (by rw [hkk] at hKR; exact hKR)), hP, hS, lv_sub hl [1, 2, 3, 0] rfl⟩ (by omega)
            · rw [nI_leI (by omega) (by omega)] at h51
              refine lv_aload_n hx hb d_M_search_54 rfl (lv_at hl 0 rfl) ?_
              refine lv_lload_n hx hb d_M_search_55 rfl (lv_at hl 1 rfl) ?_
              refine lv_aload_n hx hb d_M_search_56 rfl (lv_at hl 0 rfl) ?_
              refine wg_gM hx hb hts hown hK hP 0 (by decide) (v := .ref (ad 0)) kf_M_7 rfl d_M_search_57 ?_
              refine lv_iload hx hb d_M_search_60 (lv_at hl 4 rfl) ?_
              refine wg_lld (f := K 0) (j := k) hx hb hK hP 1 rfl (by omega) (by decide) d_M_search_62 ?_
              have hB62 := hKw k (by omega)
              refine wg_cvi (As := [.long (lN n), .long (lN (K 0 k))]) (rest := []) hx hb hml hown hts hK hP (hD _) hS hA rfl rfl rfl (c_M_between l D cJ cI h0 ad _ K n (K 0 k) (by omega) (by omega)) kc_M_79 ⟨rfl, rfl⟩ ⟨Nat.le_of_ble_eq_true rfl, Nat.le_of_ble_eq_true rfl⟩ rfl hl.1 rfl (Nat.le_of_ble_eq_true rfl) d_M_search_63 ⟨Nat.zero_le _, Nat.zero_le _⟩ (fun r u63 tt H locs ht q63 hB _ _ hS => ?_)
              have hP : va_P D wg_cl (wg_WM cJ cI h0 ad u63) H := by rw [← ht]; exact hB
              clear hB ht tt
              obtain ⟨rfl, hq63a⟩ := q63
              have hl63a := wg_ln_le n
              have hl63b := wg_ln_le (K 0 k)
              have hl63c := wg_bt_le n (K 0 k) (wg_ln n) (wg_ln (K 0 k))
              refine lv_iload hx hb d_M_search_66 (lv_at hl 3 rfl) ?_
              refine lv_icmp_ne (tgt := 103) hx hb d_M_search_68 (by decide) (fun h68 => ?_) (fun h68 => ?_)
              · rw [nI_eq (by omega) (by omega)] at h68
                rw [hK0] at h68
                refine lv_iinc (v := nI (k + 1)) (k := 4) (lv' := [(5, .int (nI (k + 1))), (0, .ref h0), (1, .long (lN n)), (3, .int (nI dn)), (4, .int (nI g))]) hx hb d_M_search_103 hl rfl (nI_1 _) (by decide) rfl (fun ls hl => ?_)
                refine lv_goto (tgt := 45) hx hb d_M_search_106 (by decide) ?_
                exact ih45 (k + 1) 0 0 u63 _ _ _ ⟨(by omega), (by first | exact fun j h1 h2 h3 h4 => (hq63a j h4).trans (hKo j h1 h2 h3 h4) | exact fun j h1 h2 h3 h4 => (wg_st_o _ _ _ _ h1).trans ((wg_st_o _ _ _ _ h3).trans ((wg_st_o _ _ _ _ h2).trans ((hq63a j h4).trans (hKo j h1 h2 h3 h4))))), (by first | (show u63 3 0 + 1 = _; rw [wg_cq_t (f := (fun k => wg_bt n (I 0 k) (wg_ln n) (wg_ln (I 0 k)))) (e := g) (k := k) h68]; omega) | (rw [wg_cq_f (f := (fun k => wg_bt n (I 0 k) (wg_ln n) (wg_ln (I 0 k)))) (e := g) (k := k) h68, hq63a 3 (by decide)]; exact hKc)), (by first | (rw [hq63a 4 (by decide), hq63a 5 (by decide)]; exact wg_RS_f (f := (fun k => wg_bt n (I 0 k) (wg_ln n) (wg_ln (I 0 k)))) hKR h68) | exact wg_RS_t (f := (fun k => wg_bt n (I 0 k) (wg_ln n) (wg_ln (I 0 k)))) (A' := wg_st u63 4 (u63 3 0) k 4) (B' := wg_st u63 5 (u63 3 0) g 5) hKR (by omega) h68 (fun x h => by rw [← hKc, ← hu3] at h; rw [← hu4]; exact wg_st_n _ _ _ _ h) (fun x h => by rw [← hKc, ← hu3] at h; rw [← hu5]; exact wg_st_n _ _ _ _ h) (by rw [← hKc, ← hu3]; exact wg_st_s _ _ _ _) (by rw [← hKc, ← hu3]; exact wg_st_s _ _ _ _)), hP, hS, lv_sub hl [1, 2, 3, 4, 0] rfl⟩ (by omega)
              · rw [nI_eq (by omega) (by omega)] at h68
                rw [hK0] at h68
                have hcl := wg_cc_lt (f := (fun k => wg_bt n (I 0 k) (wg_ln n) (wg_ln (I 0 k)))) (n := I 1 0) (by omega) h68
                have hu3 : u63 3 0 = K 3 0 := by rw [hq63a 3 (by decide)]
                have hu4 : u63 4 = K 4 := hq63a 4 (by decide)
                have hu5 : u63 5 = K 5 := hq63a 5 (by decide)
                refine lv_aload_n hx hb d_M_search_71 rfl (lv_at hl 0 rfl) ?_
                refine wg_gM hx hb hts hown hK hP 4 (by decide) (v := .ref (ad 4)) kf_M_13 rfl d_M_search_72 ?_
                refine lv_aload_n hx hb d_M_search_75 rfl (lv_at hl 0 rfl) ?_
                refine wg_gM hx hb hts hown hK hP 3 (by decide) (v := .int (nI (u63 3 0))) kf_M_70 rfl d_M_search_76 ?_
                refine lv_iload hx hb d_M_search_79 (lv_at hl 4 rfl) ?_
                refine wg_sM4 (j := (u63 3 0)) (x := k) hx hb hK hP hD hS (by omega) d_M_search_81 (fun H locs hP hS => ?_)
                refine lv_aload_n hx hb d_M_search_82 rfl (lv_at hl 0 rfl) ?_
                refine wg_gM hx hb hts hown hK hP 5 (by decide) (v := .ref (ad 5)) kf_M_17 rfl d_M_search_83 ?_
                refine lv_aload_n hx hb d_M_search_86 rfl (lv_at hl 0 rfl) ?_
                refine wg_gM hx hb hts hown hK hP 3 (by decide) (v := .int (nI (u63 3 0))) kf_M_70 rfl d_M_search_87 ?_
                refine lv_iload hx hb d_M_search_90 (lv_at hl 3 rfl) ?_
                refine wg_sM5 (j := (u63 3 0)) (x := g) hx hb hK hP hD hS (by omega) d_M_search_92 (fun H locs hP hS => ?_)
                refine lv_aload_n hx hb d_M_search_93 rfl (lv_at hl 0 rfl) ?_
                refine lv_aload_n hx hb d_M_search_94 rfl (lv_at hl 0 rfl) ?_
                refine wg_gM hx hb hts hown hK hP 3 (by decide) (v := .int (nI (u63 3 0))) kf_M_70 rfl d_M_search_95 ?_
                refine lv_iconst (v := (nI 1)) hx hb d_M_search_98 (by decide +kernel) ?_
                refine t_iadd (v := nI ((u63 3 0) + 1)) hx hb d_M_search_99 (nI_add _ _) ?_
                refine wg_pM3 (v := ((u63 3 0) + 1)) hx hb hts hown hK hP hD hS kf_M_70 d_M_search_100 (fun H locs hP hS => ?_)
                refine lv_iinc (v := nI (k + 1)) (k := 4) (lv' := [(5, .int (nI (k + 1))), (0, .ref h0), (1, .long (lN n)), (3, .int (nI dn)), (4, .int (nI g))]) hx hb d_M_search_103 hl rfl (nI_1 _) (by decide) rfl (fun ls hl => ?_)
                refine lv_goto (tgt := 45) hx hb d_M_search_106 (by decide) ?_
                exact ih45 (k + 1) 0 0 (wg_st (wg_st (wg_st u63 4 (u63 3 0) k) 5 (u63 3 0) g) 3 0 ((u63 3 0) + 1)) _ _ _ ⟨(by omega), (by first | exact fun j h1 h2 h3 h4 => (hq63a j h4).trans (hKo j h1 h2 h3 h4) | exact fun j h1 h2 h3 h4 => (wg_st_o _ _ _ _ h1).trans ((wg_st_o _ _ _ _ h3).trans ((wg_st_o _ _ _ _ h2).trans ((hq63a j h4).trans (hKo j h1 h2 h3 h4))))), (by first | (show u63 3 0 + 1 = _; rw [wg_cq_t (f := (fun k => wg_bt n (I 0 k) (wg_ln n) (wg_ln (I 0 k)))) (e := g) (k := k) h68]; omega) | (rw [wg_cq_f (f := (fun k => wg_bt n (I 0 k) (wg_ln n) (wg_ln (I 0 k)))) (e := g) (k := k) h68, hq63a 3 (by decide)]; exact hKc)), (by first | (rw [hq63a 4 (by decide), hq63a 5 (by decide)]; exact wg_RS_f (f := (fun k => wg_bt n (I 0 k) (wg_ln n) (wg_ln (I 0 k)))) hKR h68) | exact wg_RS_t (f := (fun k => wg_bt n (I 0 k) (wg_ln n) (wg_ln (I 0 k)))) (A' := wg_st u63 4 (u63 3 0) k 4) (B' := wg_st u63 5 (u63 3 0) g 5) hKR (by omega) h68 (fun x h => by rw [← hKc, ← hu3] at h; rw [← hu4]; exact wg_st_n _ _ _ _ h) (fun x h => by rw [← hKc, ← hu3] at h; rw [← hu5]; exact wg_st_n _ _ _ _ h) (by rw [← hKc, ← hu3]; exact wg_st_s _ _ _ _) (by rw [← hKc, ← hu3]; exact wg_st_s _ _ _ _)), hP, hS, lv_sub hl [1, 2, 3, 4, 0] rfl⟩ (by omega)
        · refine lv_bipush (v := (-2)) hx hb d_M_search_25 (by decide +kernel) ?_
          exact W.iret (v := (-2)) hx hb hr (fun tt hth hW => ⟨⟨_, I, rfl, (Or.inr (Or.inl ⟨h4, by first | exact fun q => hok10 q.1 | exact fun q => wg_dno1 h17 q.2 | exact fun q => wg_dno2 h22 q.2, rfl, rfl⟩)), wg_h hth hP⟩, hS.F hth⟩) hS.2.2 d_M_search_27
    · skip
      refine lv_if_eq (tgt := 25) hx hb d_M_search_13 (by decide) (fun _ => ?_) (fun h => absurd h (by decide +kernel))
      refine lv_bipush (v := (-2)) hx hb d_M_search_25 (by decide +kernel) ?_
      exact W.iret (v := (-2)) hx hb hr (fun tt hth hW => ⟨⟨_, I, rfl, (Or.inr (Or.inl ⟨h4, by first | exact fun q => hok10 q.1 | exact fun q => wg_dno1 h17 q.2 | exact fun q => wg_dno2 h22 q.2, rfl, rfl⟩)), wg_h hth hP⟩, hS.F hth⟩) hS.2.2 d_M_search_27
  · rw [wg_z0 (by omega)] at h4
    refine lv_iconst (v := (-1)) hx hb d_M_search_7 (by decide +kernel) ?_
    exact W.iret (v := (-1)) hx hb hr (fun tt hth hW => ⟨⟨_, I, rfl, (Or.inl ⟨h4, rfl, rfl⟩), wg_h hth hP⟩, hS.F hth⟩) hS.2.2 d_M_search_8
set_option maxHeartbeats 4000000 in
set_option maxRecDepth 100000 in
theorem c_M_add (l : Launch) (D : va_G) (cJ cI : ClassId) (h0 : Nat) (ad : Nat → Nat) (sz : Nat) (I : wg_S) (n : Nat) (hn64 : n < 2 ^ 64) (hI : wg_MI I) : Met l y_M_add (wg_ws y_M_add b_M_add 3 (some .int)) ({ frames := 2, cells := 0, slots := 0, locals := 44 }) (va_Pc [.ref h0, .long (lN n)] (wg_Pc D cJ cI (wg_WM cJ cI h0 ad I) sz)) (va_Qi (fun (r : Int32) (u : wg_S) => wg_AddR (I 2 0) (I 1 0) (I 0) n r ∧ wg_MI u ∧ ((¬ r = 0 ∧ u = I) ∨ (r = 0 ∧ u 1 0 = I 1 0 + 1 ∧ u 0 (I 1 0) = n ∧ (∀ k, k < I 1 0 → u 0 k = I 0 k) ∧ (∀ j, 1 < j → u j = I j) ∧ u 0 = wg_st I 0 (I 1 0) n 0))) (fun (u : wg_S) t => va_P D wg_cl (wg_WM cJ cI h0 ad u) t.heap) (va_A (wg_WM cJ cI h0 ad I) sz)) 0 0 (va_A (wg_WM cJ cI h0 ad I) sz) := by
  refine wg_head (Wd := (fun I => wg_WM cJ cI h0 ad I)) (I := I) (fun A => va_Qi (fun (r : Int32) (u : wg_S) => wg_AddR (I 2 0) (I 1 0) (I 0) n r ∧ wg_MI u ∧ ((¬ r = 0 ∧ u = I) ∨ (r = 0 ∧ u 1 0 = I 1 0 + 1 ∧ u 0 (I 1 0) = n ∧ (∀ k, k < I 1 0 → u 0 k = I 0 k) ∧ (∀ j, 1 < j → u j = I j) ∧ u 0 = wg_st I 0 (I 1 0) n 0))) (fun (u : wg_S) t => va_P D wg_cl (wg_WM cJ cI h0 ad u) t.heap) A) R_M (by decide) rfl (Nat.le_of_ble_eq_true rfl) (fun I J => wg_same_M I J) ?_
  intro p e s m below meth c A ls hx hb hr hlk hml hown hnm hts hA hK hD hP hS hl hsz
  clear hsz
  have hl : lv_has ls 3 [(0, .ref h0), (1, .long (lN n))] := hl
  have hP : va_P D wg_cl (wg_WM cJ cI h0 ad I) s.heap := hP
  skip
  have hI' := hI
  obtain ⟨hn, hse, hfd, hnd, hw, hOW, hOL⟩ := hI'
  refine lv_aload_n hx hb d_M_add_0 rfl (lv_at hl 0 rfl) ?_
  refine wg_gM hx hb hts hown hK hP 2 (by decide) (v := .int (nI (I 2 0))) kf_M_40 rfl d_M_add_1 ?_
  refine lv_if_eq (tgt := 9) hx hb d_M_add_4 (by decide) (fun h4 => ?_) (fun h4 => ?_)
  · rw [wg_z0 (by omega)] at h4
    refine lv_lload_n hx hb d_M_add_9 rfl (lv_at hl 1 rfl) ?_
    refine wg_csi (As := [.long (lN n)]) (rest := []) hx hb hml hown hts hK hP hS hA (c_M_isWord l D cJ cI _ n (by omega)) kc_M_44 ⟨rfl, rfl⟩ ⟨Nat.le_of_ble_eq_true rfl, Nat.le_of_ble_eq_true rfl⟩ rfl hl.1 rfl (Nat.le_of_ble_eq_true rfl) d_M_add_10 ⟨Nat.zero_le _, Nat.zero_le _⟩ (fun r H locs q10 hP hS => ?_)
    rcases q10 with ⟨rfl, hok10⟩ | ⟨rfl, hok10⟩
    · skip
      have hlt10 := hok10.1
      refine lv_if_ne (tgt := 19) hx hb d_M_add_13 (by decide) (fun _ => ?_) (fun h => absurd h (by decide +kernel))
      refine lv_aload_n hx hb d_M_add_19 rfl (lv_at hl 0 rfl) ?_
      refine wg_gM hx hb hts hown hK hP 1 (by decide) (v := .int (nI (I 1 0))) kf_M_32 rfl d_M_add_20 ?_
      refine lv_bipush (v := (nI 48)) hx hb d_M_add_23 (by decide +kernel) ?_
      refine lv_icmp_ne (tgt := 31) hx hb d_M_add_25 (by decide) (fun h25 => ?_) (fun h25 => ?_)
      · rw [nI_eq (by omega) (by omega)] at h25
        refine lv_aload_n hx hb d_M_add_31 rfl (lv_at hl 0 rfl) ?_
        refine wg_gM hx hb hts hown hK hP 1 (by decide) (v := .int (nI (I 1 0))) kf_M_32 rfl d_M_add_32 ?_
        refine lv_if_le (tgt := 57) hx hb d_M_add_35 (by decide) (fun h35 => ?_) (fun h35 => ?_)
        · rw [wg_le0 (by omega)] at h35
          refine lv_aload_n hx hb d_M_add_57 rfl (lv_at hl 0 rfl) ?_
          refine wg_gM hx hb hts hown hK hP 0 (by decide) (v := .ref (ad 0)) kf_M_7 rfl d_M_add_58 ?_
          refine lv_aload_n hx hb d_M_add_61 rfl (lv_at hl 0 rfl) ?_
          refine wg_gM hx hb hts hown hK hP 1 (by decide) (v := .int (nI (I 1 0))) kf_M_32 rfl d_M_add_62 ?_
          refine lv_lload_n hx hb d_M_add_65 rfl (lv_at hl 1 rfl) ?_
          refine wg_sM0 (j := (I 1 0)) (x := n) hx hb hK hP hD hS (by omega) d_M_add_66 (fun H locs hP hS => ?_)
          refine lv_aload_n hx hb d_M_add_67 rfl (lv_at hl 0 rfl) ?_
          refine lv_aload_n hx hb d_M_add_68 rfl (lv_at hl 0 rfl) ?_
          refine wg_gM hx hb hts hown hK hP 1 (by decide) (v := .int (nI (I 1 0))) kf_M_32 rfl d_M_add_69 ?_
          refine lv_iconst (v := (nI 1)) hx hb d_M_add_72 (by decide +kernel) ?_
          refine t_iadd (v := nI ((I 1 0) + 1)) hx hb d_M_add_73 (nI_add _ _) ?_
          refine wg_pM1 (v := ((I 1 0) + 1)) hx hb hts hown hK hP hD hS kf_M_32 d_M_add_74 (fun H locs hP hS => ?_)
          refine lv_iconst (v := (nI 0)) hx hb d_M_add_77 (by decide +kernel) ?_
          exact W.iret (v := (nI 0)) hx hb hr (fun tt hth hW => ⟨⟨_, (wg_st (wg_st I 0 (I 1 0) n) 1 0 ((I 1 0) + 1)), rfl, ⟨Or.inr (Or.inr (Or.inr (Or.inr ⟨h4, hok10, by omega, by first | exact Or.inl (by omega) | exact Or.inr (by omega), nI_0⟩))), wg_MI_add hI (by omega) hlt10, Or.inr ⟨nI_0, rfl, wg_st_s I 0 (I 1 0) n, fun k hk => wg_st_n I 0 (I 1 0) n (by omega), fun j h => (wg_st_o _ _ _ _ (by omega)).trans (wg_st_o _ _ _ _ (by omega)), rfl⟩⟩, wg_h hth hP⟩, hS.F hth⟩) hS.2.2 d_M_add_78
        · rw [wg_le0 (by omega)] at h35
          refine lv_lload_n hx hb d_M_add_38 rfl (lv_at hl 1 rfl) ?_
          refine lv_aload_n hx hb d_M_add_39 rfl (lv_at hl 0 rfl) ?_
          refine wg_gM hx hb hts hown hK hP 0 (by decide) (v := .ref (ad 0)) kf_M_7 rfl d_M_add_40 ?_
          refine lv_aload_n hx hb d_M_add_43 rfl (lv_at hl 0 rfl) ?_
          refine wg_gM hx hb hts hown hK hP 1 (by decide) (v := .int (nI (I 1 0))) kf_M_32 rfl d_M_add_44 ?_
          refine lv_iconst (v := (nI 1)) hx hb d_M_add_47 (by decide +kernel) ?_
          refine t_isub (v := nI ((I 1 0) - 1)) hx hb d_M_add_48 (pk_sub (by omega)) ?_
          refine wg_lld (f := I 0) (j := ((I 1 0) - 1)) hx hb hK hP 1 rfl (by omega) (by decide) d_M_add_49 ?_
          have hB49 := hw ((I 1 0) - 1) (by omega)
          refine W.lcmp hx hb d_M_add_50 ?_
          refine lv_if_gt (tgt := 57) hx hb d_M_add_51 (by decide) (fun h51 => ?_) (fun h51 => ?_)
          · rw [lg_cmp_gt] at h51
            rw [pk_lLT (by omega) (by omega)] at h51
            refine lv_aload_n hx hb d_M_add_57 rfl (lv_at hl 0 rfl) ?_
            refine wg_gM hx hb hts hown hK hP 0 (by decide) (v := .ref (ad 0)) kf_M_7 rfl d_M_add_58 ?_
            refine lv_aload_n hx hb d_M_add_61 rfl (lv_at hl 0 rfl) ?_
            refine wg_gM hx hb hts hown hK hP 1 (by decide) (v := .int (nI (I 1 0))) kf_M_32 rfl d_M_add_62 ?_
            refine lv_lload_n hx hb d_M_add_65 rfl (lv_at hl 1 rfl) ?_
            refine wg_sM0 (j := (I 1 0)) (x := n) hx hb hK hP hD hS (by omega) d_M_add_66 (fun H locs hP hS => ?_)
            refine lv_aload_n hx hb d_M_add_67 rfl (lv_at hl 0 rfl) ?_
            refine lv_aload_n hx hb d_M_add_68 rfl (lv_at hl 0 rfl) ?_
            refine wg_gM hx hb hts hown hK hP 1 (by decide) (v := .int (nI (I 1 0))) kf_M_32 rfl d_M_add_69 ?_
            refine lv_iconst (v := (nI 1)) hx hb d_M_add_72 (by decide +kernel) ?_
            refine t_iadd (v := nI ((I 1 0) + 1)) hx hb d_M_add_73 (nI_add _ _) ?_
            refine wg_pM1 (v := ((I 1 0) + 1)) hx hb hts hown hK hP hD hS kf_M_32 d_M_add_74 (fun H locs hP hS => ?_)
            refine lv_iconst (v := (nI 0)) hx hb d_M_add_77 (by decide +kernel) ?_
            exact W.iret (v := (nI 0)) hx hb hr (fun tt hth hW => ⟨⟨_, (wg_st (wg_st I 0 (I 1 0) n) 1 0 ((I 1 0) + 1)), rfl, ⟨Or.inr (Or.inr (Or.inr (Or.inr ⟨h4, hok10, by omega, by first | exact Or.inl (by omega) | exact Or.inr (by omega), nI_0⟩))), wg_MI_add hI (by omega) hlt10, Or.inr ⟨nI_0, rfl, wg_st_s I 0 (I 1 0) n, fun k hk => wg_st_n I 0 (I 1 0) n (by omega), fun j h => (wg_st_o _ _ _ _ (by omega)).trans (wg_st_o _ _ _ _ (by omega)), rfl⟩⟩, wg_h hth hP⟩, hS.F hth⟩) hS.2.2 d_M_add_78
          · rw [lg_cmp_gt] at h51
            rw [pk_lLT (by omega) (by omega)] at h51
            refine lv_bipush (v := (-4)) hx hb d_M_add_54 (by decide +kernel) ?_
            exact W.iret (v := (-4)) hx hb hr (fun tt hth hW => ⟨⟨_, I, rfl, ⟨Or.inr (Or.inr (Or.inr (Or.inl ⟨h4, hok10, by omega, by omega, by omega, rfl⟩))), hI, Or.inl ⟨by decide +kernel, rfl⟩⟩, wg_h hth hP⟩, hS.F hth⟩) hS.2.2 d_M_add_56
      · rw [nI_eq (by omega) (by omega)] at h25
        refine lv_bipush (v := (-3)) hx hb d_M_add_28 (by decide +kernel) ?_
        exact W.iret (v := (-3)) hx hb hr (fun tt hth hW => ⟨⟨_, I, rfl, ⟨Or.inr (Or.inr (Or.inl ⟨h4, hok10, by omega, rfl⟩)), hI, Or.inl ⟨by decide +kernel, rfl⟩⟩, wg_h hth hP⟩, hS.F hth⟩) hS.2.2 d_M_add_30
    · skip
      refine lv_if_ne (tgt := 19) hx hb d_M_add_13 (by decide) (fun h => absurd h (by decide +kernel)) (fun _ => ?_)
      refine lv_bipush (v := (-2)) hx hb d_M_add_16 (by decide +kernel) ?_
      exact W.iret (v := (-2)) hx hb hr (fun tt hth hW => ⟨⟨_, I, rfl, ⟨Or.inr (Or.inl ⟨h4, hok10, rfl⟩), hI, Or.inl ⟨by decide +kernel, rfl⟩⟩, wg_h hth hP⟩, hS.F hth⟩) hS.2.2 d_M_add_18
  · rw [wg_z0 (by omega)] at h4
    refine lv_iconst (v := (-1)) hx hb d_M_add_7 (by decide +kernel) ?_
    exact W.iret (v := (-1)) hx hb hr (fun tt hth hW => ⟨⟨_, I, rfl, ⟨Or.inl ⟨h4, rfl⟩, hI, Or.inl ⟨by decide +kernel, rfl⟩⟩, wg_h hth hP⟩, hS.F hth⟩) hS.2.2 d_M_add_8
