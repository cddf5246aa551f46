set_option maxHeartbeats 4000000 in
set_option maxRecDepth 100000 in
theorem c_X_fillFirstRow (l : Launch) (D : va_G) (cJ cI : ClassId) (h0 : Nat) (ad : Nat → Nat) (sz : Nat) (I : wg_S) (a : Nat) (ha : a ≤ 12) (hT : ∀ k, k < 169 → I 12 k ≤ 24) : Met l y_X_fillFirstRow (wg_ws y_X_fillFirstRow b_X_fillFirstRow 3 none) ({ frames := 0, cells := 0, slots := 0, locals := 0 }) (va_Pc [.ref h0, .int (nI a)] (wg_Pc D cJ cI (wg_WX cJ cI h0 ad I) sz)) (va_Qv (fun (u : wg_S) => (∀ j, ¬ j = 12 → u j = I j) ∧ (∀ k, k < 169 → u 12 k ≤ 24) ∧ (∀ i, i ≤ a → u 12 i = i)) (fun (u : wg_S) t => va_P D wg_cl (wg_WX cJ cI h0 ad u) t.heap) (va_A (wg_WX cJ cI h0 ad I) sz)) 0 0 (va_A (wg_WX cJ cI h0 ad I) sz) := by
  refine wg_head (Wd := (fun I => wg_WX cJ cI h0 ad I)) (I := I) (fun A => va_Qv (fun (u : wg_S) => (∀ j, ¬ j = 12 → u j = I j) ∧ (∀ k, k < 169 → u 12 k ≤ 24) ∧ (∀ i, i ≤ a → u 12 i = i)) (fun (u : wg_S) t => va_P D wg_cl (wg_WX cJ cI h0 ad u) t.heap) A) R_X (by decide) rfl (Nat.le_of_ble_eq_true rfl) (fun I J => wg_same_X I J) ?_
  intro p e s m below meth c A ls hx hb hr hlk hml hown hnm hts hA hK hD hP hS hl hsz
  clear hsz
  have hl : lv_has ls 3 [(0, .ref h0), (1, .int (nI a))] := hl
  have hP : va_P D wg_cl (wg_WX cJ cI h0 ad I) s.heap := hP
  skip
  refine lv_iconst (v := (nI 0)) hx hb d_X_fillFirstRow_0 (by decide +kernel) ?_
  refine lv_istore_n (lv' := [(2, .int (nI 0)), (0, .ref h0), (1, .int (nI a))]) hx hb d_X_fillFirstRow_1 rfl hl (by decide) rfl (fun ls hl => ?_)
  refine wg_loop (fun i _ _ J H locs ls => (i ≤ a + 1) ∧ (∀ j, ¬ j = 12 → J j = I j) ∧ (∀ k, k < 169 → J 12 k ≤ 24) ∧ (∀ x, x < i → J 12 x = x) ∧ va_P D wg_cl (wg_WX cJ cI h0 ad J) H ∧ va_S A s.heap H locs ∧ lv_has ls 3 [(0, .ref h0), (1, .int (nI a)), (2, .int (nI i))]) (fun i _ _ J => 13 - i) (fun i _z0 _z1 J H locs ls hI ih2 => ?_) 0 0 0 I _ _ _ ⟨(by omega), (fun _ _ => rfl), hT, (fun x h => by omega), hP, hS, lv_sub hl [1, 2, 0] rfl⟩
  obtain ⟨hi, hJo, hJT, hJi, hP, hS, hl⟩ := hI
  refine lv_iload_n hx hb d_X_fillFirstRow_2 rfl (lv_at hl 2 rfl) ?_
  refine lv_iload_n hx hb d_X_fillFirstRow_3 rfl (lv_at hl 1 rfl) ?_
  refine lv_icmp_gt (tgt := 20) hx hb d_X_fillFirstRow_4 (by decide) (fun h4 => ?_) (fun h4 => ?_)
  · rw [nI_ltI (by omega) (by omega)] at h4
    exact W.vret hx hb hr (fun tt hth hW => ⟨⟨J, rfl, ⟨hJo, hJT, fun x h => hJi x (by omega)⟩, wg_h hth hP⟩, hS.F hth⟩) hS.2.2 d_X_fillFirstRow_20
  · rw [nI_ltI (by omega) (by omega)] at h4
    refine lv_aload_n hx hb d_X_fillFirstRow_7 rfl (lv_at hl 0 rfl) ?_
    refine wg_gX hx hb hts hown hK hP 12 (by decide) (v := .ref (ad 12)) kf_X_35 rfl d_X_fillFirstRow_8 ?_
    refine lv_iload_n hx hb d_X_fillFirstRow_11 rfl (lv_at hl 2 rfl) ?_
    refine lv_iload_n hx hb d_X_fillFirstRow_12 rfl (lv_at hl 2 rfl) ?_
    refine wg_sX12 (j := i) (x := i) hx hb hK hP hD hS (by omega) d_X_fillFirstRow_13 (fun H locs hP hS => ?_)
    refine lv_iinc (v := nI (i + 1)) (k := 2) (lv' := [(2, .int (nI (i + 1))), (0, .ref h0), (1, .int (nI a))]) hx hb d_X_fillFirstRow_14 hl rfl (nI_1 _) (by decide) rfl (fun ls hl => ?_)
    refine lv_goto (tgt := 2) hx hb d_X_fillFirstRow_17 (by decide) ?_
    exact ih2 (i + 1) 0 0 (wg_st J 12 i i) _ _ _ ⟨(by omega), (fun j h => (wg_st_o _ _ _ _ h).trans (hJo j h)), (wg_st_b hJT (by omega)), (fun x h => by rcases Nat.lt_succ_iff_lt_or_eq.mp h with h | rfl; exact (wg_st_n _ _ _ _ (by omega)).trans (hJi x h); exact wg_st_s _ _ _ _), hP, hS, lv_sub hl [1, 2, 0] rfl⟩ (by omega)
set_option maxHeartbeats 4000000 in
set_option maxRecDepth 100000 in
theorem c_X_fillRow (l : Launch) (D : va_G) (cJ cI : ClassId) (h0 : Nat) (ad : Nat → Nat) (sz : Nat) (I : wg_S) (row : Nat) (ch : Nat) (n : Nat) (a : Nat) (v : Nat) (hrow : 1 ≤ row ∧ row ≤ 12) (hch : ch ≤ 31) (hn : n < 2 ^ 64) (ha : a ≤ 12) (hT : ∀ k, k < 169 → I 12 k ≤ 24) (hch2 : ch = wg_lt v (row - 1)) (hab : ∀ i, i ≤ a → I 12 (row * 13 - 13 + i) = wg_bt v n (row - 1) i) : Met l y_X_fillRow (wg_ws y_X_fillRow b_X_fillRow 11 none) ({ frames := 1, cells := 0, slots := 0, locals := 22 }) (va_Pc [.ref h0, .int (nI row), .int (nI ch), .long (lN n), .int (nI a)] (wg_Pc D cJ cI (wg_WX cJ cI h0 ad I) sz)) (va_Qv (fun (u : wg_S) => (∀ j, ¬ j = 12 → u j = I j) ∧ (∀ k, k < 169 → u 12 k ≤ 24) ∧ (∀ i, i ≤ a → u 12 (row * 13 + i) = wg_bt v n row i) ∧ (∀ x, x < row * 13 → u 12 x = I 12 x)) (fun (u : wg_S) t => va_P D wg_cl (wg_WX cJ cI h0 ad u) t.heap) (va_A (wg_WX cJ cI h0 ad I) sz)) 0 0 (va_A (wg_WX cJ cI h0 ad I) sz) := by
  refine wg_head (Wd := (fun I => wg_WX cJ cI h0 ad I)) (I := I) (fun A => va_Qv (fun (u : wg_S) => (∀ j, ¬ j = 12 → u j = I j) ∧ (∀ k, k < 169 → u 12 k ≤ 24) ∧ (∀ i, i ≤ a → u 12 (row * 13 + i) = wg_bt v n row i) ∧ (∀ x, x < row * 13 → u 12 x = I 12 x)) (fun (u : wg_S) t => va_P D wg_cl (wg_WX cJ cI h0 ad u) t.heap) A) R_X (by decide) rfl (Nat.le_of_ble_eq_true rfl) (fun I J => wg_same_X I J) ?_
  intro p e s m below meth c A ls hx hb hr hlk hml hown hnm hts hA hK hD hP hS hl hsz
  clear hsz
  have hl : lv_has ls 11 [(0, .ref h0), (1, .int (nI row)), (2, .int (nI ch)), (3, .long (lN n)), (5, .int (nI a))] := hl
  have hP : va_P D wg_cl (wg_WX cJ cI h0 ad I) s.heap := hP
  skip
  refine lv_iload_n hx hb d_X_fillRow_0 rfl (lv_at hl 1 rfl) ?_
  refine lv_bipush (v := (nI 13)) hx hb d_X_fillRow_1 (by decide +kernel) ?_
  refine t_imul (v := nI (row * 13)) hx hb d_X_fillRow_3 (pk_mul _ _) ?_
  refine lv_istore (lv' := [(6, .int (nI (row * 13))), (0, .ref h0), (1, .int (nI row)), (2, .int (nI ch)), (3, .long (lN n)), (5, .int (nI a))]) hx hb d_X_fillRow_4 hl (by decide) rfl (fun ls hl => ?_)
  refine lv_iload hx hb d_X_fillRow_6 (lv_at hl 0 rfl) ?_
  refine lv_bipush (v := (nI 13)) hx hb d_X_fillRow_8 (by decide +kernel) ?_
  refine t_isub (v := nI ((row * 13) - 13)) hx hb d_X_fillRow_10 (pk_sub (by omega)) ?_
  refine lv_istore (lv' := [(7, .int (nI ((row * 13) - 13))), (6, .int (nI (row * 13))), (0, .ref h0), (1, .int (nI row)), (2, .int (nI ch)), (3, .long (lN n)), (5, .int (nI a))]) hx hb d_X_fillRow_11 hl (by decide) rfl (fun ls hl => ?_)
  refine lv_aload_n hx hb d_X_fillRow_13 rfl (lv_at hl 2 rfl) ?_
  refine wg_gX hx hb hts hown hK hP 12 (by decide) (v := .ref (ad 12)) kf_X_35 rfl d_X_fillRow_14 ?_
  refine lv_iload hx hb d_X_fillRow_17 (lv_at hl 1 rfl) ?_
  refine lv_iload_n hx hb d_X_fillRow_19 rfl (lv_at hl 3 rfl) ?_
  refine wg_sX12 (j := (row * 13)) (x := row) hx hb hK hP hD hS (by omega) d_X_fillRow_20 (fun H locs hP hS => ?_)
  refine lv_iconst (v := (nI 1)) hx hb d_X_fillRow_21 (by decide +kernel) ?_
  refine lv_istore (lv' := [(8, .int (nI 1)), (7, .int (nI ((row * 13) - 13))), (6, .int (nI (row * 13))), (0, .ref h0), (1, .int (nI row)), (2, .int (nI ch)), (3, .long (lN n)), (5, .int (nI a))]) hx hb d_X_fillRow_22 hl (by decide) rfl (fun ls hl => ?_)
  refine wg_loop (fun i _ _ J H locs ls => (1 ≤ i ∧ i ≤ a + 1) ∧ (∀ j, ¬ j = 12 → J j = I j) ∧ (∀ k, k < 169 → J 12 k ≤ 24) ∧ (J 12 (row * 13 + i - 1) ≤ row + i - 1) ∧ (∀ x, x < i → J 12 (row * 13 + x) = wg_bt v n row x) ∧ (∀ x, x < row * 13 → J 12 x = I 12 x) ∧ va_P D wg_cl (wg_WX cJ cI h0 ad J) H ∧ va_S A s.heap H locs ∧ lv_has ls 11 [(0, .ref h0), (1, .int (nI row)), (2, .int (nI ch)), (3, .long (lN n)), (5, .int (nI a)), (6, .int (nI (row * 13))), (7, .int (nI ((row * 13) - 13))), (8, .int (nI i))]) (fun i _ _ J => 13 - i) (fun i _z0 _z1 J H locs ls hI ih24 => ?_) 1 0 0 (wg_st I 12 (row * 13) row) _ _ _ ⟨(by omega), (fun j h => wg_st_o _ _ _ _ h), (wg_st_b hT (by omega)), (by rw [show row * 13 + 1 - 1 = row * 13 by omega, wg_st_s]; omega), (fun x h => by rw [show row * 13 + x = row * 13 by omega, wg_st_s, show x = 0 by omega, wg_bt_i]), (fun x h => wg_st_n _ _ _ _ (by omega)), hP, hS, lv_sub hl [3, 4, 5, 6, 7, 2, 1, 0] rfl⟩
  obtain ⟨hi, hJo, hJT, hJl, hrd, hlow, hP, hS, hl⟩ := hI
  refine lv_iload hx hb d_X_fillRow_24 (lv_at hl 7 rfl) ?_
  refine lv_iload hx hb d_X_fillRow_26 (lv_at hl 4 rfl) ?_
  refine lv_icmp_gt (tgt := 115) hx hb d_X_fillRow_28 (by decide) (fun h28 => ?_) (fun h28 => ?_)
  · rw [nI_ltI (by omega) (by omega)] at h28
    exact W.vret hx hb hr (fun tt hth hW => ⟨⟨J, rfl, ⟨hJo, hJT, fun x h => hrd x (by omega), hlow⟩, wg_h hth hP⟩, hS.F hth⟩) hS.2.2 d_X_fillRow_115
  · rw [nI_ltI (by omega) (by omega)] at h28
    refine lv_lload_n hx hb d_X_fillRow_31 rfl (lv_at hl 3 rfl) ?_
    refine lv_iload hx hb d_X_fillRow_32 (lv_at hl 7 rfl) ?_
    refine lv_iconst (v := (nI 1)) hx hb d_X_fillRow_34 (by decide +kernel) ?_
    refine t_isub (v := nI (i - 1)) hx hb d_X_fillRow_35 (pk_sub (by omega)) ?_
    refine wg_csi (As := [.long (lN n), .int (nI (i - 1))]) (rest := []) hx hb hml hown hts hK hP hS hA (c_X_letterAt l D cJ cI _ n (i - 1) (by omega) (by omega)) kc_X_91 ⟨rfl, rfl⟩ ⟨Nat.le_of_ble_eq_true rfl, Nat.le_of_ble_eq_true rfl⟩ rfl hl.1 rfl (Nat.le_of_ble_eq_true rfl) d_X_fillRow_36 ⟨Nat.zero_le _, Nat.zero_le _⟩ (fun r H locs q36 hP hS => ?_)
    obtain rfl := q36
    have hq36 := wg_la_le n (i - 1)
    refine lv_iload_n hx hb d_X_fillRow_39 rfl (lv_at hl 2 rfl) ?_
    refine lv_icmp_ne (tgt := 47) hx hb d_X_fillRow_40 (by decide) (fun h40 => ?_) (fun h40 => ?_)
    · rw [nI_eq (by omega) (by omega)] at h40
      have hcd : ¬ wg_lt v (row - 1) = wg_lt n (i - 1) := fun q => h40 (by rw [wg_la_lt (by omega), ← q, hch2])
      refine lv_iconst (v := (nI 1)) hx hb d_X_fillRow_47 (by decide +kernel) ?_
      refine lv_istore (lv' := [(9, .int (nI 1)), (0, .ref h0), (1, .int (nI row)), (2, .int (nI ch)), (3, .long (lN n)), (5, .int (nI a)), (6, .int (nI (row * 13))), (7, .int (nI ((row * 13) - 13))), (8, .int (nI i))]) hx hb d_X_fillRow_48 hl (by decide) rfl (fun ls hl => ?_)
      have e1 : J 12 (row * 13 - 13 + i - 1) = wg_bt v n (row - 1) (i - 1) := by rw [show row * 13 - 13 + i - 1 = row * 13 - 13 + (i - 1) by omega, hlow _ (by omega)]; exact hab _ (by omega)
      have e2 : J 12 (row * 13 - 13 + i) = wg_bt v n (row - 1) i := by rw [hlow _ (by omega)]; exact hab _ (by omega)
      have e3 : J 12 (row * 13 + i - 1) = wg_bt v n row (i - 1) := by rw [show row * 13 + i - 1 = row * 13 + (i - 1) by omega]; exact hrd _ (by omega)
      refine lv_aload_n hx hb d_X_fillRow_50 rfl (lv_at hl 1 rfl) ?_
      refine wg_gX hx hb hts hown hK hP 12 (by decide) (v := .ref (ad 12)) kf_X_35 rfl d_X_fillRow_51 ?_
      refine lv_iload hx hb d_X_fillRow_54 (lv_at hl 7 rfl) ?_
      refine lv_iload hx hb d_X_fillRow_56 (lv_at hl 8 rfl) ?_
      refine t_iadd (v := nI (((row * 13) - 13) + i)) hx hb d_X_fillRow_58 (nI_add _ _) ?_
      refine wg_ild (f := J 12) (j := (((row * 13) - 13) + i)) hx hb hK hP 9 rfl (by omega) (by decide) d_X_fillRow_59 ?_
      have hB59 := hJT (((row * 13) - 13) + i) (by omega)
      refine lv_aload_n hx hb d_X_fillRow_60 rfl (lv_at hl 1 rfl) ?_
      refine wg_gX hx hb hts hown hK hP 12 (by decide) (v := .ref (ad 12)) kf_X_35 rfl d_X_fillRow_61 ?_
      refine lv_iload hx hb d_X_fillRow_64 (lv_at hl 6 rfl) ?_
      refine lv_iload hx hb d_X_fillRow_66 (lv_at hl 8 rfl) ?_
      refine t_iadd (v := nI ((row * 13) + i)) hx hb d_X_fillRow_68 (nI_add _ _) ?_
      refine lv_iconst (v := (nI 1)) hx hb d_X_fillRow_69 (by decide +kernel) ?_
      refine t_isub (v := nI (((row * 13) + i) - 1)) hx hb d_X_fillRow_70 (pk_sub (by omega)) ?_
      refine wg_ild (f := J 12) (j := (((row * 13) + i) - 1)) hx hb hK hP 9 rfl (by omega) (by decide) d_X_fillRow_71 ?_
      have hB71 := hJT (((row * 13) + i) - 1) (by omega)
      refine va_mmin hx hb (by rw [hml]; exact hl.1.symm) hown (hts _ (wg_mmin_125).1) (hts _ (wg_mmin_125).2.1) (hts _ (wg_mmin_125).2.2.1) (hts _ (wg_mmin_125).2.2.2) (Nat.le_of_ble_eq_true rfl) (Nat.le_of_ble_eq_true rfl) (Nat.zero_le _) (Nat.zero_le _) d_X_fillRow_72 ?_
      rw [wg_min (by omega) (by omega)]
      refine lv_iconst (v := (nI 1)) hx hb d_X_fillRow_75 (by decide +kernel) ?_
      refine t_iadd (v := nI ((min (J 12 (((row * 13) - 13) + i)) (J 12 (((row * 13) + i) - 1))) + 1)) hx hb d_X_fillRow_76 (nI_add _ _) ?_
      refine lv_istore (lv' := [(10, .int (nI ((min (J 12 (((row * 13) - 13) + i)) (J 12 (((row * 13) + i) - 1))) + 1))), (9, .int (nI 1)), (0, .ref h0), (1, .int (nI row)), (2, .int (nI ch)), (3, .long (lN n)), (5, .int (nI a)), (6, .int (nI (row * 13))), (7, .int (nI ((row * 13) - 13))), (8, .int (nI i))]) hx hb d_X_fillRow_77 hl (by decide) rfl (fun ls hl => ?_)
      refine lv_aload_n hx hb d_X_fillRow_79 rfl (lv_at hl 2 rfl) ?_
      refine wg_gX hx hb hts hown hK hP 12 (by decide) (v := .ref (ad 12)) kf_X_35 rfl d_X_fillRow_80 ?_
      refine lv_iload hx hb d_X_fillRow_83 (lv_at hl 7 rfl) ?_
      refine lv_iload hx hb d_X_fillRow_85 (lv_at hl 9 rfl) ?_
      refine t_iadd (v := nI ((row * 13) + i)) hx hb d_X_fillRow_87 (nI_add _ _) ?_
      refine lv_aload_n hx hb d_X_fillRow_88 rfl (lv_at hl 2 rfl) ?_
      refine wg_gX hx hb hts hown hK hP 12 (by decide) (v := .ref (ad 12)) kf_X_35 rfl d_X_fillRow_89 ?_
      refine lv_iload hx hb d_X_fillRow_92 (lv_at hl 8 rfl) ?_
      refine lv_iload hx hb d_X_fillRow_94 (lv_at hl 9 rfl) ?_
      refine t_iadd (v := nI (((row * 13) - 13) + i)) hx hb d_X_fillRow_96 (nI_add _ _) ?_
      refine lv_iconst (v := (nI 1)) hx hb d_X_fillRow_97 (by decide +kernel) ?_
      refine t_isub (v := nI ((((row * 13) - 13) + i) - 1)) hx hb d_X_fillRow_98 (pk_sub (by omega)) ?_
      refine wg_ild (f := J 12) (j := ((((row * 13) - 13) + i) - 1)) hx hb hK hP 9 rfl (by omega) (by decide) d_X_fillRow_99 ?_
      have hB99 := hJT ((((row * 13) - 13) + i) - 1) (by omega)
      refine lv_iload hx hb d_X_fillRow_100 (lv_at hl 1 rfl) ?_
      refine t_iadd (v := nI ((J 12 ((((row * 13) - 13) + i) - 1)) + 1)) hx hb d_X_fillRow_102 (nI_add _ _) ?_
      refine lv_iload hx hb d_X_fillRow_103 (lv_at hl 0 rfl) ?_
      refine va_mmin hx hb (by rw [hml]; exact hl.1.symm) hown (hts _ (wg_mmin_125).1) (hts _ (wg_mmin_125).2.1) (hts _ (wg_mmin_125).2.2.1) (hts _ (wg_mmin_125).2.2.2) (Nat.le_of_ble_eq_true rfl) (Nat.le_of_ble_eq_true rfl) (Nat.zero_le _) (Nat.zero_le _) d_X_fillRow_105 ?_
      rw [wg_min (by omega) (by omega)]
      have hval : min ((J 12 ((((row * 13) - 13) + i) - 1)) + 1) ((min (J 12 (((row * 13) - 13) + i)) (J 12 (((row * 13) + i) - 1))) + 1) = wg_bt v n row i := by rw [wg_bt_p (by omega) (by omega), ← e1, ← e2, ← e3]; first | (rw [if_pos hcd]; omega) | (rw [if_neg hcd]; omega)
      refine wg_sX12 (j := ((row * 13) + i)) (x := (min ((J 12 ((((row * 13) - 13) + i) - 1)) + 1) ((min (J 12 (((row * 13) - 13) + i)) (J 12 (((row * 13) + i) - 1))) + 1))) hx hb hK hP hD hS (by omega) d_X_fillRow_108 (fun H locs hP hS => ?_)
      refine lv_iinc (v := nI (i + 1)) (k := 9) (lv' := [(8, .int (nI (i + 1))), (10, .int (nI ((min (J 12 (((row * 13) - 13) + i)) (J 12 (((row * 13) + i) - 1))) + 1))), (9, .int (nI 1)), (0, .ref h0), (1, .int (nI row)), (2, .int (nI ch)), (3, .long (lN n)), (5, .int (nI a)), (6, .int (nI (row * 13))), (7, .int (nI ((row * 13) - 13)))]) hx hb d_X_fillRow_109 hl rfl (nI_1 _) (by decide) rfl (fun ls hl => ?_)
      refine lv_goto (tgt := 24) hx hb d_X_fillRow_112 (by decide) ?_
      exact ih24 (i + 1) 0 0 (wg_st J 12 ((row * 13) + i) (min ((J 12 ((((row * 13) - 13) + i) - 1)) + 1) ((min (J 12 (((row * 13) - 13) + i)) (J 12 (((row * 13) + i) - 1))) + 1))) _ _ _ ⟨(by omega), (fun j h => (wg_st_o _ _ _ _ h).trans (hJo j h)), (wg_st_b hJT (by omega)), (by rw [show row * 13 + (i + 1) - 1 = row * 13 + i by omega, wg_st_s]; omega), (fun x h => by rcases Nat.lt_succ_iff_lt_or_eq.mp h with h | rfl; exact (wg_st_n _ _ _ _ (by omega)).trans (hrd x h); exact (wg_st_s _ _ _ _).trans hval), (fun x h => (wg_st_n _ _ _ _ (by omega)).trans (hlow x h)), hP, hS, lv_sub hl [3, 4, 5, 6, 7, 8, 9, 0] rfl⟩ (by omega)
    · rw [nI_eq (by omega) (by omega)] at h40
      have hcd : wg_lt v (row - 1) = wg_lt n (i - 1) := by rw [← hch2, ← h40, wg_la_lt (by omega)]
      refine lv_iconst (v := (nI 0)) hx hb d_X_fillRow_43 (by decide +kernel) ?_
      refine lv_goto (tgt := 48) hx hb d_X_fillRow_44 (by decide) ?_
      refine lv_istore (lv' := [(9, .int (nI 0)), (0, .ref h0), (1, .int (nI row)), (2, .int (nI ch)), (3, .long (lN n)), (5, .int (nI a)), (6, .int (nI (row * 13))), (7, .int (nI ((row * 13) - 13))), (8, .int (nI i))]) hx hb d_X_fillRow_48 hl (by decide) rfl (fun ls hl => ?_)
      have e1 : J 12 (row * 13 - 13 + i - 1) = wg_bt v n (row - 1) (i - 1) := by rw [show row * 13 - 13 + i - 1 = row * 13 - 13 + (i - 1) by omega, hlow _ (by omega)]; exact hab _ (by omega)
      have e2 : J 12 (row * 13 - 13 + i) = wg_bt v n (row - 1) i := by rw [hlow _ (by omega)]; exact hab _ (by omega)
      have e3 : J 12 (row * 13 + i - 1) = wg_bt v n row (i - 1) := by rw [show row * 13 + i - 1 = row * 13 + (i - 1) by omega]; exact hrd _ (by omega)
      refine lv_aload_n hx hb d_X_fillRow_50 rfl (lv_at hl 1 rfl) ?_
      refine wg_gX hx hb hts hown hK hP 12 (by decide) (v := .ref (ad 12)) kf_X_35 rfl d_X_fillRow_51 ?_
      refine lv_iload hx hb d_X_fillRow_54 (lv_at hl 7 rfl) ?_
      refine lv_iload hx hb d_X_fillRow_56 (lv_at hl 8 rfl) ?_
      refine t_iadd (v := nI (((row * 13) - 13) + i)) hx hb d_X_fillRow_58 (nI_add _ _) ?_
      refine wg_ild (f := J 12) (j := (((row * 13) - 13) + i)) hx hb hK hP 9 rfl (by omega) (by decide) d_X_fillRow_59 ?_
      have hB59 := hJT (((row * 13) - 13) + i) (by omega)
      refine lv_aload_n hx hb d_X_fillRow_60 rfl (lv_at hl 1 rfl) ?_
      refine wg_gX hx hb hts hown hK hP 12 (by decide) (v := .ref (ad 12)) kf_X_35 rfl d_X_fillRow_61 ?_
      refine lv_iload hx hb d_X_fillRow_64 (lv_at hl 6 rfl) ?_
      refine lv_iload hx hb d_X_fillRow_66 (lv_at hl 8 rfl) ?_
      refine t_iadd (v := nI ((row * 13) + i)) hx hb d_X_fillRow_68 (nI_add _ _) ?_
      refine lv_iconst (v := (nI 1)) hx hb d_X_fillRow_69 (by decide +kernel) ?_
      refine t_isub (v := nI (((row * 13) + i) - 1)) hx hb d_X_fillRow_70 (pk_sub (by omega)) ?_
      refine wg_ild (f := J 12) (j := (((row * 13) + i) - 1)) hx hb hK hP 9 rfl (by omega) (by decide) d_X_fillRow_71 ?_
      have hB71 := hJT (((row * 13) + i) - 1) (by omega)
      refine va_mmin hx hb (by rw [hml]; exact hl.1.symm) hown (hts _ (wg_mmin_125).1) (hts _ (wg_mmin_125).2.1) (hts _ (wg_mmin_125).2.2.1) (hts _ (wg_mmin_125).2.2.2) (Nat.le_of_ble_eq_true rfl) (Nat.le_of_ble_eq_true rfl) (Nat.zero_le _) (Nat.zero_le _) d_X_fillRow_72 ?_
      rw [wg_min (by omega) (by omega)]
      refine lv_iconst (v := (nI 1)) hx hb d_X_fillRow_75 (by decide +kernel) ?_
      refine t_iadd (v := nI ((min (J 12 (((row * 13) - 13) + i)) (J 12 (((row * 13) + i) - 1))) + 1)) hx hb d_X_fillRow_76 (nI_add _ _) ?_
      refine lv_istore (lv' := [(10, .int (nI ((min (J 12 (((row * 13) - 13) + i)) (J 12 (((row * 13) + i) - 1))) + 1))), (9, .int (nI 0)), (0, .ref h0), (1, .int (nI row)), (2, .int (nI ch)), (3, .long (lN n)), (5, .int (nI a)), (6, .int (nI (row * 13))), (7, .int (nI ((row * 13) - 13))), (8, .int (nI i))]) hx hb d_X_fillRow_77 hl (by decide) rfl (fun ls hl => ?_)
      refine lv_aload_n hx hb d_X_fillRow_79 rfl (lv_at hl 2 rfl) ?_
      refine wg_gX hx hb hts hown hK hP 12 (by decide) (v := .ref (ad 12)) kf_X_35 rfl d_X_fillRow_80 ?_
      refine lv_iload hx hb d_X_fillRow_83 (lv_at hl 7 rfl) ?_
      refine lv_iload hx hb d_X_fillRow_85 (lv_at hl 9 rfl) ?_
      refine t_iadd (v := nI ((row * 13) + i)) hx hb d_X_fillRow_87 (nI_add _ _) ?_
      refine lv_aload_n hx hb d_X_fillRow_88 rfl (lv_at hl 2 rfl) ?_
      refine wg_gX hx hb hts hown hK hP 12 (by decide) (v := .ref (ad 12)) kf_X_35 rfl d_X_fillRow_89 ?_
      refine lv_iload hx hb d_X_fillRow_92 (lv_at hl 8 rfl) ?_
      refine lv_iload hx hb d_X_fillRow_94 (lv_at hl 9 rfl) ?_
      refine t_iadd (v := nI (((row * 13) - 13) + i)) hx hb d_X_fillRow_96 (nI_add _ _) ?_
      refine lv_iconst (v := (nI 1)) hx hb d_X_fillRow_97 (by decide +kernel) ?_
      refine t_isub (v := nI ((((row * 13) - 13) + i) - 1)) hx hb d_X_fillRow_98 (pk_sub (by omega)) ?_
      refine wg_ild (f := J 12) (j := ((((row * 13) - 13) + i) - 1)) hx hb hK hP 9 rfl (by omega) (by decide) d_X_fillRow_99 ?_
      have hB99 := hJT ((((row * 13) - 13) + i) - 1) (by omega)
      refine lv_iload hx hb d_X_fillRow_100 (lv_at hl 1 rfl) ?_
      refine t_iadd (v := nI ((J 12 ((((row * 13) - 13) + i) - 1)) + 0)) hx hb d_X_fillRow_102 (nI_add _ _) ?_
      refine lv_iload hx hb d_X_fillRow_103 (lv_at hl 0 rfl) ?_
      refine va_mmin hx hb (by rw [hml]; exact hl.1.symm) hown (hts _ (wg_mmin_125).1) (hts _ (wg_mmin_125).2.1) (hts _ (wg_mmin_125).2.2.1) (hts _ (wg_mmin_125).2.2.2) (Nat.le_of_ble_eq_true rfl) (Nat.le_of_ble_eq_true rfl) (Nat.zero_le _) (Nat.zero_le _) d_X_fillRow_105 ?_
      rw [wg_min (by omega) (by omega)]
      have hval : min ((J 12 ((((row * 13) - 13) + i) - 1)) + 0) ((min (J 12 (((row * 13) - 13) + i)) (J 12 (((row * 13) + i) - 1))) + 1) = wg_bt v n row i := by rw [wg_bt_p (by omega) (by omega), ← e1, ← e2, ← e3]; first | (rw [if_pos hcd]; omega) | (rw [if_neg hcd]; omega)
      refine wg_sX12 (j := ((row * 13) + i)) (x := (min ((J 12 ((((row * 13) - 13) + i) - 1)) + 0) ((min (J 12 (((row * 13) - 13) + i)) (J 12 (((row * 13) + i) - 1))) + 1))) hx hb hK hP hD hS (by omega) d_X_fillRow_108 (fun H locs hP hS => ?_)
      refine lv_iinc (v := nI (i + 1)) (k := 9) (lv' := [(8, .int (nI (i + 1))), (10, .int (nI ((min (J 12 (((row * 13) - 13) + i)) (J 12 (((row * 13) + i) - 1))) + 1))), (9, .int (nI 0)), (0, .ref h0), (1, .int (nI row)), (2, .int (nI ch)), (3, .long (lN n)), (5, .int (nI a)), (6, .int (nI (row * 13))), (7, .int (nI ((row * 13) - 13)))]) hx hb d_X_fillRow_109 hl rfl (nI_1 _) (by decide) rfl (fun ls hl => ?_)
      refine lv_goto (tgt := 24) hx hb d_X_fillRow_112 (by decide) ?_
      exact ih24 (i + 1) 0 0 (wg_st J 12 ((row * 13) + i) (min ((J 12 ((((row * 13) - 13) + i) - 1)) + 0) ((min (J 12 (((row * 13) - 13) + i)) (J 12 (((row * 13) + i) - 1))) + 1))) _ _ _ ⟨(by omega), (fun j h => (wg_st_o _ _ _ _ h).trans (hJo j h)), (wg_st_b hJT (by omega)), (by rw [show row * 13 + (i + 1) - 1 = row * 13 + i by omega, wg_st_s]; omega), (fun x h => by rcases Nat.lt_succ_iff_lt_or_eq.mp h with h | rfl; exact (wg_st_n _ _ _ _ (by omega)).trans (hrd x h); exact (wg_st_s _ _ _ _).trans hval), (fun x h => (wg_st_n _ _ _ _ (by omega)).trans (hlow x h)), hP, hS, lv_sub hl [3, 4, 5, 6, 7, 8, 9, 0] rfl⟩ (by omega)
set_option maxHeartbeats 4000000 in
set_option maxRecDepth 100000 in
theorem c_X_farOfWord (l : Launch) (D : va_G) (cJ cI : ClassId) (h0 : Nat) (ad : Nat → Nat) (sz : Nat) (I : wg_S) (k : Nat) (f : Nat) (n : Nat) (a : Nat) (hk : k < 48) (hf : 1 ≤ f ∧ f ≤ 13) (hn64 : n < 2 ^ 64) (ha : a ≤ 12) (hI : wg_XI I) (hLk : I 1 k = wg_len (I 0 k)) (hrs : ∀ x i, x < f → i ≤ a → I 12 (x * 13 + i) = wg_bt (I 0 k) n x i) : Met l y_X_farOfWord (wg_ws y_X_farOfWord b_X_farOfWord 7 (some .int)) ({ frames := 2, cells := 0, slots := 0, locals := 52 }) (va_Pc [.ref h0, .int (nI k), .int (nI f), .long (lN n), .int (nI a)] (wg_Pc D cJ cI (wg_WX cJ cI h0 ad I) sz)) (va_Qi (fun (r : Int32) (u : wg_S) => r = nI (wg_bt (I 0 k) n (wg_len (I 0 k)) a) ∧ (∀ j, ¬ j = 12 → u j = I j) ∧ (∀ k, k < 169 → u 12 k ≤ 24) ∧ (∀ x i, x ≤ wg_len (I 0 k) → i ≤ a → u 12 (x * 13 + i) = wg_bt (I 0 k) n x i)) (fun (u : wg_S) t => va_P D wg_cl (wg_WX cJ cI h0 ad u) t.heap) (va_A (wg_WX cJ cI h0 ad I) sz)) 0 0 (va_A (wg_WX cJ cI h0 ad I) sz) := by
  refine wg_head (Wd := (fun I => wg_WX cJ cI h0 ad I)) (I := I) (fun A => va_Qi (fun (r : Int32) (u : wg_S) => r = nI (wg_bt (I 0 k) n (wg_len (I 0 k)) a) ∧ (∀ j, ¬ j = 12 → u j = I j) ∧ (∀ k, k < 169 → u 12 k ≤ 24) ∧ (∀ x i, x ≤ wg_len (I 0 k) → i ≤ a → u 12 (x * 13 + i) = wg_bt (I 0 k) n x i)) (fun (u : wg_S) t => va_P D wg_cl (wg_WX cJ cI h0 ad u) t.heap) A) R_X (by decide) rfl (Nat.le_of_ble_eq_true rfl) (fun I J => wg_same_X I J) ?_
  intro p e s m below meth c A ls hx hb hr hlk hml hown hnm hts hA hK hD hP hS hl hsz
  clear hsz
  have hl : lv_has ls 7 [(0, .ref h0), (1, .int (nI k)), (2, .int (nI f)), (3, .long (lN n)), (5, .int (nI a))] := hl
  have hP : va_P D wg_cl (wg_WX cJ cI h0 ad I) s.heap := hP
  skip
  have hI' := hI
  obtain ⟨hn, hse, hc, hrc, hso, hw, hL, hF, hF1, hNW, hNL, hT, hWF, hNO⟩ := hI'
  refine lv_iload_n hx hb d_X_farOfWord_0 rfl (lv_at hl 2 rfl) ?_
  refine lv_istore (lv' := [(6, .int (nI f)), (0, .ref h0), (1, .int (nI k)), (2, .int (nI f)), (3, .long (lN n)), (5, .int (nI a))]) hx hb d_X_farOfWord_1 hl (by decide) rfl (fun ls hl => ?_)
  refine wg_loop (fun row _ _ J H locs ls => (1 ≤ row ∧ row ≤ 13) ∧ (∀ j, ¬ j = 12 → J j = I j) ∧ (∀ k, k < 169 → J 12 k ≤ 24) ∧ (∀ x i, x < row → i ≤ a → J 12 (x * 13 + i) = wg_bt (I 0 k) n x i) ∧ va_P D wg_cl (wg_WX cJ cI h0 ad J) H ∧ va_S A s.heap H locs ∧ lv_has ls 7 [(0, .ref h0), (1, .int (nI k)), (3, .long (lN n)), (5, .int (nI a)), (6, .int (nI row))]) (fun row _ _ J => 13 - row) (fun row _z0 _z1 J H locs ls hI ih3 => ?_) f 0 0 I _ _ _ ⟨(by omega), (fun _ _ => rfl), hT, hrs, hP, hS, lv_sub hl [1, 2, 4, 5, 0] rfl⟩
  obtain ⟨hrow, hJo, hJT, hrw, hP, hS, hl⟩ := hI
  have hJ := wg_XI_12 hI hJo hJT
  have hJ' := hJ
  clear hn hse hc hrc hso hw hL hF hF1 hNW hNL hT hWF hNO
  obtain ⟨hn, hse, hc, hrc, hso, hw, hL, hF, hF1, hNW, hNL, hT, hWF, hNO⟩ := hJ'
  have hJ0 : J 0 = I 0 := hJo 0 (by decide)
  have hJ1 : J 1 k = wg_len (I 0 k) := by rw [hJo 1 (by decide)]; exact hLk
  refine lv_iload hx hb d_X_farOfWord_3 (lv_at hl 4 rfl) ?_
  refine lv_aload_n hx hb d_X_farOfWord_5 rfl (lv_at hl 0 rfl) ?_
  refine wg_gX hx hb hts hown hK hP 1 (by decide) (v := .ref (ad 1)) kf_X_13 rfl d_X_farOfWord_6 ?_
  refine lv_iload_n hx hb d_X_farOfWord_9 rfl (lv_at hl 1 rfl) ?_
  refine wg_ild (f := J 1) (j := k) hx hb hK hP 2 rfl (by omega) (by decide) d_X_farOfWord_10 ?_
  have hB10 := hL k (by omega)
  refine lv_icmp_gt (tgt := 42) hx hb d_X_farOfWord_11 (by decide) (fun h11 => ?_) (fun h11 => ?_)
  · rw [nI_ltI (by omega) (by omega)] at h11
    refine lv_aload_n hx hb d_X_farOfWord_42 rfl (lv_at hl 0 rfl) ?_
    refine wg_gX hx hb hts hown hK hP 12 (by decide) (v := .ref (ad 12)) kf_X_35 rfl d_X_farOfWord_43 ?_
    refine lv_aload_n hx hb d_X_farOfWord_46 rfl (lv_at hl 0 rfl) ?_
    refine wg_gX hx hb hts hown hK hP 1 (by decide) (v := .ref (ad 1)) kf_X_13 rfl d_X_farOfWord_47 ?_
    refine lv_iload_n hx hb d_X_farOfWord_50 rfl (lv_at hl 1 rfl) ?_
    refine wg_ild (f := J 1) (j := k) hx hb hK hP 2 rfl (by omega) (by decide) d_X_farOfWord_51 ?_
    have hB51 := hL k (by omega)
    refine lv_bipush (v := (nI 13)) hx hb d_X_farOfWord_52 (by decide +kernel) ?_
    refine t_imul (v := nI ((J 1 k) * 13)) hx hb d_X_farOfWord_54 (pk_mul _ _) ?_
    refine lv_iload hx hb d_X_farOfWord_55 (lv_at hl 3 rfl) ?_
    refine t_iadd (v := nI (((J 1 k) * 13) + a)) hx hb d_X_farOfWord_57 (nI_add _ _) ?_
    refine wg_ild (f := J 12) (j := (((J 1 k) * 13) + a)) hx hb hK hP 9 rfl (by omega) (by decide) d_X_farOfWord_58 ?_
    have hB58 := hT (((J 1 k) * 13) + a) (by omega)
    exact W.iret (v := (nI (J 12 (((J 1 k) * 13) + a)))) hx hb hr (fun tt hth hW => ⟨⟨_, J, rfl, ⟨by rw [hJ1, hrw _ _ (by omega) (Nat.le_refl _)], hJo, hJT, fun x i h1 h2 => hrw x i (by omega) h2⟩, wg_h hth hP⟩, hS.F hth⟩) hS.2.2 d_X_farOfWord_59
  · rw [nI_ltI (by omega) (by omega)] at h11
    refine lv_aload_n hx hb d_X_farOfWord_14 rfl (lv_at hl 0 rfl) ?_
    refine lv_iload hx hb d_X_farOfWord_15 (lv_at hl 4 rfl) ?_
    refine lv_aload_n hx hb d_X_farOfWord_17 rfl (lv_at hl 0 rfl) ?_
    refine wg_gX hx hb hts hown hK hP 0 (by decide) (v := .ref (ad 0)) kf_X_9 rfl d_X_farOfWord_18 ?_
    refine lv_iload_n hx hb d_X_farOfWord_21 rfl (lv_at hl 1 rfl) ?_
    refine wg_lld (f := J 0) (j := k) hx hb hK hP 1 rfl (by omega) (by decide) d_X_farOfWord_22 ?_
    have hB22 := hw k (by omega)
    refine lv_iload hx hb d_X_farOfWord_23 (lv_at hl 4 rfl) ?_
    refine lv_iconst (v := (nI 1)) hx hb d_X_farOfWord_25 (by decide +kernel) ?_
    refine t_isub (v := nI (row - 1)) hx hb d_X_farOfWord_26 (pk_sub (by omega)) ?_
    refine wg_csi (As := [.long (lN (J 0 k)), .int (nI (row - 1))]) (rest := [.int (nI row), .ref h0]) hx hb hml hown hts hK hP hS hA (c_X_letterAt l D cJ cI _ (J 0 k) (row - 1) (by omega) (by omega)) kc_X_91 ⟨rfl, rfl⟩ ⟨Nat.le_of_ble_eq_true rfl, Nat.le_of_ble_eq_true rfl⟩ rfl hl.1 rfl (Nat.le_of_ble_eq_true rfl) d_X_farOfWord_27 ⟨Nat.zero_le _, Nat.zero_le _⟩ (fun r H locs q27 hP hS => ?_)
    obtain rfl := q27
    have hq27 := wg_la_le (J 0 k) (row - 1)
    refine lv_lload_n hx hb d_X_farOfWord_30 rfl (lv_at hl 2 rfl) ?_
    refine lv_iload hx hb d_X_farOfWord_31 (lv_at hl 3 rfl) ?_
    refine wg_cvv (As := [.int (nI row), .int (nI (wg_la (J 0 k) (row - 1))), .long (lN n), .int (nI a)]) (rest := []) hx hb hml hown hts hK hP (hD _) hS hA rfl rfl rfl (c_X_fillRow l D cJ cI h0 ad _ J row (wg_la (J 0 k) (row - 1)) n a (I 0 k) (by omega) (by omega) hn64 ha hT (by rw [hJ0, wg_la_lt (by omega)]) (fun i h => by rw [show row * 13 - 13 + i = (row - 1) * 13 + i by omega]; exact hrw _ _ (by omega) h)) kc_X_130 ⟨rfl, rfl⟩ ⟨Nat.le_of_ble_eq_true rfl, Nat.le_of_ble_eq_true rfl⟩ rfl hl.1 rfl (Nat.le_of_ble_eq_true rfl) d_X_farOfWord_33 ⟨Nat.zero_le _, Nat.zero_le _⟩ (fun u33 tt H locs ht q33 hB _ _ hS => ?_)
    have hP : va_P D wg_cl (wg_WX cJ cI h0 ad u33) H := by rw [← ht]; exact hB
    clear hB ht tt
    obtain ⟨hq33a, hq33b, hq33c, hq33d⟩ := q33
    refine lv_iinc (v := nI (row + 1)) (k := 4) (lv' := [(6, .int (nI (row + 1))), (0, .ref h0), (1, .int (nI k)), (3, .long (lN n)), (5, .int (nI a))]) hx hb d_X_farOfWord_36 hl rfl (nI_1 _) (by decide) rfl (fun ls hl => ?_)
    refine lv_goto (tgt := 3) hx hb d_X_farOfWord_39 (by decide) ?_
    exact ih3 (row + 1) 0 0 u33 _ _ _ ⟨(by omega), (fun j h => (hq33a j h).trans (hJo j h)), hq33b, (fun x i h1 h2 => by rcases Nat.lt_succ_iff_lt_or_eq.mp h1 with h | rfl; exact (hq33d _ (by omega)).trans (hrw x i h h2); exact hq33c i h2), hP, hS, lv_sub hl [1, 2, 3, 4, 0] rfl⟩ (by omega)
set_option maxHeartbeats 4000000 in
set_option maxRecDepth 100000 in
theorem c_X_measureAll (l : Launch) (D : va_G) (cJ cI : ClassId) (h0 : Nat) (ad : Nat → Nat) (sz : Nat) (I : wg_S) (n : Nat) (hn64 : n < 2 ^ 64) (hI : wg_XI I) (hXF : wg_XF I) : Met l y_X_measureAll (wg_ws y_X_measureAll b_X_measureAll 5 none) ({ frames := 3, cells := 0, slots := 0, locals := 78 }) (va_Pc [.ref h0, .long (lN n)] (wg_Pc D cJ cI (wg_WX cJ cI h0 ad I) sz)) (va_Qv (fun (u : wg_S) => (∀ j, ¬ j = 12 → ¬ j = 13 → u j = I j) ∧ (∀ k, k < 169 → u 12 k ≤ 24) ∧ (∀ k, k < 48 → u 13 k ≤ 24) ∧ (∀ k, k < I 3 0 → u 13 k = wg_bt (I 0 k) n (wg_len (I 0 k)) (wg_len n))) (fun (u : wg_S) t => va_P D wg_cl (wg_WX cJ cI h0 ad u) t.heap) (va_A (wg_WX cJ cI h0 ad I) sz)) 0 0 (va_A (wg_WX cJ cI h0 ad I) sz) := by
  refine wg_head (Wd := (fun I => wg_WX cJ cI h0 ad I)) (I := I) (fun A => va_Qv (fun (u : wg_S) => (∀ j, ¬ j = 12 → ¬ j = 13 → u j = I j) ∧ (∀ k, k < 169 → u 12 k ≤ 24) ∧ (∀ k, k < 48 → u 13 k ≤ 24) ∧ (∀ k, k < I 3 0 → u 13 k = wg_bt (I 0 k) n (wg_len (I 0 k)) (wg_len n))) (fun (u : wg_S) t => va_P D wg_cl (wg_WX cJ cI h0 ad u) t.heap) A) R_X (by decide) rfl (Nat.le_of_ble_eq_true rfl) (fun I J => wg_same_X I J) ?_
  intro p e s m below meth c A ls hx hb hr hlk hml hown hnm hts hA hK hD hP hS hl hsz
  clear hsz
  have hl : lv_has ls 5 [(0, .ref h0), (1, .long (lN n))] := hl
  have hP : va_P D wg_cl (wg_WX cJ cI h0 ad I) s.heap := hP
  skip
  have hI' := hI
  obtain ⟨hn, hse, hc, hrc, hso, hw, hL, hF, hF1, hNW, hNL, hT, hWF, hNO⟩ := hI'
  refine lv_lload_n hx hb d_X_measureAll_0 rfl (lv_at hl 1 rfl) ?_
  refine wg_csi (As := [.long (lN n)]) (rest := []) hx hb hml hown hts hK hP hS hA (c_X_lengthOf l D cJ cI _ n (by omega)) kc_X_56 ⟨rfl, rfl⟩ ⟨Nat.le_of_ble_eq_true rfl, Nat.le_of_ble_eq_true rfl⟩ rfl hl.1 rfl (Nat.le_of_ble_eq_true rfl) d_X_measureAll_1 ⟨Nat.zero_le _, Nat.zero_le _⟩ (fun r H locs q1 hP hS => ?_)
  obtain rfl := q1
  have hq1 := wg_len_le n
  refine lv_istore_n (lv' := [(3, .int (nI (wg_len n))), (0, .ref h0), (1, .long (lN n))]) hx hb d_X_measureAll_4 rfl hl (by decide) rfl (fun ls hl => ?_)
  refine lv_aload_n hx hb d_X_measureAll_5 rfl (lv_at hl 1 rfl) ?_
  refine lv_iload_n hx hb d_X_measureAll_6 rfl (lv_at hl 0 rfl) ?_
  refine wg_cvv (As := [.int (nI (wg_len n))]) (rest := []) hx hb hml hown hts hK hP (hD _) hS hA rfl rfl rfl (c_X_fillFirstRow l D cJ cI h0 ad _ I (wg_len n) (by omega) hT) kc_X_95 ⟨rfl, rfl⟩ ⟨Nat.le_of_ble_eq_true rfl, Nat.le_of_ble_eq_true rfl⟩ rfl hl.1 rfl (Nat.le_of_ble_eq_true rfl) d_X_measureAll_7 ⟨Nat.zero_le _, Nat.zero_le _⟩ (fun u7 tt H locs ht q7 hB _ _ hS => ?_)
  have hP : va_P D wg_cl (wg_WX cJ cI h0 ad u7) H := by rw [← ht]; exact hB
  clear hB ht tt
  obtain ⟨hq7a, hq7b, hq7c⟩ := q7
  refine lv_iconst (v := (nI 0)) hx hb d_X_measureAll_10 (by decide +kernel) ?_
  refine lv_istore (lv' := [(4, .int (nI 0)), (3, .int (nI (wg_len n))), (0, .ref h0), (1, .long (lN n))]) hx hb d_X_measureAll_11 hl (by decide) rfl (fun ls hl => ?_)
  refine wg_loop (fun k _ _ J H locs ls => (k ≤ 48) ∧ (∀ j, ¬ j = 12 → ¬ j = 13 → J j = I j) ∧ (∀ k, k < 169 → J 12 k ≤ 24) ∧ (∀ k, k < 48 → J 13 k ≤ 24) ∧ (∀ i, i ≤ wg_len n → J 12 i = i) ∧ (0 < k → k ≤ I 3 0 → ∀ x i, x ≤ wg_len (I 0 (k - 1)) → i ≤ wg_len n → J 12 (x * 13 + i) = wg_bt (I 0 (k - 1)) n x i) ∧ (∀ j, j < k → j < I 3 0 → J 13 j = wg_bt (I 0 j) n (wg_len (I 0 j)) (wg_len n)) ∧ va_P D wg_cl (wg_WX cJ cI h0 ad J) H ∧ va_S A s.heap H locs ∧ lv_has ls 5 [(0, .ref h0), (1, .long (lN n)), (3, .int (nI (wg_len n))), (4, .int (nI k))]) (fun k _ _ J => 48 - k) (fun k _z0 _z1 J H locs ls hI ih13 => ?_) 0 0 0 u7 _ _ _ ⟨(by omega), (fun j h _ => hq7a j h), hq7b, (by rw [hq7a 13 (by decide)]; exact hWF), hq7c, (fun h => absurd h (by omega)), (fun j h => absurd h (by omega)), hP, hS, lv_sub hl [2, 3, 1, 0] rfl⟩
  obtain ⟨hk, hJo, hJT, hJW, hr0, hrp, hWd, hP, hS, hl⟩ := hI
  have hJ := wg_XI_f hI hJo hJT hJW
  have hJ' := hJ
  clear hn hse hc hrc hso hw hL hF hF1 hNW hNL hT hWF hNO
  obtain ⟨hn, hse, hc, hrc, hso, hw, hL, hF, hF1, hNW, hNL, hT, hWF, hNO⟩ := hJ'
  have hJ0 : J 0 = I 0 := hJo 0 (by decide) (by decide)
  have hJ1 : J 1 = I 1 := hJo 1 (by decide) (by decide)
  have hJ2 : J 2 = I 2 := hJo 2 (by decide) (by decide)
  have hJ3 : J 3 0 = I 3 0 := by rw [hJo 3 (by decide) (by decide)]
  refine lv_iload hx hb d_X_measureAll_13 (lv_at hl 3 rfl) ?_
  refine lv_aload_n hx hb d_X_measureAll_15 rfl (lv_at hl 0 rfl) ?_
  refine wg_gX hx hb hts hown hK hP 3 (by decide) (v := .int (nI (J 3 0))) kf_X_52 rfl d_X_measureAll_16 ?_
  refine lv_icmp_ge (tgt := 54) hx hb d_X_measureAll_19 (by decide) (fun h19 => ?_) (fun h19 => ?_)
  · rw [nI_leI (by omega) (by omega)] at h19
    exact W.vret hx hb hr (fun tt hth hW => ⟨⟨J, rfl, ⟨hJo, hJT, hJW, fun j h => hWd j (by omega) h⟩, wg_h hth hP⟩, hS.F hth⟩) hS.2.2 d_X_measureAll_54
  · rw [nI_leI (by omega) (by omega)] at h19
    have hLk : J 1 k = wg_len (J 0 k) := by rw [hJ0, hJ1]; exact (hXF.1 k (by omega)).2
    have hrs : ∀ x i, x < max (J 2 k) 1 → i ≤ wg_len n → J 12 (x * 13 + i) = wg_bt (J 0 k) n x i := by
      intro x i h1 h2
      rw [hJ2] at h1
      rw [hJ0]
      by_cases hz : k = 0
      · subst hz
        have h20 := hXF.2.1 (by omega)
        rw [show x = 0 by omega, wg_bt_0, show 0 * 13 + i = i by omega]
        exact hr0 i h2
      · obtain ⟨g1, g2⟩ := hXF.2.2 k (by omega) (by omega)
        exact wg_rows_prev (hXF.1 (k - 1) (by omega)).1 (hXF.1 k (by omega)).1 (by omega) (hrp (by omega) (by omega)) (by omega) h2
    refine lv_aload_n hx hb d_X_measureAll_22 rfl (lv_at hl 0 rfl) ?_
    refine wg_gX hx hb hts hown hK hP 13 (by decide) (v := .ref (ad 13)) kf_X_38 rfl d_X_measureAll_23 ?_
    refine lv_iload hx hb d_X_measureAll_26 (lv_at hl 3 rfl) ?_
    refine lv_aload_n hx hb d_X_measureAll_28 rfl (lv_at hl 0 rfl) ?_
    refine lv_iload hx hb d_X_measureAll_29 (lv_at hl 3 rfl) ?_
    refine lv_aload_n hx hb d_X_measureAll_31 rfl (lv_at hl 0 rfl) ?_
    refine wg_gX hx hb hts hown hK hP 2 (by decide) (v := .ref (ad 2)) kf_X_17 rfl d_X_measureAll_32 ?_
    refine lv_iload hx hb d_X_measureAll_35 (lv_at hl 3 rfl) ?_
    refine wg_ild (f := J 2) (j := k) hx hb hK hP 3 rfl (by omega) (by decide) d_X_measureAll_37 ?_
    have hB37 := hF k (by omega)
    refine lv_iconst (v := (nI 1)) hx hb d_X_measureAll_38 (by decide +kernel) ?_
    refine va_mmax hx hb (by rw [hml]; exact hl.1.symm) hown (hts _ (wg_mmax_134).1) (hts _ (wg_mmax_134).2.1) (hts _ (wg_mmax_134).2.2.1) (hts _ (wg_mmax_134).2.2.2) (Nat.le_of_ble_eq_true rfl) (Nat.le_of_ble_eq_true rfl) (Nat.zero_le _) (Nat.zero_le _) d_X_measureAll_39 ?_
    rw [wg_max (by omega) (by omega)]
    refine lv_lload_n hx hb d_X_measureAll_42 rfl (lv_at hl 1 rfl) ?_
    refine lv_iload_n hx hb d_X_measureAll_43 rfl (lv_at hl 2 rfl) ?_
    refine wg_cvi (As := [.int (nI k), .int (nI (max (J 2 k) 1)), .long (lN n), .int (nI (wg_len n))]) (rest := [.int (nI k), .ref (ad 13)]) hx hb hml hown hts hK hP (hD _) hS hA rfl rfl rfl (c_X_farOfWord l D cJ cI h0 ad _ J k (max (J 2 k) 1) n (wg_len n) (by omega) (by omega) hn64 (by omega) hJ hLk hrs) kc_X_98 ⟨rfl, rfl⟩ ⟨Nat.le_of_ble_eq_true rfl, Nat.le_of_ble_eq_true rfl⟩ rfl hl.1 rfl (Nat.le_of_ble_eq_true rfl) d_X_measureAll_44 ⟨Nat.zero_le _, Nat.zero_le _⟩ (fun r u44 tt H locs ht q44 hB _ _ hS => ?_)
    have hP : va_P D wg_cl (wg_WX cJ cI h0 ad u44) H := by rw [← ht]; exact hB
    clear hB ht tt
    obtain ⟨rfl, hq44a, hq44b, hq44c⟩ := q44
    have hb44 := wg_bt_le (J 0 k) n (wg_len (J 0 k)) (wg_len n)
    have hb45 := wg_len_le (J 0 k)
    refine wg_sX13 (j := k) (x := (wg_bt (J 0 k) n (wg_len (J 0 k)) (wg_len n))) hx hb hK hP hD hS (by omega) d_X_measureAll_47 (fun H locs hP hS => ?_)
    refine lv_iinc (v := nI (k + 1)) (k := 3) (lv' := [(4, .int (nI (k + 1))), (0, .ref h0), (1, .long (lN n)), (3, .int (nI (wg_len n)))]) hx hb d_X_measureAll_48 hl rfl (nI_1 _) (by decide) rfl (fun ls hl => ?_)
    refine lv_goto (tgt := 13) hx hb d_X_measureAll_51 (by decide) ?_
    exact ih13 (k + 1) 0 0 (wg_st u44 13 k (wg_bt (J 0 k) n (wg_len (J 0 k)) (wg_len n))) _ _ _ ⟨(by omega), (fun j h1 h2 => (wg_st_o _ _ _ _ h2).trans ((hq44a j h1).trans (hJo j h1 h2))), hq44b, (wg_st_b (by rw [hq44a 13 (by decide)]; exact hJW) (by omega)), (fun i h => by have := hq44c 0 i (Nat.zero_le _) h; rw [wg_bt_0, show 0 * 13 + i = i by omega] at this; exact this), (fun _ _ => by rw [show k + 1 - 1 = k by omega, ← hJ0]; exact hq44c), (fun j h h2 => by rcases Nat.lt_succ_iff_lt_or_eq.mp h with h | rfl; exact (wg_st_n _ _ _ _ (by omega)).trans (by rw [hq44a 13 (by decide)]; exact hWd j h h2); exact (wg_st_s _ _ _ _).trans (by rw [hJ0])), hP, hS, lv_sub hl [1, 2, 3, 0] rfl⟩ (by omega)
set_option maxHeartbeats 4000000 in
set_option maxRecDepth 100000 in
theorem c_X_takeResults (l : Launch) (D : va_G) (cJ cI : ClassId) (h0 : Nat) (ad : Nat → Nat) (sz : Nat) (I : wg_S) (ee : Nat) (he : ee < 2 ^ 20) (h3 : I 3 0 ≤ 48) (hcnt : I 11 0 = wg_ct (I 13) ee (I 3 0)) (hWF : ∀ k, k < 48 → I 13 k ≤ 24) (hRS : wg_RS (I 13) (I 3 0) (I 9) (I 10) ee 0) : Met l y_X_takeResults (wg_ws y_X_takeResults b_X_takeResults 3 none) ({ frames := 0, cells := 0, slots := 0, locals := 0 }) (va_Pc [.ref h0, .int (nI ee)] (wg_Pc D cJ cI (wg_WX cJ cI h0 ad I) sz)) (va_Qv (fun (u : wg_S) => (∀ j, ¬ j = 9 → ¬ j = 10 → ¬ j = 11 → u j = I j) ∧ u 11 0 = wg_ct (I 13) (ee + 1) (I 3 0) ∧ wg_RS (I 13) (I 3 0) (u 9) (u 10) (ee + 1) 0) (fun (u : wg_S) t => va_P D wg_cl (wg_WX cJ cI h0 ad u) t.heap) (va_A (wg_WX cJ cI h0 ad I) sz)) 0 0 (va_A (wg_WX cJ cI h0 ad I) sz) := by
  refine wg_head (Wd := (fun I => wg_WX cJ cI h0 ad I)) (I := I) (fun A => va_Qv (fun (u : wg_S) => (∀ j, ¬ j = 9 → ¬ j = 10 → ¬ j = 11 → u j = I j) ∧ u 11 0 = wg_ct (I 13) (ee + 1) (I 3 0) ∧ wg_RS (I 13) (I 3 0) (u 9) (u 10) (ee + 1) 0) (fun (u : wg_S) t => va_P D wg_cl (wg_WX cJ cI h0 ad u) t.heap) A) R_X (by decide) rfl (Nat.le_of_ble_eq_true rfl) (fun I J => wg_same_X I J) ?_
  intro p e s m below meth c A ls hx hb hr hlk hml hown hnm hts hA hK hD hP hS hl hsz
  clear hsz
  have hl : lv_has ls 3 [(0, .ref h0), (1, .int (nI ee))] := hl
  have hP : va_P D wg_cl (wg_WX cJ cI h0 ad I) s.heap := hP
  skip
  refine lv_iconst (v := (nI 0)) hx hb d_X_takeResults_0 (by decide +kernel) ?_
  refine lv_istore_n (lv' := [(2, .int (nI 0)), (0, .ref h0), (1, .int (nI ee))]) hx hb d_X_takeResults_1 rfl hl (by decide) rfl (fun ls hl => ?_)
  refine wg_loop (fun k _ _ J H locs ls => (k ≤ I 3 0) ∧ (∀ j, ¬ j = 9 → ¬ j = 10 → ¬ j = 11 → J j = I j) ∧ (J 11 0 = wg_ct (I 13) ee (I 3 0) + wg_cq (I 13) ee k) ∧ (wg_RS (I 13) (I 3 0) (J 9) (J 10) ee k) ∧ va_P D wg_cl (wg_WX cJ cI h0 ad J) H ∧ va_S A s.heap H locs ∧ lv_has ls 3 [(0, .ref h0), (1, .int (nI ee)), (2, .int (nI k))]) (fun k _ _ J => 48 - k) (fun k _z0 _z1 J H locs ls hI ih2 => ?_) 0 0 0 I _ _ _ ⟨(by omega), (fun _ _ _ _ => rfl), hcnt, hRS, hP, hS, lv_sub hl [1, 2, 0] rfl⟩
  obtain ⟨hk, hJo, hJc, hJR, hP, hS, hl⟩ := hI
  have hJ3 : J 3 0 = I 3 0 := by rw [hJo 3 (by decide) (by decide) (by decide)]
  have hJ13 : J 13 = I 13 := hJo 13 (by decide) (by decide) (by decide)
  have hJW : ∀ k, k < 48 → J 13 k ≤ 24 := by rw [hJ13]; exact hWF
  refine lv_iload_n hx hb d_X_takeResults_2 rfl (lv_at hl 2 rfl) ?_
  refine lv_aload_n hx hb d_X_takeResults_3 rfl (lv_at hl 0 rfl) ?_
  refine wg_gX hx hb hts hown hK hP 3 (by decide) (v := .int (nI (J 3 0))) kf_X_52 rfl d_X_takeResults_4 ?_
  refine lv_icmp_ge (tgt := 56) hx hb d_X_takeResults_7 (by decide) (fun h7 => ?_) (fun h7 => ?_)
  · rw [nI_leI (by omega) (by omega)] at h7
    have hkk : k = I 3 0 := by omega
    exact W.vret hx hb hr (fun tt hth hW => ⟨⟨J, rfl, ⟨hJo, by rw [hJc, hkk, wg_ct_s], wg_RS_n (by rw [hkk] at hJR; exact hJR)⟩, wg_h hth hP⟩, hS.F hth⟩) hS.2.2 d_X_takeResults_56
  · rw [nI_leI (by omega) (by omega)] at h7
    refine lv_aload_n hx hb d_X_takeResults_10 rfl (lv_at hl 0 rfl) ?_
    refine wg_gX hx hb hts hown hK hP 13 (by decide) (v := .ref (ad 13)) kf_X_38 rfl d_X_takeResults_11 ?_
    refine lv_iload_n hx hb d_X_takeResults_14 rfl (lv_at hl 2 rfl) ?_
    refine wg_ild (f := J 13) (j := k) hx hb hK hP 10 rfl (by omega) (by decide) d_X_takeResults_15 ?_
    have hB15 := hJW k (by omega)
    refine lv_iload_n hx hb d_X_takeResults_16 rfl (lv_at hl 1 rfl) ?_
    refine lv_icmp_ne (tgt := 50) hx hb d_X_takeResults_17 (by decide) (fun h17 => ?_) (fun h17 => ?_)
    · rw [nI_eq (by omega) (by omega)] at h17
      rw [hJ13] at h17
      refine lv_iinc (v := nI (k + 1)) (k := 2) (lv' := [(2, .int (nI (k + 1))), (0, .ref h0), (1, .int (nI ee))]) hx hb d_X_takeResults_50 hl rfl (nI_1 _) (by decide) rfl (fun ls hl => ?_)
      refine lv_goto (tgt := 2) hx hb d_X_takeResults_53 (by decide) ?_
      exact ih2 (k + 1) 0 0 J _ _ _ ⟨(by omega), (by first | exact hJo | exact fun j h1 h2 h3 => (wg_st_o _ _ _ _ h3).trans ((wg_st_o _ _ _ _ h2).trans ((wg_st_o _ _ _ _ h1).trans (hJo j h1 h2 h3)))), (by first | (show J 11 0 + 1 = _; rw [wg_cq_t h17]; omega) | (rw [wg_cq_f h17]; exact hJc)), (by first | exact wg_RS_f hJR h17 | exact wg_RS_t (A' := wg_st J 9 (J 11 0) k 9) (B' := wg_st J 10 (J 11 0) ee 10) hJR (by omega) h17 (fun x h => by rw [← hJc] at h; exact wg_st_n _ _ _ _ h) (fun x h => by rw [← hJc] at h; exact wg_st_n _ _ _ _ h) (by rw [← hJc]; exact wg_st_s _ _ _ _) (by rw [← hJc]; exact wg_st_s _ _ _ _)), hP, hS, lv_sub hl [1, 2, 0] rfl⟩ (by omega)
    · rw [nI_eq (by omega) (by omega)] at h17
      rw [hJ13] at h17
      have hcl := wg_cc_lt (n := I 3 0) (by omega) h17
      refine lv_aload_n hx hb d_X_takeResults_20 rfl (lv_at hl 0 rfl) ?_
      refine wg_gX hx hb hts hown hK hP 9 (by decide) (v := .ref (ad 9)) kf_X_29 rfl d_X_takeResults_21 ?_
      refine lv_aload_n hx hb d_X_takeResults_24 rfl (lv_at hl 0 rfl) ?_
      refine wg_gX hx hb hts hown hK hP 11 (by decide) (v := .int (nI (J 11 0))) kf_X_75 rfl d_X_takeResults_25 ?_
      refine lv_iload_n hx hb d_X_takeResults_28 rfl (lv_at hl 2 rfl) ?_
      refine wg_sX9 (j := (J 11 0)) (x := k) hx hb hK hP hD hS (by omega) d_X_takeResults_29 (fun H locs hP hS => ?_)
      refine lv_aload_n hx hb d_X_takeResults_30 rfl (lv_at hl 0 rfl) ?_
      refine wg_gX hx hb hts hown hK hP 10 (by decide) (v := .ref (ad 10)) kf_X_32 rfl d_X_takeResults_31 ?_
      refine lv_aload_n hx hb d_X_takeResults_34 rfl (lv_at hl 0 rfl) ?_
      refine wg_gX hx hb hts hown hK hP 11 (by decide) (v := .int (nI (J 11 0))) kf_X_75 rfl d_X_takeResults_35 ?_
      refine lv_iload_n hx hb d_X_takeResults_38 rfl (lv_at hl 1 rfl) ?_
      refine wg_sX10 (j := (J 11 0)) (x := ee) hx hb hK hP hD hS (by omega) d_X_takeResults_39 (fun H locs hP hS => ?_)
      refine lv_aload_n hx hb d_X_takeResults_40 rfl (lv_at hl 0 rfl) ?_
      refine lv_dup hx hb d_X_takeResults_41 rfl ?_
      refine wg_gX hx hb hts hown hK hP 11 (by decide) (v := .int (nI (J 11 0))) kf_X_75 rfl d_X_takeResults_42 ?_
      refine lv_iconst (v := (nI 1)) hx hb d_X_takeResults_45 (by decide +kernel) ?_
      refine t_iadd (v := nI ((J 11 0) + 1)) hx hb d_X_takeResults_46 (nI_add _ _) ?_
      refine wg_pX11 (v := ((J 11 0) + 1)) hx hb hts hown hK hP hD hS kf_X_75 d_X_takeResults_47 (fun H locs hP hS => ?_)
      refine lv_iinc (v := nI (k + 1)) (k := 2) (lv' := [(2, .int (nI (k + 1))), (0, .ref h0), (1, .int (nI ee))]) hx hb d_X_takeResults_50 hl rfl (nI_1 _) (by decide) rfl (fun ls hl => ?_)
      refine lv_goto (tgt := 2) hx hb d_X_takeResults_53 (by decide) ?_
      exact ih2 (k + 1) 0 0 (wg_st (wg_st (wg_st J 9 (J 11 0) k) 10 (J 11 0) ee) 11 0 ((J 11 0) + 1)) _ _ _ ⟨(by omega), (by first | exact hJo | exact fun j h1 h2 h3 => (wg_st_o _ _ _ _ h3).trans ((wg_st_o _ _ _ _ h2).trans ((wg_st_o _ _ _ _ h1).trans (hJo j h1 h2 h3)))), (by first | (show J 11 0 + 1 = _; rw [wg_cq_t h17]; omega) | (rw [wg_cq_f h17]; exact hJc)), (by first | exact wg_RS_f hJR h17 | exact wg_RS_t (A' := wg_st J 9 (J 11 0) k 9) (B' := wg_st J 10 (J 11 0) ee 10) hJR (by omega) h17 (fun x h => by rw [← hJc] at h; exact wg_st_n _ _ _ _ h) (fun x h => by rw [← hJc] at h; exact wg_st_n _ _ _ _ h) (by rw [← hJc]; exact wg_st_s _ _ _ _) (by rw [← hJc]; exact wg_st_s _ _ _ _)), hP, hS, lv_sub hl [1, 2, 0] rfl⟩ (by omega)
set_option maxHeartbeats 4000000 in
set_option maxRecDepth 100000 in
theorem c_X_search (l : Launch) (D : va_G) (cJ cI : ClassId) (h0 : Nat) (ad : Nat → Nat) (sz : Nat) (I : wg_S) (n : Nat) (d : Int32) (hn64 : n < 2 ^ 64) (hI : wg_XI I) (hXF : wg_XF I) : Met l y_X_search (wg_ws y_X_search b_X_search 5 (some .int)) ({ frames := 4, cells := 0, slots := 0, locals := 102 }) (va_Pc [.ref h0, .long (lN n), .int d] (wg_Pc D cJ cI (wg_WX cJ cI h0 ad I) sz)) (va_Qi (fun (r : Int32) (u : wg_S) => (I 4 0 = 0 ∧ r = -1 ∧ u = I) ∨ (¬ I 4 0 = 0 ∧ ¬ (wg_ok n ∧ ∃ dn, dn ≤ 3 ∧ d = nI dn) ∧ r = -2 ∧ u = I) ∨ (¬ I 4 0 = 0 ∧ wg_ok n ∧ ∃ dn, dn ≤ 3 ∧ d = nI dn ∧ r = nI (u 11 0) ∧ u 11 0 = wg_ct (fun k => wg_bt (I 0 k) n (wg_len (I 0 k)) (wg_len n)) (dn + 1) (I 3 0) ∧ wg_RS (fun k => wg_bt (I 0 k) n (wg_len (I 0 k)) (wg_len n)) (I 3 0) (u 9) (u 10) (dn + 1) 0 ∧ wg_XI u ∧ (∀ j, j < 9 → u j = I j))) (fun (u : wg_S) t => va_P D wg_cl (wg_WX cJ cI h0 ad u) t.heap) (va_A (wg_WX cJ cI h0 ad I) sz)) 0 0 (va_A (wg_WX cJ cI h0 ad I) sz) := by
  refine wg_head (Wd := (fun I => wg_WX cJ cI h0 ad I)) (I := I) (fun A => va_Qi (fun (r : Int32) (u : wg_S) => (I 4 0 = 0 ∧ r = -1 ∧ u = I) ∨ (¬ I 4 0 = 0 ∧ ¬ (wg_ok n ∧ ∃ dn, dn ≤ 3 ∧ d = nI dn) ∧ r = -2 ∧ u = I) ∨ (¬ I 4 0 = 0 ∧ wg_ok n ∧ ∃ dn, dn ≤ 3 ∧ d = nI dn ∧ r = nI (u 11 0) ∧ u 11 0 = wg_ct (fun k => wg_bt (I 0 k) n (wg_len (I 0 k)) (wg_len n)) (dn + 1) (I 3 0) ∧ wg_RS (fun k => wg_bt (I 0 k) n (wg_len (I 0 k)) (wg_len n)) (I 3 0) (u 9) (u 10) (dn + 1) 0 ∧ wg_XI u ∧ (∀ j, j < 9 → u j = I j))) (fun (u : wg_S) t => va_P D wg_cl (wg_WX cJ cI h0 ad u) t.heap) A) R_X (by decide) rfl (Nat.le_of_ble_eq_true rfl) (fun I J => wg_same_X I J) ?_
  intro p e s m below meth c A ls hx hb hr hlk hml hown hnm hts hA hK hD hP hS hl hsz
  clear hsz
  have hl : lv_has ls 5 [(0, .ref h0), (1, .long (lN n)), (3, .int d)] := hl
  have hP : va_P D wg_cl (wg_WX cJ cI h0 ad I) s.heap := hP
  skip
  have hI' := hI
  obtain ⟨hn, hse, hc, hrc, hso, hw, hL, hF, hF1, hNW, hNL, hT, hWF, hNO⟩ := hI'
  refine lv_aload_n hx hb d_X_search_0 rfl (lv_at hl 0 rfl) ?_
  refine wg_gX hx hb hts hown hK hP 4 (by decide) (v := .int (nI (I 4 0))) kf_X_44 rfl d_X_search_1 ?_
  refine lv_if_ne (tgt := 9) hx hb d_X_search_4 (by decide) (fun h4 => ?_) (fun h4 => ?_)
  · rw [wg_z0 (by omega)] at h4
    refine lv_lload_n hx hb d_X_search_9 rfl (lv_at hl 1 rfl) ?_
    refine wg_csi (As := [.long (lN n)]) (rest := []) hx hb hml hown hts hK hP hS hA (c_X_isWord l D cJ cI _ n (by omega)) kc_X_48 ⟨rfl, rfl⟩ ⟨Nat.le_of_ble_eq_true rfl, Nat.le_of_ble_eq_true rfl⟩ rfl hl.1 rfl (Nat.le_of_ble_eq_true rfl) d_X_search_10 ⟨Nat.zero_le _, Nat.zero_le _⟩ (fun r H locs q10 hP hS => ?_)
    rcases q10 with ⟨rfl, hok10⟩ | ⟨rfl, hok10⟩
    · skip
      have hlt10 := hok10.1
      refine lv_if_eq (tgt := 25) hx hb d_X_search_13 (by decide) (fun h => absurd h (by decide +kernel)) (fun _ => ?_)
      refine lv_iload_n hx hb d_X_search_16 rfl (lv_at hl 2 rfl) ?_
      refine lv_if_lt (tgt := 25) hx hb d_X_search_17 (by decide) (fun h17 => ?_) (fun h17 => ?_)
      · refine lv_bipush (v := (-2)) hx hb d_X_search_25 (by decide +kernel) ?_
        exact W.iret (v := (-2)) hx hb hr (fun tt hth hW => ⟨⟨_, I, rfl, (Or.inr (Or.inl ⟨h4, by first | exact fun q => hok10 q.1 | exact fun q => wg_dno1 h17 q.2 | exact fun q => wg_dno2 h22 q.2, rfl, rfl⟩)), wg_h hth hP⟩, hS.F hth⟩) hS.2.2 d_X_search_27
      · refine lv_iload_n hx hb d_X_search_20 rfl (lv_at hl 2 rfl) ?_
        refine lv_iconst (v := (nI 3)) hx hb d_X_search_21 (by decide +kernel) ?_
        refine lv_icmp_le (tgt := 28) hx hb d_X_search_22 (by decide) (fun h22 => ?_) (fun h22 => ?_)
        · obtain ⟨dn, hdn, rfl⟩ := nI_of2 (n := 3) (by decide +kernel) h17 h22
          refine lv_aload_n hx hb d_X_search_28 rfl (lv_at hl 0 rfl) ?_
          refine lv_lload_n hx hb d_X_search_29 rfl (lv_at hl 1 rfl) ?_
          refine wg_cvv (As := [.long (lN n)]) (rest := []) hx hb hml hown hts hK hP (hD _) hS hA rfl rfl rfl (c_X_measureAll l D cJ cI h0 ad _ I n hn64 hI hXF) kc_X_102 ⟨rfl, rfl⟩ ⟨Nat.le_of_ble_eq_true rfl, Nat.le_of_ble_eq_true rfl⟩ rfl hl.1 rfl (Nat.le_of_ble_eq_true rfl) d_X_search_30 ⟨Nat.zero_le _, Nat.zero_le _⟩ (fun u30 tt H locs ht q30 hB _ _ hS => ?_)
          have hP : va_P D wg_cl (wg_WX cJ cI h0 ad u30) H := by rw [← ht]; exact hB
          clear hB ht tt
          obtain ⟨hq30a, hq30b, hq30c, hq30d⟩ := q30
          have h3 : u30 3 0 = I 3 0 := by rw [hq30a 3 (by decide) (by decide)]
          refine lv_aload_n hx hb d_X_search_33 rfl (lv_at hl 0 rfl) ?_
          refine lv_iconst (v := (nI 0)) hx hb d_X_search_34 (by decide +kernel) ?_
          refine wg_pX11 (v := 0) hx hb hts hown hK hP hD hS kf_X_75 d_X_search_35 (fun H locs hP hS => ?_)
          refine lv_iconst (v := (nI 0)) hx hb d_X_search_38 (by decide +kernel) ?_
          refine lv_istore (lv' := [(4, .int (nI 0)), (0, .ref h0), (1, .long (lN n)), (3, .int (nI dn))]) hx hb d_X_search_39 hl (by decide) rfl (fun ls hl => ?_)
          refine wg_loop (fun g _ _ J H locs ls => (g ≤ dn + 1) ∧ (∀ j, ¬ j = 9 → ¬ j = 10 → ¬ j = 11 → ¬ j = 12 → ¬ j = 13 → J j = I j) ∧ (J 11 0 = wg_ct (J 13) g (J 3 0)) ∧ (∀ k, k < 169 → J 12 k ≤ 24) ∧ (∀ k, k < 48 → J 13 k ≤ 24) ∧ (wg_RS (J 13) (J 3 0) (J 9) (J 10) g 0) ∧ (∀ k, k < I 3 0 → J 13 k = wg_bt (I 0 k) n (wg_len (I 0 k)) (wg_len n)) ∧ va_P D wg_cl (wg_WX cJ cI h0 ad J) H ∧ va_S A s.heap H locs ∧ lv_has ls 5 [(0, .ref h0), (3, .int (nI dn)), (4, .int (nI g))]) (fun g _ _ J => dn + 1 - g) (fun g _z0 _z1 J H locs ls hI ih41 => ?_) 0 0 0 (wg_st u30 11 0 0) _ _ _ ⟨(by omega), (fun j _ _ h11 h12 h13 => (wg_st_o _ _ _ _ h11).trans (hq30a j h12 h13)), (wg_ct_0 _ _).symm, hq30b, hq30c, (wg_RS_0 _ _ _ _), hq30d, hP, hS, lv_sub hl [1, 3, 0] rfl⟩
          obtain ⟨hg, hJo, hJc, hJT, hJW, hJR, hJD, hP, hS, hl⟩ := hI
          have hJ3 : J 3 0 = I 3 0 := by rw [hJo 3 (by decide) (by decide) (by decide) (by decide) (by decide)]
          have hJ48 : J 11 0 ≤ 48 := by rw [hJc]; have := wg_cc_le (J 13) g (J 3 0); omega
          refine lv_iload hx hb d_X_search_41 (lv_at hl 2 rfl) ?_
          refine lv_iload_n hx hb d_X_search_43 rfl (lv_at hl 1 rfl) ?_
          refine lv_icmp_gt (tgt := 59) hx hb d_X_search_44 (by decide) (fun h44 => ?_) (fun h44 => ?_)
          · rw [nI_ltI (by omega) (by omega)] at h44
            refine lv_aload_n hx hb d_X_search_59 rfl (lv_at hl 0 rfl) ?_
            refine wg_gX hx hb hts hown hK hP 11 (by decide) (v := .int (nI (J 11 0))) kf_X_75 rfl d_X_search_60 ?_
            exact W.iret (v := (nI (J 11 0))) hx hb hr (fun tt hth hW => ⟨⟨_, J, rfl, (Or.inr (Or.inr ⟨h4, hok10, dn, hdn, rfl, rfl, by rw [hJc, hJ3, show g = dn + 1 by omega]; exact wg_ct_ext _ hJD, wg_RS_ext hJD (by rw [hJ3, show g = dn + 1 by omega] at hJR; exact hJR), wg_XI_s hI hJo hJ48 hJT hJW, fun j h => hJo j (by omega) (by omega) (by omega) (by omega) (by omega)⟩)), wg_h hth hP⟩, hS.F hth⟩) hS.2.2 d_X_search_63
          · rw [nI_ltI (by omega) (by omega)] at h44
            refine lv_aload_n hx hb d_X_search_47 rfl (lv_at hl 0 rfl) ?_
            refine lv_iload hx hb d_X_search_48 (lv_at hl 2 rfl) ?_
            refine wg_cvv (As := [.int (nI g)]) (rest := []) hx hb hml hown hts hK hP (hD _) hS hA rfl rfl rfl (c_X_takeResults l D cJ cI h0 ad _ J g (by omega) (by omega) hJc hJW hJR) kc_X_106 ⟨rfl, rfl⟩ ⟨Nat.le_of_ble_eq_true rfl, Nat.le_of_ble_eq_true rfl⟩ rfl hl.1 rfl (Nat.le_of_ble_eq_true rfl) d_X_search_50 ⟨Nat.zero_le _, Nat.zero_le _⟩ (fun u50 tt H locs ht q50 hB _ _ hS => ?_)
            have hP : va_P D wg_cl (wg_WX cJ cI h0 ad u50) H := by rw [← ht]; exact hB
            clear hB ht tt
            obtain ⟨hq50a, hq50b, hq50c⟩ := q50
            refine lv_iinc (v := nI (g + 1)) (k := 2) (lv' := [(4, .int (nI (g + 1))), (0, .ref h0), (3, .int (nI dn))]) hx hb d_X_search_53 hl rfl (nI_1 _) (by decide) rfl (fun ls hl => ?_)
            refine lv_goto (tgt := 41) hx hb d_X_search_56 (by decide) ?_
            exact ih41 (g + 1) 0 0 u50 _ _ _ ⟨(by omega), (fun j h1 h2 h3 h4 h5 => (hq50a j h1 h2 h3).trans (hJo j h1 h2 h3 h4 h5)), (by rw [hq50b, hq50a 13 (by decide) (by decide) (by decide), hq50a 3 (by decide) (by decide) (by decide)]), (by rw [hq50a 12 (by decide) (by decide) (by decide)]; exact hJT), (by rw [hq50a 13 (by decide) (by decide) (by decide)]; exact hJW), (by rw [hq50a 13 (by decide) (by decide) (by decide), hq50a 3 (by decide) (by decide) (by decide)]; exact hq50c), (by rw [hq50a 13 (by decide) (by decide) (by decide)]; exact hJD), hP, hS, lv_sub hl [1, 2, 0] rfl⟩ (by omega)
        · refine lv_bipush (v := (-2)) hx hb d_X_search_25 (by decide +kernel) ?_
          exact W.iret (v := (-2)) hx hb hr (fun tt hth hW => ⟨⟨_, I, rfl, (Or.inr (Or.inl ⟨h4, by first | exact fun q => hok10 q.1 | exact fun q => wg_dno1 h17 q.2 | exact fun q => wg_dno2 h22 q.2, rfl, rfl⟩)), wg_h hth hP⟩, hS.F hth⟩) hS.2.2 d_X_search_27
    · skip
      refine lv_if_eq (tgt := 25) hx hb d_X_search_13 (by decide) (fun _ => ?_) (fun h => absurd h (by decide +kernel))
      refine lv_bipush (v := (-2)) hx hb d_X_search_25 (by decide +kernel) ?_
      exact W.iret (v := (-2)) hx hb hr (fun tt hth hW => ⟨⟨_, I, rfl, (Or.inr (Or.inl ⟨h4, by first | exact fun q => hok10 q.1 | exact fun q => wg_dno1 h17 q.2 | exact fun q => wg_dno2 h22 q.2, rfl, rfl⟩)), wg_h hth hP⟩, hS.F hth⟩) hS.2.2 d_X_search_27
  · rw [wg_z0 (by omega)] at h4
    refine lv_iconst (v := (-1)) hx hb d_X_search_7 (by decide +kernel) ?_
    exact W.iret (v := (-1)) hx hb hr (fun tt hth hW => ⟨⟨_, I, rfl, (Or.inl ⟨h4, rfl, rfl⟩), wg_h hth hP⟩, hS.F hth⟩) hS.2.2 d_X_search_8
set_option maxHeartbeats 4000000 in
set_option maxRecDepth 100000 in
theorem c_X_distance (l : Launch) (D : va_G) (cJ cI : ClassId) (h0 : Nat) (ad : Nat → Nat) (sz : Nat) (I : wg_S) (n : Nat) (k : Int32) (hn64 : n < 2 ^ 64) (hI : wg_XI I) (hXF : wg_XF I) : Met l y_X_distance (wg_ws y_X_distance b_X_distance 5 (some .int)) ({ frames := 3, cells := 0, slots := 0, locals := 78 }) (va_Pc [.ref h0, .long (lN n), .int k] (wg_Pc D cJ cI (wg_WX cJ cI h0 ad I) sz)) (va_Qi (fun (r : Int32) (u : wg_S) => (¬ (wg_ok n ∧ ∃ j, j < I 3 0 ∧ k = nI j) ∧ r = -1 ∧ u = I) ∨ (wg_ok n ∧ ∃ j, j < I 3 0 ∧ k = nI j ∧ r = nI (wg_bt (I 0 j) n (wg_len (I 0 j)) (wg_len n)) ∧ wg_XI u ∧ (∀ x, ¬ x = 12 → u x = I x))) (fun (u : wg_S) t => va_P D wg_cl (wg_WX cJ cI h0 ad u) t.heap) (va_A (wg_WX cJ cI h0 ad I) sz)) 0 0 (va_A (wg_WX cJ cI h0 ad I) sz) := by
  refine wg_head (Wd := (fun I => wg_WX cJ cI h0 ad I)) (I := I) (fun A => va_Qi (fun (r : Int32) (u : wg_S) => (¬ (wg_ok n ∧ ∃ j, j < I 3 0 ∧ k = nI j) ∧ r = -1 ∧ u = I) ∨ (wg_ok n ∧ ∃ j, j < I 3 0 ∧ k = nI j ∧ r = nI (wg_bt (I 0 j) n (wg_len (I 0 j)) (wg_len n)) ∧ wg_XI u ∧ (∀ x, ¬ x = 12 → u x = I x))) (fun (u : wg_S) t => va_P D wg_cl (wg_WX cJ cI h0 ad u) t.heap) A) R_X (by decide) rfl (Nat.le_of_ble_eq_true rfl) (fun I J => wg_same_X I J) ?_
  intro p e s m below meth c A ls hx hb hr hlk hml hown hnm hts hA hK hD hP hS hl hsz
  clear hsz
  have hl : lv_has ls 5 [(0, .ref h0), (1, .long (lN n)), (3, .int k)] := hl
  have hP : va_P D wg_cl (wg_WX cJ cI h0 ad I) s.heap := hP
  skip
  have hI' := hI
  obtain ⟨hn, hse, hc, hrc, hso, hw, hL, hF, hF1, hNW, hNL, hT, hWF, hNO⟩ := hI'
  refine lv_lload_n hx hb d_X_distance_0 rfl (lv_at hl 1 rfl) ?_
  refine wg_csi (As := [.long (lN n)]) (rest := []) hx hb hml hown hts hK hP hS hA (c_X_isWord l D cJ cI _ n (by omega)) kc_X_48 ⟨rfl, rfl⟩ ⟨Nat.le_of_ble_eq_true rfl, Nat.le_of_ble_eq_true rfl⟩ rfl hl.1 rfl (Nat.le_of_ble_eq_true rfl) d_X_distance_1 ⟨Nat.zero_le _, Nat.zero_le _⟩ (fun r H locs q1 hP hS => ?_)
  rcases q1 with ⟨rfl, hok1⟩ | ⟨rfl, hok1⟩
  · skip
    have hlt1 := hok1.1
    refine lv_if_eq (tgt := 15) hx hb d_X_distance_4 (by decide) (fun h => absurd h (by decide +kernel)) (fun _ => ?_)
    refine lv_aload_n hx hb d_X_distance_7 rfl (lv_at hl 0 rfl) ?_
    refine lv_iload_n hx hb d_X_distance_8 rfl (lv_at hl 2 rfl) ?_
    refine wg_cvi (As := [.int k]) (rest := []) hx hb hml hown hts hK hP (hD _) hS hA rfl rfl rfl (c_X_hasWord l D cJ cI h0 ad _ I k (by omega)) kc_X_78 ⟨rfl, rfl⟩ ⟨Nat.le_of_ble_eq_true rfl, Nat.le_of_ble_eq_true rfl⟩ rfl hl.1 rfl (Nat.le_of_ble_eq_true rfl) d_X_distance_9 ⟨Nat.zero_le _, Nat.zero_le _⟩ (fun r u9 tt H locs ht q9 hB _ _ hS => ?_)
    have hP : va_P D wg_cl (wg_WX cJ cI h0 ad I) H := by rw [← ht]; exact hB
    clear hB ht tt
    rcases q9 with ⟨rfl, j9, hj9, rfl⟩ | ⟨rfl, hj9⟩
    · skip
      refine lv_if_ne (tgt := 17) hx hb d_X_distance_12 (by decide) (fun _ => ?_) (fun h => absurd h (by decide +kernel))
      refine lv_lload_n hx hb d_X_distance_17 rfl (lv_at hl 1 rfl) ?_
      refine wg_csi (As := [.long (lN n)]) (rest := []) hx hb hml hown hts hK hP hS hA (c_X_lengthOf l D cJ cI _ n (by omega)) kc_X_56 ⟨rfl, rfl⟩ ⟨Nat.le_of_ble_eq_true rfl, Nat.le_of_ble_eq_true rfl⟩ rfl hl.1 rfl (Nat.le_of_ble_eq_true rfl) d_X_distance_18 ⟨Nat.zero_le _, Nat.zero_le _⟩ (fun r H locs q18 hP hS => ?_)
      obtain rfl := q18
      have hq18 := wg_len_le n
      refine lv_istore (lv' := [(4, .int (nI (wg_len n))), (0, .ref h0), (1, .long (lN n)), (3, .int (nI j9))]) hx hb d_X_distance_21 hl (by decide) rfl (fun ls hl => ?_)
      refine lv_aload_n hx hb d_X_distance_23 rfl (lv_at hl 1 rfl) ?_
      refine lv_iload hx hb d_X_distance_24 (lv_at hl 0 rfl) ?_
      refine wg_cvv (As := [.int (nI (wg_len n))]) (rest := []) hx hb hml hown hts hK hP (hD _) hS hA rfl rfl rfl (c_X_fillFirstRow l D cJ cI h0 ad _ I (wg_len n) (by omega) hT) kc_X_95 ⟨rfl, rfl⟩ ⟨Nat.le_of_ble_eq_true rfl, Nat.le_of_ble_eq_true rfl⟩ rfl hl.1 rfl (Nat.le_of_ble_eq_true rfl) d_X_distance_26 ⟨Nat.zero_le _, Nat.zero_le _⟩ (fun u26 tt H locs ht q26 hB _ _ hS => ?_)
      have hP : va_P D wg_cl (wg_WX cJ cI h0 ad u26) H := by rw [← ht]; exact hB
      clear hB ht tt
      obtain ⟨hq26a, hq26b, hq26c⟩ := q26
      have hJ := wg_XI_12 hI hq26a hq26b
      have hJ0 : u26 0 = I 0 := hq26a 0 (by decide)
      refine lv_aload_n hx hb d_X_distance_29 rfl (lv_at hl 1 rfl) ?_
      refine lv_iload_n hx hb d_X_distance_30 rfl (lv_at hl 3 rfl) ?_
      refine lv_iconst (v := (nI 1)) hx hb d_X_distance_31 (by decide +kernel) ?_
      refine lv_lload_n hx hb d_X_distance_32 rfl (lv_at hl 2 rfl) ?_
      refine lv_iload hx hb d_X_distance_33 (lv_at hl 0 rfl) ?_
      refine wg_cvi (As := [.int (nI j9), .int (nI 1), .long (lN n), .int (nI (wg_len n))]) (rest := []) hx hb hml hown hts hK hP (hD _) hS hA rfl rfl rfl (c_X_farOfWord l D cJ cI h0 ad _ u26 j9 1 n (wg_len n) (by omega) (by omega) hn64 (by omega) hJ (by rw [hJ0, hq26a 1 (by decide)]; exact (hXF.1 _ hj9).2) (fun x i h1 h2 => by rw [show x = 0 by omega, wg_bt_0, show 0 * 13 + i = i by omega]; exact hq26c i h2)) kc_X_98 ⟨rfl, rfl⟩ ⟨Nat.le_of_ble_eq_true rfl, Nat.le_of_ble_eq_true rfl⟩ rfl hl.1 rfl (Nat.le_of_ble_eq_true rfl) d_X_distance_35 ⟨Nat.zero_le _, Nat.zero_le _⟩ (fun r u35 tt H locs ht q35 hB _ _ hS => ?_)
      have hP : va_P D wg_cl (wg_WX cJ cI h0 ad u35) H := by rw [← ht]; exact hB
      clear hB ht tt
      obtain ⟨rfl, hq35a, hq35b, hq35c⟩ := q35
      exact W.iret (v := (nI (wg_bt (u26 0 j9) n (wg_len (u26 0 j9)) (wg_len n)))) hx hb hr (fun tt hth hW => ⟨⟨_, u35, rfl, (Or.inr ⟨hok1, j9, hj9, rfl, by rw [hJ0], wg_XI_12 hJ hq35a hq35b, fun x h => (hq35a x h).trans (hq26a x h)⟩), wg_h hth hP⟩, hS.F hth⟩) hS.2.2 d_X_distance_38
    · skip
      refine lv_if_ne (tgt := 17) hx hb d_X_distance_12 (by decide) (fun h => absurd h (by decide +kernel)) (fun _ => ?_)
      refine lv_iconst (v := (-1)) hx hb d_X_distance_15 (by decide +kernel) ?_
      exact W.iret (v := (-1)) hx hb hr (fun tt hth hW => ⟨⟨_, I, rfl, (Or.inl ⟨by first | exact fun q => hok1 q.1 | exact fun q => (by obtain ⟨j, q1, q2⟩ := q.2; exact hj9 j q1 q2), rfl, rfl⟩), wg_h hth hP⟩, hS.F hth⟩) hS.2.2 d_X_distance_16
  · skip
    refine lv_if_eq (tgt := 15) hx hb d_X_distance_4 (by decide) (fun _ => ?_) (fun h => absurd h (by decide +kernel))
    refine lv_iconst (v := (-1)) hx hb d_X_distance_15 (by decide +kernel) ?_
    exact W.iret (v := (-1)) hx hb hr (fun tt hth hW => ⟨⟨_, I, rfl, (Or.inl ⟨by first | exact fun q => hok1 q.1 | exact fun q => (by obtain ⟨j, q1, q2⟩ := q.2; exact hj9 j q1 q2), rfl, rfl⟩), wg_h hth hP⟩, hS.F hth⟩) hS.2.2 d_X_distance_16
set_option maxHeartbeats 4000000 in
set_option maxRecDepth 100000 in
theorem c_X_add (l : Launch) (D : va_G) (cJ cI : ClassId) (h0 : Nat) (ad : Nat → Nat) (sz : Nat) (I : wg_S) (n : Nat) (hn64 : n < 2 ^ 64) (hI : wg_XI I) (hXF : wg_XF I) : Met l y_X_add (wg_ws y_X_add b_X_add 3 (some .int)) ({ frames := 3, cells := 0, slots := 0, locals := 67 }) (va_Pc [.ref h0, .long (lN n)] (wg_Pc D cJ cI (wg_WX cJ cI h0 ad I) sz)) (va_Qi (fun (r : Int32) (u : wg_S) => wg_AddR (I 4 0) (I 3 0) (I 0) n r ∧ wg_XI u ∧ ((¬ r = 0 ∧ u = I) ∨ (r = 0 ∧ wg_XF u ∧ u 3 0 = I 3 0 + 1 ∧ u 0 (I 3 0) = n ∧ (∀ k, k < I 3 0 → u 0 k = I 0 k) ∧ (∀ j, 3 < j → u j = I j) ∧ u 0 = wg_st I 0 (I 3 0) n 0))) (fun (u : wg_S) t => va_P D wg_cl (wg_WX cJ cI h0 ad u) t.heap) (va_A (wg_WX cJ cI h0 ad I) sz)) 0 0 (va_A (wg_WX cJ cI h0 ad I) sz) := by
  refine wg_head (Wd := (fun I => wg_WX cJ cI h0 ad I)) (I := I) (fun A => va_Qi (fun (r : Int32) (u : wg_S) => wg_AddR (I 4 0) (I 3 0) (I 0) n r ∧ wg_XI u ∧ ((¬ r = 0 ∧ u = I) ∨ (r = 0 ∧ wg_XF u ∧ u 3 0 = I 3 0 + 1 ∧ u 0 (I 3 0) = n ∧ (∀ k, k < I 3 0 → u 0 k = I 0 k) ∧ (∀ j, 3 < j → u j = I j) ∧ u 0 = wg_st I 0 (I 3 0) n 0))) (fun (u : wg_S) t => va_P D wg_cl (wg_WX cJ cI h0 ad u) t.heap) A) R_X (by decide) rfl (Nat.le_of_ble_eq_true rfl) (fun I J => wg_same_X I J) ?_
  intro p e s m below meth c A ls hx hb hr hlk hml hown hnm hts hA hK hD hP hS hl hsz
  clear hsz
  have hl : lv_has ls 3 [(0, .ref h0), (1, .long (lN n))] := hl
  have hP : va_P D wg_cl (wg_WX cJ cI h0 ad I) s.heap := hP
  skip
  have hI' := hI
  obtain ⟨hn, hse, hc, hrc, hso, hw, hL, hF, hF1, hNW, hNL, hT, hWF, hNO⟩ := hI'
  refine lv_aload_n hx hb d_X_add_0 rfl (lv_at hl 0 rfl) ?_
  refine wg_gX hx hb hts hown hK hP 4 (by decide) (v := .int (nI (I 4 0))) kf_X_44 rfl d_X_add_1 ?_
  refine lv_if_eq (tgt := 9) hx hb d_X_add_4 (by decide) (fun h4 => ?_) (fun h4 => ?_)
  · rw [wg_z0 (by omega)] at h4
    refine lv_lload_n hx hb d_X_add_9 rfl (lv_at hl 1 rfl) ?_
    refine wg_csi (As := [.long (lN n)]) (rest := []) hx hb hml hown hts hK hP hS hA (c_X_isWord l D cJ cI _ n (by omega)) kc_X_48 ⟨rfl, rfl⟩ ⟨Nat.le_of_ble_eq_true rfl, Nat.le_of_ble_eq_true rfl⟩ rfl hl.1 rfl (Nat.le_of_ble_eq_true rfl) d_X_add_10 ⟨Nat.zero_le _, Nat.zero_le _⟩ (fun r H locs q10 hP hS => ?_)
    rcases q10 with ⟨rfl, hok10⟩ | ⟨rfl, hok10⟩
    · skip
      have hlt10 := hok10.1
      refine lv_if_ne (tgt := 19) hx hb d_X_add_13 (by decide) (fun _ => ?_) (fun h => absurd h (by decide +kernel))
      refine lv_aload_n hx hb d_X_add_19 rfl (lv_at hl 0 rfl) ?_
      refine wg_gX hx hb hts hown hK hP 3 (by decide) (v := .int (nI (I 3 0))) kf_X_52 rfl d_X_add_20 ?_
      refine lv_bipush (v := (nI 48)) hx hb d_X_add_23 (by decide +kernel) ?_
      refine lv_icmp_lt (tgt := 31) hx hb d_X_add_25 (by decide) (fun h25 => ?_) (fun h25 => ?_)
      · rw [nI_ltI (by omega) (by omega)] at h25
        refine lv_aload_n hx hb d_X_add_31 rfl (lv_at hl 0 rfl) ?_
        refine wg_gX hx hb hts hown hK hP 3 (by decide) (v := .int (nI (I 3 0))) kf_X_52 rfl d_X_add_32 ?_
        refine lv_if_le (tgt := 57) hx hb d_X_add_35 (by decide) (fun h35 => ?_) (fun h35 => ?_)
        · rw [wg_le0 (by omega)] at h35
          refine lv_aload_n hx hb d_X_add_57 rfl (lv_at hl 0 rfl) ?_
          refine wg_gX hx hb hts hown hK hP 0 (by decide) (v := .ref (ad 0)) kf_X_9 rfl d_X_add_58 ?_
          refine lv_aload_n hx hb d_X_add_61 rfl (lv_at hl 0 rfl) ?_
          refine wg_gX hx hb hts hown hK hP 3 (by decide) (v := .int (nI (I 3 0))) kf_X_52 rfl d_X_add_62 ?_
          refine lv_lload_n hx hb d_X_add_65 rfl (lv_at hl 1 rfl) ?_
          refine wg_sX0 (j := (I 3 0)) (x := n) hx hb hK hP hD hS (by omega) d_X_add_66 (fun H locs hP hS => ?_)
          refine lv_aload_n hx hb d_X_add_67 rfl (lv_at hl 0 rfl) ?_
          refine wg_gX hx hb hts hown hK hP 1 (by decide) (v := .ref (ad 1)) kf_X_13 rfl d_X_add_68 ?_
          refine lv_aload_n hx hb d_X_add_71 rfl (lv_at hl 0 rfl) ?_
          refine wg_gX hx hb hts hown hK hP 3 (by decide) (v := .int (nI (I 3 0))) kf_X_52 rfl d_X_add_72 ?_
          refine lv_lload_n hx hb d_X_add_75 rfl (lv_at hl 1 rfl) ?_
          refine wg_csi (As := [.long (lN n)]) (rest := [.int (nI (I 3 0)), .ref (ad 1)]) hx hb hml hown hts hK hP hS hA (c_X_lengthOf l D cJ cI _ n (by omega)) kc_X_56 ⟨rfl, rfl⟩ ⟨Nat.le_of_ble_eq_true rfl, Nat.le_of_ble_eq_true rfl⟩ rfl hl.1 rfl (Nat.le_of_ble_eq_true rfl) d_X_add_76 ⟨Nat.zero_le _, Nat.zero_le _⟩ (fun r H locs q76 hP hS => ?_)
          obtain rfl := q76
          have hq76 := wg_len_le n
          refine wg_sX1 (j := (I 3 0)) (x := (wg_len n)) hx hb hK hP hD hS (by omega) d_X_add_79 (fun H locs hP hS => ?_)
          refine lv_aload_n hx hb d_X_add_80 rfl (lv_at hl 0 rfl) ?_
          refine wg_gX hx hb hts hown hK hP 2 (by decide) (v := .ref (ad 2)) kf_X_17 rfl d_X_add_81 ?_
          refine lv_aload_n hx hb d_X_add_84 rfl (lv_at hl 0 rfl) ?_
          refine wg_gX hx hb hts hown hK hP 3 (by decide) (v := .int (nI (I 3 0))) kf_X_52 rfl d_X_add_85 ?_
          refine lv_aload_n hx hb d_X_add_88 rfl (lv_at hl 0 rfl) ?_
          refine wg_gX hx hb hts hown hK hP 3 (by decide) (v := .int (nI (I 3 0))) kf_X_52 rfl d_X_add_89 ?_
          refine lv_if_ne (tgt := 99) hx hb d_X_add_92 (by decide) (fun h92 => ?_) (fun h92 => ?_)
          · rw [wg_z0 (by omega)] at h92
            refine lv_aload_n hx hb d_X_add_99 rfl (lv_at hl 0 rfl) ?_
            refine wg_gX hx hb hts hown hK hP 0 (by decide) (v := .ref (ad 0)) kf_X_9 rfl d_X_add_100 ?_
            refine lv_aload_n hx hb d_X_add_103 rfl (lv_at hl 0 rfl) ?_
            refine wg_gX hx hb hts hown hK hP 3 (by decide) (v := .int (nI (I 3 0))) kf_X_52 rfl d_X_add_104 ?_
            refine lv_iconst (v := (nI 1)) hx hb d_X_add_107 (by decide +kernel) ?_
            refine t_isub (v := nI ((I 3 0) - 1)) hx hb d_X_add_108 (pk_sub (by omega)) ?_
            refine wg_lld (f := (wg_st I 0 (I 3 0) n) 0) (j := ((I 3 0) - 1)) hx hb hK hP 1 rfl (by omega) (by decide) d_X_add_109 ?_
            refine lv_lload_n hx hb d_X_add_110 rfl (lv_at hl 1 rfl) ?_
            refine wg_csi (As := [.long (lN ((wg_st I 0 (I 3 0) n) 0 ((I 3 0) - 1))), .long (lN n)]) (rest := [.int (nI (I 3 0)), .ref (ad 2)]) hx hb hml hown hts hK hP hS hA (c_X_sharedLetters l D cJ cI _ ((wg_st I 0 (I 3 0) n) 0 ((I 3 0) - 1)) n (by rw [wg_st_n _ _ _ _ (by omega)]; have := hw (I 3 0 - 1) (by omega); omega) hn64) kc_X_60 ⟨rfl, rfl⟩ ⟨Nat.le_of_ble_eq_true rfl, Nat.le_of_ble_eq_true rfl⟩ rfl hl.1 rfl (Nat.le_of_ble_eq_true rfl) d_X_add_111 ⟨Nat.zero_le _, Nat.zero_le _⟩ (fun r H locs q111 hP hS => ?_)
            obtain rfl := q111
            have hq111 := wg_shd_le ((wg_st I 0 (I 3 0) n) 0 ((I 3 0) - 1)) n
            refine lv_iconst (v := (nI 1)) hx hb d_X_add_114 (by decide +kernel) ?_
            refine t_iadd (v := nI ((wg_shd ((wg_st I 0 (I 3 0) n) 0 ((I 3 0) - 1)) n) + 1)) hx hb d_X_add_115 (nI_add _ _) ?_
            refine wg_sX2 (j := (I 3 0)) (x := ((wg_shd ((wg_st I 0 (I 3 0) n) 0 ((I 3 0) - 1)) n) + 1)) hx hb hK hP hD hS (by omega) d_X_add_116 (fun H locs hP hS => ?_)
            refine lv_aload_n hx hb d_X_add_117 rfl (lv_at hl 0 rfl) ?_
            refine lv_dup hx hb d_X_add_118 rfl ?_
            refine wg_gX hx hb hts hown hK hP 3 (by decide) (v := .int (nI (I 3 0))) kf_X_52 rfl d_X_add_119 ?_
            refine lv_iconst (v := (nI 1)) hx hb d_X_add_122 (by decide +kernel) ?_
            refine t_iadd (v := nI ((I 3 0) + 1)) hx hb d_X_add_123 (nI_add _ _) ?_
            refine wg_pX3 (v := ((I 3 0) + 1)) hx hb hts hown hK hP hD hS kf_X_52 d_X_add_124 (fun H locs hP hS => ?_)
            refine lv_iconst (v := (nI 0)) hx hb d_X_add_127 (by decide +kernel) ?_
            exact W.iret (v := (nI 0)) hx hb hr (fun tt hth hW => ⟨⟨_, (wg_st (wg_st (wg_st (wg_st I 0 (I 3 0) n) 1 (I 3 0) (wg_len n)) 2 (I 3 0) ((wg_shd ((wg_st I 0 (I 3 0) n) 0 ((I 3 0) - 1)) n) + 1)) 3 0 ((I 3 0) + 1)), rfl, ⟨Or.inr (Or.inr (Or.inr (Or.inr ⟨h4, hok10, by omega, by first | exact Or.inl (by omega) | exact Or.inr (by omega), nI_0⟩))), wg_XI_add hI (by omega) hlt10 (wg_len_le n) (by omega) (by omega), Or.inr ⟨nI_0, by first | exact wg_XF_add0 hok10 (by omega) | exact wg_XF_add1 hXF hok10 (by omega) (by omega), rfl, wg_st_s I 0 (I 3 0) n, fun k hk => wg_st_n I 0 (I 3 0) n (by omega), fun j h => (wg_st_o _ _ _ _ (by omega)).trans ((wg_st_o _ _ _ _ (by omega)).trans ((wg_st_o _ _ _ _ (by omega)).trans (wg_st_o _ _ _ _ (by omega)))), rfl⟩⟩, wg_h hth hP⟩, hS.F hth⟩) hS.2.2 d_X_add_128
          · rw [wg_z0 (by omega)] at h92
            refine lv_iconst (v := (nI 0)) hx hb d_X_add_95 (by decide +kernel) ?_
            refine lv_goto (tgt := 116) hx hb d_X_add_96 (by decide) ?_
            refine wg_sX2 (j := (I 3 0)) (x := 0) hx hb hK hP hD hS (by omega) d_X_add_116 (fun H locs hP hS => ?_)
            refine lv_aload_n hx hb d_X_add_117 rfl (lv_at hl 0 rfl) ?_
            refine lv_dup hx hb d_X_add_118 rfl ?_
            refine wg_gX hx hb hts hown hK hP 3 (by decide) (v := .int (nI (I 3 0))) kf_X_52 rfl d_X_add_119 ?_
            refine lv_iconst (v := (nI 1)) hx hb d_X_add_122 (by decide +kernel) ?_
            refine t_iadd (v := nI ((I 3 0) + 1)) hx hb d_X_add_123 (nI_add _ _) ?_
            refine wg_pX3 (v := ((I 3 0) + 1)) hx hb hts hown hK hP hD hS kf_X_52 d_X_add_124 (fun H locs hP hS => ?_)
            refine lv_iconst (v := (nI 0)) hx hb d_X_add_127 (by decide +kernel) ?_
            exact W.iret (v := (nI 0)) hx hb hr (fun tt hth hW => ⟨⟨_, (wg_st (wg_st (wg_st (wg_st I 0 (I 3 0) n) 1 (I 3 0) (wg_len n)) 2 (I 3 0) 0) 3 0 ((I 3 0) + 1)), rfl, ⟨Or.inr (Or.inr (Or.inr (Or.inr ⟨h4, hok10, by omega, by first | exact Or.inl (by omega) | exact Or.inr (by omega), nI_0⟩))), wg_XI_add hI (by omega) hlt10 (wg_len_le n) (by omega) (by omega), Or.inr ⟨nI_0, by first | exact wg_XF_add0 hok10 (by omega) | exact wg_XF_add1 hXF hok10 (by omega) (by omega), rfl, wg_st_s I 0 (I 3 0) n, fun k hk => wg_st_n I 0 (I 3 0) n (by omega), fun j h => (wg_st_o _ _ _ _ (by omega)).trans ((wg_st_o _ _ _ _ (by omega)).trans ((wg_st_o _ _ _ _ (by omega)).trans (wg_st_o _ _ _ _ (by omega)))), rfl⟩⟩, wg_h hth hP⟩, hS.F hth⟩) hS.2.2 d_X_add_128
        · rw [wg_le0 (by omega)] at h35
          refine lv_lload_n hx hb d_X_add_38 rfl (lv_at hl 1 rfl) ?_
          refine lv_aload_n hx hb d_X_add_39 rfl (lv_at hl 0 rfl) ?_
          refine wg_gX hx hb hts hown hK hP 0 (by decide) (v := .ref (ad 0)) kf_X_9 rfl d_X_add_40 ?_
          refine lv_aload_n hx hb d_X_add_43 rfl (lv_at hl 0 rfl) ?_
          refine wg_gX hx hb hts hown hK hP 3 (by decide) (v := .int (nI (I 3 0))) kf_X_52 rfl d_X_add_44 ?_
          refine lv_iconst (v := (nI 1)) hx hb d_X_add_47 (by decide +kernel) ?_
          refine t_isub (v := nI ((I 3 0) - 1)) hx hb d_X_add_48 (pk_sub (by omega)) ?_
          refine wg_lld (f := I 0) (j := ((I 3 0) - 1)) hx hb hK hP 1 rfl (by omega) (by decide) d_X_add_49 ?_
          have hB49 := hw ((I 3 0) - 1) (by omega)
          refine W.lcmp hx hb d_X_add_50 ?_
          refine lv_if_gt (tgt := 57) hx hb d_X_add_51 (by decide) (fun h51 => ?_) (fun h51 => ?_)
          · rw [lg_cmp_gt] at h51
            rw [pk_lLT (by omega) (by omega)] at h51
            refine lv_aload_n hx hb d_X_add_57 rfl (lv_at hl 0 rfl) ?_
            refine wg_gX hx hb hts hown hK hP 0 (by decide) (v := .ref (ad 0)) kf_X_9 rfl d_X_add_58 ?_
            refine lv_aload_n hx hb d_X_add_61 rfl (lv_at hl 0 rfl) ?_
            refine wg_gX hx hb hts hown hK hP 3 (by decide) (v := .int (nI (I 3 0))) kf_X_52 rfl d_X_add_62 ?_
            refine lv_lload_n hx hb d_X_add_65 rfl (lv_at hl 1 rfl) ?_
            refine wg_sX0 (j := (I 3 0)) (x := n) hx hb hK hP hD hS (by omega) d_X_add_66 (fun H locs hP hS => ?_)
            refine lv_aload_n hx hb d_X_add_67 rfl (lv_at hl 0 rfl) ?_
            refine wg_gX hx hb hts hown hK hP 1 (by decide) (v := .ref (ad 1)) kf_X_13 rfl d_X_add_68 ?_
            refine lv_aload_n hx hb d_X_add_71 rfl (lv_at hl 0 rfl) ?_
            refine wg_gX hx hb hts hown hK hP 3 (by decide) (v := .int (nI (I 3 0))) kf_X_52 rfl d_X_add_72 ?_
            refine lv_lload_n hx hb d_X_add_75 rfl (lv_at hl 1 rfl) ?_
            refine wg_csi (As := [.long (lN n)]) (rest := [.int (nI (I 3 0)), .ref (ad 1)]) hx hb hml hown hts hK hP hS hA (c_X_lengthOf l D cJ cI _ n (by omega)) kc_X_56 ⟨rfl, rfl⟩ ⟨Nat.le_of_ble_eq_true rfl, Nat.le_of_ble_eq_true rfl⟩ rfl hl.1 rfl (Nat.le_of_ble_eq_true rfl) d_X_add_76 ⟨Nat.zero_le _, Nat.zero_le _⟩ (fun r H locs q76 hP hS => ?_)
            obtain rfl := q76
            have hq76 := wg_len_le n
            refine wg_sX1 (j := (I 3 0)) (x := (wg_len n)) hx hb hK hP hD hS (by omega) d_X_add_79 (fun H locs hP hS => ?_)
            refine lv_aload_n hx hb d_X_add_80 rfl (lv_at hl 0 rfl) ?_
            refine wg_gX hx hb hts hown hK hP 2 (by decide) (v := .ref (ad 2)) kf_X_17 rfl d_X_add_81 ?_
            refine lv_aload_n hx hb d_X_add_84 rfl (lv_at hl 0 rfl) ?_
            refine wg_gX hx hb hts hown hK hP 3 (by decide) (v := .int (nI (I 3 0))) kf_X_52 rfl d_X_add_85 ?_
            refine lv_aload_n hx hb d_X_add_88 rfl (lv_at hl 0 rfl) ?_
            refine wg_gX hx hb hts hown hK hP 3 (by decide) (v := .int (nI (I 3 0))) kf_X_52 rfl d_X_add_89 ?_
            refine lv_if_ne (tgt := 99) hx hb d_X_add_92 (by decide) (fun h92 => ?_) (fun h92 => ?_)
            · rw [wg_z0 (by omega)] at h92
              refine lv_aload_n hx hb d_X_add_99 rfl (lv_at hl 0 rfl) ?_
              refine wg_gX hx hb hts hown hK hP 0 (by decide) (v := .ref (ad 0)) kf_X_9 rfl d_X_add_100 ?_
              refine lv_aload_n hx hb d_X_add_103 rfl (lv_at hl 0 rfl) ?_
              refine wg_gX hx hb hts hown hK hP 3 (by decide) (v := .int (nI (I 3 0))) kf_X_52 rfl d_X_add_104 ?_
              refine lv_iconst (v := (nI 1)) hx hb d_X_add_107 (by decide +kernel) ?_
              refine t_isub (v := nI ((I 3 0) - 1)) hx hb d_X_add_108 (pk_sub (by omega)) ?_
              refine wg_lld (f := (wg_st I 0 (I 3 0) n) 0) (j := ((I 3 0) - 1)) hx hb hK hP 1 rfl (by omega) (by decide) d_X_add_109 ?_
              refine lv_lload_n hx hb d_X_add_110 rfl (lv_at hl 1 rfl) ?_
              refine wg_csi (As := [.long (lN ((wg_st I 0 (I 3 0) n) 0 ((I 3 0) - 1))), .long (lN n)]) (rest := [.int (nI (I 3 0)), .ref (ad 2)]) hx hb hml hown hts hK hP hS hA (c_X_sharedLetters l D cJ cI _ ((wg_st I 0 (I 3 0) n) 0 ((I 3 0) - 1)) n (by rw [wg_st_n _ _ _ _ (by omega)]; have := hw (I 3 0 - 1) (by omega); omega) hn64) kc_X_60 ⟨rfl, rfl⟩ ⟨Nat.le_of_ble_eq_true rfl, Nat.le_of_ble_eq_true rfl⟩ rfl hl.1 rfl (Nat.le_of_ble_eq_true rfl) d_X_add_111 ⟨Nat.zero_le _, Nat.zero_le _⟩ (fun r H locs q111 hP hS => ?_)
              obtain rfl := q111
              have hq111 := wg_shd_le ((wg_st I 0 (I 3 0) n) 0 ((I 3 0) - 1)) n
              refine lv_iconst (v := (nI 1)) hx hb d_X_add_114 (by decide +kernel) ?_
              refine t_iadd (v := nI ((wg_shd ((wg_st I 0 (I 3 0) n) 0 ((I 3 0) - 1)) n) + 1)) hx hb d_X_add_115 (nI_add _ _) ?_
              refine wg_sX2 (j := (I 3 0)) (x := ((wg_shd ((wg_st I 0 (I 3 0) n) 0 ((I 3 0) - 1)) n) + 1)) hx hb hK hP hD hS (by omega) d_X_add_116 (fun H locs hP hS => ?_)
              refine lv_aload_n hx hb d_X_add_117 rfl (lv_at hl 0 rfl) ?_
              refine lv_dup hx hb d_X_add_118 rfl ?_
              refine wg_gX hx hb hts hown hK hP 3 (by decide) (v := .int (nI (I 3 0))) kf_X_52 rfl d_X_add_119 ?_
              refine lv_iconst (v := (nI 1)) hx hb d_X_add_122 (by decide +kernel) ?_
              refine t_iadd (v := nI ((I 3 0) + 1)) hx hb d_X_add_123 (nI_add _ _) ?_
              refine wg_pX3 (v := ((I 3 0) + 1)) hx hb hts hown hK hP hD hS kf_X_52 d_X_add_124 (fun H locs hP hS => ?_)
              refine lv_iconst (v := (nI 0)) hx hb d_X_add_127 (by decide +kernel) ?_
              exact W.iret (v := (nI 0)) hx hb hr (fun tt hth hW => ⟨⟨_, (wg_st (wg_st (wg_st (wg_st I 0 (I 3 0) n) 1 (I 3 0) (wg_len n)) 2 (I 3 0) ((wg_shd ((wg_st I 0 (I 3 0) n) 0 ((I 3 0) - 1)) n) + 1)) 3 0 ((I 3 0) + 1)), rfl, ⟨Or.inr (Or.inr (Or.inr (Or.inr ⟨h4, hok10, by omega, by first | exact Or.inl (by omega) | exact Or.inr (by omega), nI_0⟩))), wg_XI_add hI (by omega) hlt10 (wg_len_le n) (by omega) (by omega), Or.inr ⟨nI_0, by first | exact wg_XF_add0 hok10 (by omega) | exact wg_XF_add1 hXF hok10 (by omega) (by omega), rfl, wg_st_s I 0 (I 3 0) n, fun k hk => wg_st_n I 0 (I 3 0) n (by omega), fun j h => (wg_st_o _ _ _ _ (by omega)).trans ((wg_st_o _ _ _ _ (by omega)).trans ((wg_st_o _ _ _ _ (by omega)).trans (wg_st_o _ _ _ _ (by omega)))), rfl⟩⟩, wg_h hth hP⟩, hS.F hth⟩) hS.2.2 d_X_add_128
            · rw [wg_z0 (by omega)] at h92
              refine lv_iconst (v := (nI 0)) hx hb d_X_add_95 (by decide +kernel) ?_
              refine lv_goto (tgt := 116) hx hb d_X_add_96 (by decide) ?_
              refine wg_sX2 (j := (I 3 0)) (x := 0) hx hb hK hP hD hS (by omega) d_X_add_116 (fun H locs hP hS => ?_)
              refine lv_aload_n hx hb d_X_add_117 rfl (lv_at hl 0 rfl) ?_
              refine lv_dup hx hb d_X_add_118 rfl ?_
              refine wg_gX hx hb hts hown hK hP 3 (by decide) (v := .int (nI (I 3 0))) kf_X_52 rfl d_X_add_119 ?_
              refine lv_iconst (v := (nI 1)) hx hb d_X_add_122 (by decide +kernel) ?_
              refine t_iadd (v := nI ((I 3 0) + 1)) hx hb d_X_add_123 (nI_add _ _) ?_
              refine wg_pX3 (v := ((I 3 0) + 1)) hx hb hts hown hK hP hD hS kf_X_52 d_X_add_124 (fun H locs hP hS => ?_)
              refine lv_iconst (v := (nI 0)) hx hb d_X_add_127 (by decide +kernel) ?_
              exact W.iret (v := (nI 0)) hx hb hr (fun tt hth hW => ⟨⟨_, (wg_st (wg_st (wg_st (wg_st I 0 (I 3 0) n) 1 (I 3 0) (wg_len n)) 2 (I 3 0) 0) 3 0 ((I 3 0) + 1)), rfl, ⟨Or.inr (Or.inr (Or.inr (Or.inr ⟨h4, hok10, by omega, by first | exact Or.inl (by omega) | exact Or.inr (by omega), nI_0⟩))), wg_XI_add hI (by omega) hlt10 (wg_len_le n) (by omega) (by omega), Or.inr ⟨nI_0, by first | exact wg_XF_add0 hok10 (by omega) | exact wg_XF_add1 hXF hok10 (by omega) (by omega), rfl, wg_st_s I 0 (I 3 0) n, fun k hk => wg_st_n I 0 (I 3 0) n (by omega), fun j h => (wg_st_o _ _ _ _ (by omega)).trans ((wg_st_o _ _ _ _ (by omega)).trans ((wg_st_o _ _ _ _ (by omega)).trans (wg_st_o _ _ _ _ (by omega)))), rfl⟩⟩, wg_h hth hP⟩, hS.F hth⟩) hS.2.2 d_X_add_128
          · rw [lg_cmp_gt] at h51
            rw [pk_lLT (by omega) (by omega)] at h51
            refine lv_bipush (v := (-4)) hx hb d_X_add_54 (by decide +kernel) ?_
            exact W.iret (v := (-4)) hx hb hr (fun tt hth hW => ⟨⟨_, I, rfl, ⟨Or.inr (Or.inr (Or.inr (Or.inl ⟨h4, hok10, by omega, by omega, by omega, rfl⟩))), hI, Or.inl ⟨by decide +kernel, rfl⟩⟩, wg_h hth hP⟩, hS.F hth⟩) hS.2.2 d_X_add_56
      · rw [nI_ltI (by omega) (by omega)] at h25
        refine lv_bipush (v := (-3)) hx hb d_X_add_28 (by decide +kernel) ?_
        exact W.iret (v := (-3)) hx hb hr (fun tt hth hW => ⟨⟨_, I, rfl, ⟨Or.inr (Or.inr (Or.inl ⟨h4, hok10, by omega, rfl⟩)), hI, Or.inl ⟨by decide +kernel, rfl⟩⟩, wg_h hth hP⟩, hS.F hth⟩) hS.2.2 d_X_add_30
    · skip
      refine lv_if_ne (tgt := 19) hx hb d_X_add_13 (by decide) (fun h => absurd h (by decide +kernel)) (fun _ => ?_)
      refine lv_bipush (v := (-2)) hx hb d_X_add_16 (by decide +kernel) ?_
      exact W.iret (v := (-2)) hx hb hr (fun tt hth hW => ⟨⟨_, I, rfl, ⟨Or.inr (Or.inl ⟨h4, hok10, rfl⟩), hI, Or.inl ⟨by decide +kernel, rfl⟩⟩, wg_h hth hP⟩, hS.F hth⟩) hS.2.2 d_X_add_18
  · rw [wg_z0 (by omega)] at h4
    refine lv_iconst (v := (-1)) hx hb d_X_add_7 (by decide +kernel) ?_
    exact W.iret (v := (-1)) hx hb hr (fun tt hth hW => ⟨⟨_, I, rfl, ⟨Or.inl ⟨h4, rfl⟩, hI, Or.inl ⟨by decide +kernel, rfl⟩⟩, wg_h hth hP⟩, hS.F hth⟩) hS.2.2 d_X_add_8
