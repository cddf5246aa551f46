set_option maxHeartbeats 4000000 in
set_option maxRecDepth 100000 in
theorem c_X_letterAt (l : Launch) (D : va_G) (cJ cI : ClassId) (sz : Nat) (n : Nat) (i : Nat) (hn : n < 2 ^ 64) (hi : i ≤ 12) : Met l y_X_letterAt (wg_ws y_X_letterAt b_X_letterAt 3 (some .int)) ({ frames := 0, cells := 0, slots := 0, locals := 0 }) (va_Pc [.long (lN n), .int (nI i)] (wg_Pc D cJ cI (wg_W0 fun _ _ => 0) sz)) (va_Qi (fun (r : Int32) (u : Unit) => r = nI (wg_la n i)) (fun (_ : Unit) _ => True) (va_A (wg_W0 fun _ _ => 0) sz)) 0 0 (va_A (wg_W0 fun _ _ => 0) sz) := by
  refine wg_head (Wd := wg_W0) (I := (fun _ _ => 0)) (fun A => va_Qi (fun (r : Int32) (u : Unit) => r = nI (wg_la n i)) (fun (_ : Unit) _ => True) A) R_X (by decide) rfl (Nat.le_of_ble_eq_true rfl) wg_same_0 ?_
  intro p e s m below meth c A ls hx hb hr hlk hml hown hnm hts hA hK hD hP hS hl hsz
  clear hsz
  have hl : lv_has ls 3 [(0, .long (lN n)), (2, .int (nI i))] := hl
  have hP : va_P D wg_cl (wg_W0 fun _ _ => 0) s.heap := hP
  skip
  refine lv_iload_n hx hb d_X_letterAt_0 rfl (lv_at hl 1 rfl) ?_
  refine lv_bipush (v := (nI 12)) hx hb d_X_letterAt_1 (by decide +kernel) ?_
  refine lv_icmp_lt (tgt := 8) hx hb d_X_letterAt_3 (by decide) (fun h3 => ?_) (fun h3 => ?_)
  · rw [nI_ltI (by omega) (by omega)] at h3
    refine lv_lload_n hx hb d_X_letterAt_8 rfl (lv_at hl 0 rfl) ?_
    refine lv_bipush (v := (nI 60)) hx hb d_X_letterAt_9 (by decide +kernel) ?_
    refine lv_iconst (v := (nI 5)) hx hb d_X_letterAt_11 (by decide +kernel) ?_
    refine lv_iload_n hx hb d_X_letterAt_12 rfl (lv_at hl 1 rfl) ?_
    refine lv_iconst (v := (nI 1)) hx hb d_X_letterAt_13 (by decide +kernel) ?_
    refine t_iadd (v := nI (i + 1)) hx hb d_X_letterAt_14 (nI_add _ _) ?_
    refine t_imul (v := nI (5 * (i + 1))) hx hb d_X_letterAt_15 (pk_mul _ _) ?_
    refine t_isub (v := nI (60 - (5 * (i + 1)))) hx hb d_X_letterAt_16 (pk_sub (by omega)) ?_
    refine lv_lushr (v := lN (n / 2 ^ (60 - (5 * (i + 1))))) hx hb d_X_letterAt_17 (wb_shr (by omega) (by omega)) ?_
    refine lv_l2i (v := nI (n / 2 ^ (60 - (5 * (i + 1))))) hx hb d_X_letterAt_18 (lN_i _) ?_
    refine lv_bipush (v := (nI 31)) hx hb d_X_letterAt_19 (by decide +kernel) ?_
    refine t_iand (v := nI ((n / 2 ^ (60 - (5 * (i + 1)))) % 32)) hx hb d_X_letterAt_21 (wg_and31 _) ?_
    exact W.iret (v := (nI ((n / 2 ^ (60 - (5 * (i + 1)))) % 32))) hx hb hr (fun tt hth hW => ⟨⟨_, (), rfl, (by rw [wg_la_lt (by omega), wg_lt, show 60 - 5 * (i + 1) = 55 - 5 * i by omega]), trivial⟩, hS.F hth⟩) hS.2.2 d_X_letterAt_22
  · rw [nI_ltI (by omega) (by omega)] at h3
    refine lv_iconst (v := (nI 0)) hx hb d_X_letterAt_6 (by decide +kernel) ?_
    exact W.iret (v := (nI 0)) hx hb hr (fun tt hth hW => ⟨⟨_, (), rfl, (by rw [wg_la_12 (by omega)]), trivial⟩, hS.F hth⟩) hS.2.2 d_X_letterAt_7
set_option maxHeartbeats 4000000 in
set_option maxRecDepth 100000 in
theorem c_X_lengthOf (l : Launch) (D : va_G) (cJ cI : ClassId) (sz : Nat) (n : Nat) (hn : n < 2 ^ 64) : Met l y_X_lengthOf (wg_ws y_X_lengthOf b_X_lengthOf 3 (some .int)) ({ frames := 1, cells := 0, slots := 0, locals := 22 }) (va_Pc [.long (lN n)] (wg_Pc D cJ cI (wg_W0 fun _ _ => 0) sz)) (va_Qi (fun (r : Int32) (u : Unit) => r = nI (wg_len n)) (fun (_ : Unit) _ => True) (va_A (wg_W0 fun _ _ => 0) sz)) 0 0 (va_A (wg_W0 fun _ _ => 0) sz) := by
  refine wg_head (Wd := wg_W0) (I := (fun _ _ => 0)) (fun A => va_Qi (fun (r : Int32) (u : Unit) => r = nI (wg_len n)) (fun (_ : Unit) _ => True) A) R_X (by decide) rfl (Nat.le_of_ble_eq_true rfl) wg_same_0 ?_
  intro p e s m below meth c A ls hx hb hr hlk hml hown hnm hts hA hK hD hP hS hl hsz
  clear hsz
  have hl : lv_has ls 3 [(0, .long (lN n))] := hl
  have hP : va_P D wg_cl (wg_W0 fun _ _ => 0) s.heap := hP
  skip
  refine lv_iconst (v := (nI 0)) hx hb d_X_lengthOf_0 (by decide +kernel) ?_
  refine lv_istore_n (lv' := [(2, .int (nI 0)), (0, .long (lN n))]) hx hb d_X_lengthOf_1 rfl hl (by decide) rfl (fun ls hl => ?_)
  refine wg_loop (fun i _ _ _ H locs ls => (i ≤ 12) ∧ (wg_run (fun i => !(wg_lt n i == 0)) (12 - i) i = wg_len n) ∧ va_P D wg_cl (wg_W0 fun _ _ => 0) H ∧ va_S A s.heap H locs ∧ lv_has ls 3 [(0, .long (lN n)), (2, .int (nI i))]) (fun i _ _ _ => 12 - i) (fun i _z0 _z1 _J H locs ls hI ih2 => ?_) 0 0 0 (fun _ _ => 0) _ _ _ ⟨(by omega), rfl, hP, hS, lv_sub hl [1, 0] rfl⟩
  obtain ⟨hi, hrn, hP, hS, hl⟩ := hI
  refine lv_iload_n hx hb d_X_lengthOf_2 rfl (lv_at hl 1 rfl) ?_
  refine lv_bipush (v := (nI 12)) hx hb d_X_lengthOf_3 (by decide +kernel) ?_
  refine lv_icmp_ge (tgt := 22) hx hb d_X_lengthOf_5 (by decide) (fun h5 => ?_) (fun h5 => ?_)
  · rw [nI_leI (by omega) (by omega)] at h5
    have hi : i = 12 := by omega
    rw [wg_run_e (by omega)] at hrn
    refine lv_iload_n hx hb d_X_lengthOf_22 rfl (lv_at hl 1 rfl) ?_
    exact W.iret (v := (nI i)) hx hb hr (fun tt hth hW => ⟨⟨_, (), rfl, (by rw [← hrn]), trivial⟩, hS.F hth⟩) hS.2.2 d_X_lengthOf_23
  · rw [nI_leI (by omega) (by omega)] at h5
    refine lv_lload_n hx hb d_X_lengthOf_8 rfl (lv_at hl 0 rfl) ?_
    refine lv_iload_n hx hb d_X_lengthOf_9 rfl (lv_at hl 1 rfl) ?_
    refine wg_csi (As := [.long (lN n), .int (nI i)]) (rest := []) hx hb hml hown hts hK hP hS hA (c_X_letterAt l D cJ cI _ n i (by omega) (by omega)) kc_X_91 ⟨rfl, rfl⟩ ⟨Nat.le_of_ble_eq_true rfl, Nat.le_of_ble_eq_true rfl⟩ rfl hl.1 rfl (Nat.le_of_ble_eq_true rfl) d_X_lengthOf_10 ⟨Nat.zero_le _, Nat.zero_le _⟩ (fun r H locs q10 hP hS => ?_)
    obtain rfl := q10
    have hq10 := wg_la_le n i
    refine lv_if_eq (tgt := 22) hx hb d_X_lengthOf_13 (by decide) (fun h13 => ?_) (fun h13 => ?_)
    · rw [wg_z0 (by omega)] at h13
      rw [wg_la_lt (by omega)] at h13
      rw [wg_run_f (by simpa using h13)] at hrn
      refine lv_iload_n hx hb d_X_lengthOf_22 rfl (lv_at hl 1 rfl) ?_
      exact W.iret (v := (nI i)) hx hb hr (fun tt hth hW => ⟨⟨_, (), rfl, (by rw [← hrn]), trivial⟩, hS.F hth⟩) hS.2.2 d_X_lengthOf_23
    · rw [wg_z0 (by omega)] at h13
      rw [wg_la_lt (by omega)] at h13
      refine lv_iinc (v := nI (i + 1)) (k := 1) (lv' := [(2, .int (nI (i + 1))), (0, .long (lN n))]) hx hb d_X_lengthOf_16 hl rfl (nI_1 _) (by decide) rfl (fun ls hl => ?_)
      refine lv_goto (tgt := 2) hx hb d_X_lengthOf_19 (by decide) ?_
      exact ih2 (i + 1) 0 0 (fun _ _ => 0) _ _ _ ⟨(by omega), ((wg_run_t (by omega) (by simpa using h13)).symm.trans hrn), hP, hS, lv_sub hl [1, 0] rfl⟩ (by omega)
set_option maxHeartbeats 4000000 in
set_option maxRecDepth 100000 in
theorem c_X_restOf (l : Launch) (D : va_G) (cJ cI : ClassId) (sz : Nat) (n : Nat) (t : Nat) (ht : t ≤ 12) : Met l y_X_restOf (wg_ws y_X_restOf b_X_restOf 3 (some .long)) ({ frames := 0, cells := 0, slots := 0, locals := 0 }) (va_Pc [.long (lN n), .int (nI t)] (wg_Pc D cJ cI (wg_W0 fun _ _ => 0) sz)) (va_Ql (fun (r : Int64) (u : Unit) => r = lN (n * 2 ^ (5 * t) % 2 ^ 60)) (fun (_ : Unit) _ => True) (va_A (wg_W0 fun _ _ => 0) sz)) 0 0 (va_A (wg_W0 fun _ _ => 0) sz) := by
  refine wg_head (Wd := wg_W0) (I := (fun _ _ => 0)) (fun A => va_Ql (fun (r : Int64) (u : Unit) => r = lN (n * 2 ^ (5 * t) % 2 ^ 60)) (fun (_ : Unit) _ => True) A) R_X (by decide) rfl (Nat.le_of_ble_eq_true rfl) wg_same_0 ?_
  intro p e s m below meth c A ls hx hb hr hlk hml hown hnm hts hA hK hD hP hS hl hsz
  clear hsz
  have hl : lv_has ls 3 [(0, .long (lN n)), (2, .int (nI t))] := hl
  have hP : va_P D wg_cl (wg_W0 fun _ _ => 0) s.heap := hP
  skip
  refine lv_lload_n hx hb d_X_restOf_0 rfl (lv_at hl 0 rfl) ?_
  refine lv_iconst (v := (nI 5)) hx hb d_X_restOf_1 (by decide +kernel) ?_
  refine lv_iload_n hx hb d_X_restOf_2 rfl (lv_at hl 1 rfl) ?_
  refine t_imul (v := nI (5 * t)) hx hb d_X_restOf_3 (pk_mul _ _) ?_
  refine lv_lshl (v := lN (n * 2 ^ (5 * t))) hx hb d_X_restOf_4 (wb_shl _ (by omega)) ?_
  refine lv_ldc2 (v := (lN 1152921504606846975)) hx hb hown (hts _ kl_X_112) d_X_restOf_5 ?_
  refine t_land (v := lN ((n * 2 ^ (5 * t)) % 2 ^ 60)) hx hb d_X_restOf_8 (wg_land60 _) ?_
  exact W.lret (v := (lN ((n * 2 ^ (5 * t)) % 2 ^ 60))) hx hb hr (fun tt hth hW => ⟨⟨_, (), rfl, rfl, trivial⟩, hS.F hth⟩) hS.2.2 d_X_restOf_9
set_option maxHeartbeats 4000000 in
set_option maxRecDepth 100000 in
theorem c_X_isWord (l : Launch) (D : va_G) (cJ cI : ClassId) (sz : Nat) (n : Nat) (hn : n < 2 ^ 64) : Met l y_X_isWord (wg_ws y_X_isWord b_X_isWord 4 (some .boolean)) ({ frames := 2, cells := 0, slots := 0, locals := 44 }) (va_Pc [.long (lN n)] (wg_Pc D cJ cI (wg_W0 fun _ _ => 0) sz)) (va_Qi (fun (r : Int32) (u : Unit) => (r = nI 1 ∧ wg_ok n) ∨ (r = nI 0 ∧ ¬ wg_ok n)) (fun (_ : Unit) _ => True) (va_A (wg_W0 fun _ _ => 0) sz)) 0 0 (va_A (wg_W0 fun _ _ => 0) sz) := by
  refine wg_head (Wd := wg_W0) (I := (fun _ _ => 0)) (fun A => va_Qi (fun (r : Int32) (u : Unit) => (r = nI 1 ∧ wg_ok n) ∨ (r = nI 0 ∧ ¬ wg_ok n)) (fun (_ : Unit) _ => True) A) R_X (by decide) rfl (Nat.le_of_ble_eq_true rfl) wg_same_0 ?_
  intro p e s m below meth c A ls hx hb hr hlk hml hown hnm hts hA hK hD hP hS hl hsz
  clear hsz
  have hl : lv_has ls 4 [(0, .long (lN n))] := hl
  have hP : va_P D wg_cl (wg_W0 fun _ _ => 0) s.heap := hP
  skip
  refine lv_lload_n hx hb d_X_isWord_0 rfl (lv_at hl 0 rfl) ?_
  refine lv_lconst (v := lN 0) hx hb d_X_isWord_1 (by decide +kernel) ?_
  refine W.lcmp hx hb d_X_isWord_2 ?_
  refine lv_if_lt (tgt := 14) hx hb d_X_isWord_3 (by decide) (fun h3 => ?_) (fun h3 => ?_)
  · rw [lg_cmp_lt] at h3
    rw [wg_lneg hn] at h3
    refine lv_iconst (v := (nI 0)) hx hb d_X_isWord_14 (by decide +kernel) ?_
    exact W.zret (ty := .boolean) (v := (nI 0)) hx hb hr (by decide +kernel) (fun tt hth hW => ⟨⟨_, (), rfl, (Or.inr ⟨rfl, fun q => by have := q.1; omega⟩), trivial⟩, hS.F hth⟩) hS.2.2 d_X_isWord_15
  · rw [lg_cmp_lt] at h3
    rw [wg_lneg hn] at h3
    refine lv_lload_n hx hb d_X_isWord_6 rfl (lv_at hl 0 rfl) ?_
    refine lv_ldc2 (v := (lN 1152921504606846975)) hx hb hown (hts _ kl_X_112) d_X_isWord_7 ?_
    refine W.lcmp hx hb d_X_isWord_10 ?_
    refine lv_if_le (tgt := 16) hx hb d_X_isWord_11 (by decide) (fun h11 => ?_) (fun h11 => ?_)
    · rw [lg_cmp_le] at h11
      rw [pk_lLE (by omega) (by omega)] at h11
      refine lv_lload_n hx hb d_X_isWord_16 rfl (lv_at hl 0 rfl) ?_
      refine wg_csi (As := [.long (lN n)]) (rest := []) hx hb hml hown hts hK hP hS hA (c_X_lengthOf l D cJ cI _ n (by omega)) kc_X_56 ⟨rfl, rfl⟩ ⟨Nat.le_of_ble_eq_true rfl, Nat.le_of_ble_eq_true rfl⟩ rfl hl.1 rfl (Nat.le_of_ble_eq_true rfl) d_X_isWord_17 ⟨Nat.zero_le _, Nat.zero_le _⟩ (fun r H locs q17 hP hS => ?_)
      obtain rfl := q17
      have hq17 := wg_len_le n
      refine lv_istore_n (lv' := [(2, .int (nI (wg_len n))), (0, .long (lN n))]) hx hb d_X_isWord_20 rfl hl (by decide) rfl (fun ls hl => ?_)
      refine lv_iconst (v := (nI 0)) hx hb d_X_isWord_21 (by decide +kernel) ?_
      refine lv_istore_n (lv' := [(3, .int (nI 0)), (2, .int (nI (wg_len n))), (0, .long (lN n))]) hx hb d_X_isWord_22 rfl hl (by decide) rfl (fun ls hl => ?_)
      refine wg_loop (fun i _ _ _ H locs ls => (i ≤ wg_len n) ∧ (∀ j, j < i → wg_lt n j ≤ 26) ∧ va_P D wg_cl (wg_W0 fun _ _ => 0) H ∧ va_S A s.heap H locs ∧ lv_has ls 4 [(0, .long (lN n)), (2, .int (nI (wg_len n))), (3, .int (nI i))]) (fun i _ _ _ => 13 - i) (fun i _z0 _z1 _J H locs ls hI ih23 => ?_) 0 0 0 (fun _ _ => 0) _ _ _ ⟨(by omega), (fun j h => by omega), hP, hS, lv_sub hl [2, 1, 0] rfl⟩
      obtain ⟨hi, hbb, hP, hS, hl⟩ := hI
      refine lv_iload_n hx hb d_X_isWord_23 rfl (lv_at hl 2 rfl) ?_
      refine lv_iload_n hx hb d_X_isWord_24 rfl (lv_at hl 1 rfl) ?_
      refine lv_icmp_ge (tgt := 46) hx hb d_X_isWord_25 (by decide) (fun h25 => ?_) (fun h25 => ?_)
      · rw [nI_leI (by omega) (by omega)] at h25
        have hi : i = wg_len n := by omega
        refine lv_lload_n hx hb d_X_isWord_46 rfl (lv_at hl 0 rfl) ?_
        refine lv_iload_n hx hb d_X_isWord_47 rfl (lv_at hl 1 rfl) ?_
        refine wg_csl (As := [.long (lN n), .int (nI (wg_len n))]) (rest := []) hx hb hml hown hts hK hP hS hA (c_X_restOf l D cJ cI _ n (wg_len n) (by omega)) kc_X_114 ⟨rfl, rfl⟩ ⟨Nat.le_of_ble_eq_true rfl, Nat.le_of_ble_eq_true rfl⟩ rfl hl.1 rfl (Nat.le_of_ble_eq_true rfl) d_X_isWord_48 ⟨Nat.zero_le _, Nat.zero_le _⟩ (fun r H locs q48 hP hS => ?_)
        obtain rfl := q48
        refine lv_lconst (v := lN 0) hx hb d_X_isWord_51 (by decide +kernel) ?_
        refine W.lcmp hx hb d_X_isWord_52 ?_
        refine lv_if_ne (tgt := 60) hx hb d_X_isWord_53 (by decide) (fun h53 => ?_) (fun h53 => ?_)
        · rw [lg_cmp_eq] at h53
          rw [pk_lEQ (by omega) (by omega)] at h53
          refine lv_iconst (v := (nI 0)) hx hb d_X_isWord_60 (by decide +kernel) ?_
          exact W.zret (ty := .boolean) (v := (nI 0)) hx hb hr (by decide +kernel) (fun tt hth hW => ⟨⟨_, (), rfl, (Or.inr ⟨rfl, wg_ok_no h53⟩), trivial⟩, hS.F hth⟩) hS.2.2 d_X_isWord_61
        · rw [lg_cmp_eq] at h53
          rw [pk_lEQ (by omega) (by omega)] at h53
          refine lv_iconst (v := (nI 1)) hx hb d_X_isWord_56 (by decide +kernel) ?_
          refine lv_goto (tgt := 61) hx hb d_X_isWord_57 (by decide) ?_
          exact W.zret (ty := .boolean) (v := (nI 1)) hx hb hr (by decide +kernel) (fun tt hth hW => ⟨⟨_, (), rfl, (Or.inl ⟨rfl, wg_ok_of (by omega) (by rw [← hi]; exact hbb) h53⟩), trivial⟩, hS.F hth⟩) hS.2.2 d_X_isWord_61
      · rw [nI_leI (by omega) (by omega)] at h25
        refine lv_lload_n hx hb d_X_isWord_28 rfl (lv_at hl 0 rfl) ?_
        refine lv_iload_n hx hb d_X_isWord_29 rfl (lv_at hl 2 rfl) ?_
        refine wg_csi (As := [.long (lN n), .int (nI i)]) (rest := []) hx hb hml hown hts hK hP hS hA (c_X_letterAt l D cJ cI _ n i (by omega) (by omega)) kc_X_91 ⟨rfl, rfl⟩ ⟨Nat.le_of_ble_eq_true rfl, Nat.le_of_ble_eq_true rfl⟩ rfl hl.1 rfl (Nat.le_of_ble_eq_true rfl) d_X_isWord_30 ⟨Nat.zero_le _, Nat.zero_le _⟩ (fun r H locs q30 hP hS => ?_)
        obtain rfl := q30
        have hq30 := wg_la_le n i
        refine lv_bipush (v := (nI 26)) hx hb d_X_isWord_33 (by decide +kernel) ?_
        refine lv_icmp_le (tgt := 40) hx hb d_X_isWord_35 (by decide) (fun h35 => ?_) (fun h35 => ?_)
        · rw [nI_leI (by omega) (by omega)] at h35
          refine lv_iinc (v := nI (i + 1)) (k := 2) (lv' := [(3, .int (nI (i + 1))), (0, .long (lN n)), (2, .int (nI (wg_len n)))]) hx hb d_X_isWord_40 hl rfl (nI_1 _) (by decide) rfl (fun ls hl => ?_)
          refine lv_goto (tgt := 23) hx hb d_X_isWord_43 (by decide) ?_
          exact ih23 (i + 1) 0 0 (fun _ _ => 0) _ _ _ ⟨(by omega), (fun j h => by rcases Nat.lt_succ_iff_lt_or_eq.mp h with h | rfl; exact hbb j h; rw [wg_la_lt (by omega)] at h35; exact h35), hP, hS, lv_sub hl [1, 2, 0] rfl⟩ (by omega)
        · rw [nI_leI (by omega) (by omega)] at h35
          refine lv_iconst (v := (nI 0)) hx hb d_X_isWord_38 (by decide +kernel) ?_
          exact W.zret (ty := .boolean) (v := (nI 0)) hx hb hr (by decide +kernel) (fun tt hth hW => ⟨⟨_, (), rfl, (Or.inr ⟨rfl, wg_ok_big (i := i) (by omega) (by rw [wg_la_lt (by omega)] at h35; exact h35)⟩), trivial⟩, hS.F hth⟩) hS.2.2 d_X_isWord_39
    · rw [lg_cmp_le] at h11
      rw [pk_lLE (by omega) (by omega)] at h11
      refine lv_iconst (v := (nI 0)) hx hb d_X_isWord_14 (by decide +kernel) ?_
      exact W.zret (ty := .boolean) (v := (nI 0)) hx hb hr (by decide +kernel) (fun tt hth hW => ⟨⟨_, (), rfl, (Or.inr ⟨rfl, fun q => by have := q.1; omega⟩), trivial⟩, hS.F hth⟩) hS.2.2 d_X_isWord_15
set_option maxHeartbeats 4000000 in
set_option maxRecDepth 100000 in
theorem c_X_sharedLetters (l : Launch) (D : va_G) (cJ cI : ClassId) (sz : Nat) (a : Nat) (b : Nat) (ha64 : a < 2 ^ 64) (hb64 : b < 2 ^ 64) : Met l y_X_sharedLetters (wg_ws y_X_sharedLetters b_X_sharedLetters 5 (some .int)) ({ frames := 1, cells := 0, slots := 0, locals := 22 }) (va_Pc [.long (lN a), .long (lN b)] (wg_Pc D cJ cI (wg_W0 fun _ _ => 0) sz)) (va_Qi (fun (r : Int32) (u : Unit) => r = nI (wg_shd a b)) (fun (_ : Unit) _ => True) (va_A (wg_W0 fun _ _ => 0) sz)) 0 0 (va_A (wg_W0 fun _ _ => 0) sz) := by
  refine wg_head (Wd := wg_W0) (I := (fun _ _ => 0)) (fun A => va_Qi (fun (r : Int32) (u : Unit) => r = nI (wg_shd a b)) (fun (_ : Unit) _ => True) A) R_X (by decide) rfl (Nat.le_of_ble_eq_true rfl) wg_same_0 ?_
  intro p e s m below meth c A ls hx hb hr hlk hml hown hnm hts hA hK hD hP hS hl hsz
  clear hsz
  have hl : lv_has ls 5 [(0, .long (lN a)), (2, .long (lN b))] := hl
  have hP : va_P D wg_cl (wg_W0 fun _ _ => 0) s.heap := hP
  skip
  refine lv_iconst (v := (nI 0)) hx hb d_X_sharedLetters_0 (by decide +kernel) ?_
  refine lv_istore (lv' := [(4, .int (nI 0)), (0, .long (lN a)), (2, .long (lN b))]) hx hb d_X_sharedLetters_1 hl (by decide) rfl (fun ls hl => ?_)
  refine wg_loop (fun i _ _ _ H locs ls => (i ≤ 12) ∧ (wg_run (fun i => wg_lt a i == wg_lt b i) (12 - i) i = wg_shd a b) ∧ va_P D wg_cl (wg_W0 fun _ _ => 0) H ∧ va_S A s.heap H locs ∧ lv_has ls 5 [(0, .long (lN a)), (2, .long (lN b)), (4, .int (nI i))]) (fun i _ _ _ => 12 - i) (fun i _z0 _z1 _J H locs ls hI ih3 => ?_) 0 0 0 (fun _ _ => 0) _ _ _ ⟨(by omega), rfl, hP, hS, lv_sub hl [1, 2, 0] rfl⟩
  obtain ⟨hi, hrn, hP, hS, hl⟩ := hI
  refine lv_iload hx hb d_X_sharedLetters_3 (lv_at hl 2 rfl) ?_
  refine lv_bipush (v := (nI 12)) hx hb d_X_sharedLetters_5 (by decide +kernel) ?_
  refine lv_icmp_ge (tgt := 31) hx hb d_X_sharedLetters_7 (by decide) (fun h7 => ?_) (fun h7 => ?_)
  · rw [nI_leI (by omega) (by omega)] at h7
    have hi : i = 12 := by omega
    rw [wg_run_e (by omega)] at hrn
    refine lv_iload hx hb d_X_sharedLetters_31 (lv_at hl 2 rfl) ?_
    exact W.iret (v := (nI i)) hx hb hr (fun tt hth hW => ⟨⟨_, (), rfl, (by rw [← hrn]), trivial⟩, hS.F hth⟩) hS.2.2 d_X_sharedLetters_33
  · rw [nI_leI (by omega) (by omega)] at h7
    refine lv_lload_n hx hb d_X_sharedLetters_10 rfl (lv_at hl 0 rfl) ?_
    refine lv_iload hx hb d_X_sharedLetters_11 (lv_at hl 2 rfl) ?_
    refine wg_csi (As := [.long (lN a), .int (nI i)]) (rest := []) hx hb hml hown hts hK hP hS hA (c_X_letterAt l D cJ cI _ a i (by omega) (by omega)) kc_X_91 ⟨rfl, rfl⟩ ⟨Nat.le_of_ble_eq_true rfl, Nat.le_of_ble_eq_true rfl⟩ rfl hl.1 rfl (Nat.le_of_ble_eq_true rfl) d_X_sharedLetters_13 ⟨Nat.zero_le _, Nat.zero_le _⟩ (fun r H locs q13 hP hS => ?_)
    obtain rfl := q13
    have hq13 := wg_la_le a i
    refine lv_lload_n hx hb d_X_sharedLetters_16 rfl (lv_at hl 1 rfl) ?_
    refine lv_iload hx hb d_X_sharedLetters_17 (lv_at hl 2 rfl) ?_
    refine wg_csi (As := [.long (lN b), .int (nI i)]) (rest := [.int (nI (wg_la a i))]) hx hb hml hown hts hK hP hS hA (c_X_letterAt l D cJ cI _ b i (by omega) (by omega)) kc_X_91 ⟨rfl, rfl⟩ ⟨Nat.le_of_ble_eq_true rfl, Nat.le_of_ble_eq_true rfl⟩ rfl hl.1 rfl (Nat.le_of_ble_eq_true rfl) d_X_sharedLetters_19 ⟨Nat.zero_le _, Nat.zero_le _⟩ (fun r H locs q19 hP hS => ?_)
    obtain rfl := q19
    have hq19 := wg_la_le b i
    refine lv_icmp_ne (tgt := 31) hx hb d_X_sharedLetters_22 (by decide) (fun h22 => ?_) (fun h22 => ?_)
    · rw [nI_eq (by omega) (by omega)] at h22
      rw [wg_la_lt (by omega), wg_la_lt (by omega)] at h22
      rw [wg_run_f (by simpa using h22)] at hrn
      refine lv_iload hx hb d_X_sharedLetters_31 (lv_at hl 2 rfl) ?_
      exact W.iret (v := (nI i)) hx hb hr (fun tt hth hW => ⟨⟨_, (), rfl, (by rw [← hrn]), trivial⟩, hS.F hth⟩) hS.2.2 d_X_sharedLetters_33
    · rw [nI_eq (by omega) (by omega)] at h22
      rw [wg_la_lt (by omega), wg_la_lt (by omega)] at h22
      refine lv_iinc (v := nI (i + 1)) (k := 2) (lv' := [(4, .int (nI (i + 1))), (0, .long (lN a)), (2, .long (lN b))]) hx hb d_X_sharedLetters_25 hl rfl (nI_1 _) (by decide) rfl (fun ls hl => ?_)
      refine lv_goto (tgt := 3) hx hb d_X_sharedLetters_28 (by decide) ?_
      exact ih3 (i + 1) 0 0 (fun _ _ => 0) _ _ _ ⟨(by omega), ((wg_run_t (by omega) (by simpa using h22)).symm.trans hrn), hP, hS, lv_sub hl [1, 2, 0] rfl⟩ (by omega)
set_option maxHeartbeats 4000000 in
set_option maxRecDepth 100000 in
theorem c_X_hasWord (l : Launch) (D : va_G) (cJ cI : ClassId) (h0 : Nat) (ad : Nat → Nat) (sz : Nat) (I : wg_S) (k : Int32) (hb31 : I 3 0 < 2 ^ 31) : Met l y_X_hasWord (wg_ws y_X_hasWord b_X_hasWord 2 (some .boolean)) ({ frames := 0, cells := 0, slots := 0, locals := 0 }) (va_Pc [.ref h0, .int k] (wg_Pc D cJ cI (wg_WX cJ cI h0 ad I) sz)) (va_Qi (fun (r : Int32) (u : Unit) => (r = nI 1 ∧ ∃ j, j < I 3 0 ∧ k = nI j) ∨ (r = nI 0 ∧ ∀ j, j < I 3 0 → ¬ k = nI j)) (fun (_ : Unit) t => va_P D wg_cl (wg_WX cJ cI h0 ad I) t.heap) (va_A (wg_WX cJ cI h0 ad I) sz)) 0 0 (va_A (wg_WX cJ cI h0 ad I) sz) := by
  refine wg_head (Wd := (fun I => wg_WX cJ cI h0 ad I)) (I := I) (fun A => va_Qi (fun (r : Int32) (u : Unit) => (r = nI 1 ∧ ∃ j, j < I 3 0 ∧ k = nI j) ∨ (r = nI 0 ∧ ∀ j, j < I 3 0 → ¬ k = nI j)) (fun (_ : Unit) t => va_P D wg_cl (wg_WX cJ cI h0 ad I) t.heap) A) R_X (by decide) rfl (Nat.le_of_ble_eq_true rfl) (fun I J => wg_same_X I J) ?_
  intro p e s m below meth c A ls hx hb hr hlk hml hown hnm hts hA hK hD hP hS hl hsz
  clear hsz
  have hl : lv_has ls 2 [(0, .ref h0), (1, .int k)] := hl
  have hP : va_P D wg_cl (wg_WX cJ cI h0 ad I) s.heap := hP
  skip
  refine lv_iload_n hx hb d_X_hasWord_0 rfl (lv_at hl 1 rfl) ?_
  refine lv_if_lt (tgt := 16) hx hb d_X_hasWord_1 (by decide) (fun h1 => ?_) (fun h1 => ?_)
  · refine lv_iconst (v := (nI 0)) hx hb d_X_hasWord_16 (by decide +kernel) ?_
    exact W.zret (ty := .boolean) (v := (nI 0)) hx hb hr (by decide +kernel) (fun tt hth hW => ⟨⟨_, (), rfl, (Or.inr ⟨rfl, by first | exact wg_has0a hb31 h1 | exact wg_has0b hb31 h9⟩), wg_h hth hP⟩, hS.F hth⟩) hS.2.2 d_X_hasWord_17
  · refine lv_iload_n hx hb d_X_hasWord_4 rfl (lv_at hl 1 rfl) ?_
    refine lv_aload_n hx hb d_X_hasWord_5 rfl (lv_at hl 0 rfl) ?_
    refine wg_gX hx hb hts hown hK hP 3 (by decide) (v := .int (nI (I 3 0))) kf_X_52 rfl d_X_hasWord_6 ?_
    refine lv_icmp_ge (tgt := 16) hx hb d_X_hasWord_9 (by decide) (fun h9 => ?_) (fun h9 => ?_)
    · refine lv_iconst (v := (nI 0)) hx hb d_X_hasWord_16 (by decide +kernel) ?_
      exact W.zret (ty := .boolean) (v := (nI 0)) hx hb hr (by decide +kernel) (fun tt hth hW => ⟨⟨_, (), rfl, (Or.inr ⟨rfl, by first | exact wg_has0a hb31 h1 | exact wg_has0b hb31 h9⟩), wg_h hth hP⟩, hS.F hth⟩) hS.2.2 d_X_hasWord_17
    · refine lv_iconst (v := (nI 1)) hx hb d_X_hasWord_12 (by decide +kernel) ?_
      refine lv_goto (tgt := 17) hx hb d_X_hasWord_13 (by decide) ?_
      exact W.zret (ty := .boolean) (v := (nI 1)) hx hb hr (by decide +kernel) (fun tt hth hW => ⟨⟨_, (), rfl, (Or.inl ⟨rfl, wg_has1 hb31 h1 h9⟩), wg_h hth hP⟩, hS.F hth⟩) hS.2.2 d_X_hasWord_17
set_option maxHeartbeats 4000000 in
set_option maxRecDepth 100000 in
theorem c_X_hasNode (l : Launch) (D : va_G) (cJ cI : ClassId) (h0 : Nat) (ad : Nat → Nat) (sz : Nat) (I : wg_S) (k : Int32) (hb31 : I 8 0 < 2 ^ 31) : Met l y_X_hasNode (wg_ws y_X_hasNode b_X_hasNode 2 (some .boolean)) ({ frames := 0, cells := 0, slots := 0, locals := 0 }) (va_Pc [.ref h0, .int k] (wg_Pc D cJ cI (wg_WX cJ cI h0 ad I) sz)) (va_Qi (fun (r : Int32) (u : Unit) => (r = nI 1 ∧ ∃ j, j < I 8 0 ∧ k = nI j) ∨ (r = nI 0 ∧ ∀ j, j < I 8 0 → ¬ k = nI j)) (fun (_ : Unit) t => va_P D wg_cl (wg_WX cJ cI h0 ad I) t.heap) (va_A (wg_WX cJ cI h0 ad I) sz)) 0 0 (va_A (wg_WX cJ cI h0 ad I) sz) := by
  refine wg_head (Wd := (fun I => wg_WX cJ cI h0 ad I)) (I := I) (fun A => va_Qi (fun (r : Int32) (u : Unit) => (r = nI 1 ∧ ∃ j, j < I 8 0 ∧ k = nI j) ∨ (r = nI 0 ∧ ∀ j, j < I 8 0 → ¬ k = nI j)) (fun (_ : Unit) t => va_P D wg_cl (wg_WX cJ cI h0 ad I) t.heap) A) R_X (by decide) rfl (Nat.le_of_ble_eq_true rfl) (fun I J => wg_same_X I J) ?_
  intro p e s m below meth c A ls hx hb hr hlk hml hown hnm hts hA hK hD hP hS hl hsz
  clear hsz
  have hl : lv_has ls 2 [(0, .ref h0), (1, .int k)] := hl
  have hP : va_P D wg_cl (wg_WX cJ cI h0 ad I) s.heap := hP
  skip
  refine lv_iload_n hx hb d_X_hasNode_0 rfl (lv_at hl 1 rfl) ?_
  refine lv_if_lt (tgt := 16) hx hb d_X_hasNode_1 (by decide) (fun h1 => ?_) (fun h1 => ?_)
  · refine lv_iconst (v := (nI 0)) hx hb d_X_hasNode_16 (by decide +kernel) ?_
    exact W.zret (ty := .boolean) (v := (nI 0)) hx hb hr (by decide +kernel) (fun tt hth hW => ⟨⟨_, (), rfl, (Or.inr ⟨rfl, by first | exact wg_has0a hb31 h1 | exact wg_has0b hb31 h9⟩), wg_h hth hP⟩, hS.F hth⟩) hS.2.2 d_X_hasNode_17
  · refine lv_iload_n hx hb d_X_hasNode_4 rfl (lv_at hl 1 rfl) ?_
    refine lv_aload_n hx hb d_X_hasNode_5 rfl (lv_at hl 0 rfl) ?_
    refine wg_gX hx hb hts hown hK hP 8 (by decide) (v := .int (nI (I 8 0))) kf_X_72 rfl d_X_hasNode_6 ?_
    refine lv_icmp_ge (tgt := 16) hx hb d_X_hasNode_9 (by decide) (fun h9 => ?_) (fun h9 => ?_)
    · refine lv_iconst (v := (nI 0)) hx hb d_X_hasNode_16 (by decide +kernel) ?_
      exact W.zret (ty := .boolean) (v := (nI 0)) hx hb hr (by decide +kernel) (fun tt hth hW => ⟨⟨_, (), rfl, (Or.inr ⟨rfl, by first | exact wg_has0a hb31 h1 | exact wg_has0b hb31 h9⟩), wg_h hth hP⟩, hS.F hth⟩) hS.2.2 d_X_hasNode_17
    · refine lv_iconst (v := (nI 1)) hx hb d_X_hasNode_12 (by decide +kernel) ?_
      refine lv_goto (tgt := 17) hx hb d_X_hasNode_13 (by decide) ?_
      exact W.zret (ty := .boolean) (v := (nI 1)) hx hb hr (by decide +kernel) (fun tt hth hW => ⟨⟨_, (), rfl, (Or.inl ⟨rfl, wg_has1 hb31 h1 h9⟩), wg_h hth hP⟩, hS.F hth⟩) hS.2.2 d_X_hasNode_17
set_option maxHeartbeats 4000000 in
set_option maxRecDepth 100000 in
theorem c_X_hasResult (l : Launch) (D : va_G) (cJ cI : ClassId) (h0 : Nat) (ad : Nat → Nat) (sz : Nat) (I : wg_S) (k : Int32) (hb31 : I 11 0 < 2 ^ 31) : Met l y_X_hasResult (wg_ws y_X_hasResult b_X_hasResult 2 (some .boolean)) ({ frames := 0, cells := 0, slots := 0, locals := 0 }) (va_Pc [.ref h0, .int k] (wg_Pc D cJ cI (wg_WX cJ cI h0 ad I) sz)) (va_Qi (fun (r : Int32) (u : Unit) => (r = nI 1 ∧ ∃ j, j < I 11 0 ∧ k = nI j) ∨ (r = nI 0 ∧ ∀ j, j < I 11 0 → ¬ k = nI j)) (fun (_ : Unit) t => va_P D wg_cl (wg_WX cJ cI h0 ad I) t.heap) (va_A (wg_WX cJ cI h0 ad I) sz)) 0 0 (va_A (wg_WX cJ cI h0 ad I) sz) := by
  refine wg_head (Wd := (fun I => wg_WX cJ cI h0 ad I)) (I := I) (fun A => va_Qi (fun (r : Int32) (u : Unit) => (r = nI 1 ∧ ∃ j, j < I 11 0 ∧ k = nI j) ∨ (r = nI 0 ∧ ∀ j, j < I 11 0 → ¬ k = nI j)) (fun (_ : Unit) t => va_P D wg_cl (wg_WX cJ cI h0 ad I) t.heap) A) R_X (by decide) rfl (Nat.le_of_ble_eq_true rfl) (fun I J => wg_same_X I J) ?_
  intro p e s m below meth c A ls hx hb hr hlk hml hown hnm hts hA hK hD hP hS hl hsz
  clear hsz
  have hl : lv_has ls 2 [(0, .ref h0), (1, .int k)] := hl
  have hP : va_P D wg_cl (wg_WX cJ cI h0 ad I) s.heap := hP
  skip
  refine lv_iload_n hx hb d_X_hasResult_0 rfl (lv_at hl 1 rfl) ?_
  refine lv_if_lt (tgt := 16) hx hb d_X_hasResult_1 (by decide) (fun h1 => ?_) (fun h1 => ?_)
  · refine lv_iconst (v := (nI 0)) hx hb d_X_hasResult_16 (by decide +kernel) ?_
    exact W.zret (ty := .boolean) (v := (nI 0)) hx hb hr (by decide +kernel) (fun tt hth hW => ⟨⟨_, (), rfl, (Or.inr ⟨rfl, by first | exact wg_has0a hb31 h1 | exact wg_has0b hb31 h9⟩), wg_h hth hP⟩, hS.F hth⟩) hS.2.2 d_X_hasResult_17
  · refine lv_iload_n hx hb d_X_hasResult_4 rfl (lv_at hl 1 rfl) ?_
    refine lv_aload_n hx hb d_X_hasResult_5 rfl (lv_at hl 0 rfl) ?_
    refine wg_gX hx hb hts hown hK hP 11 (by decide) (v := .int (nI (I 11 0))) kf_X_75 rfl d_X_hasResult_6 ?_
    refine lv_icmp_ge (tgt := 16) hx hb d_X_hasResult_9 (by decide) (fun h9 => ?_) (fun h9 => ?_)
    · refine lv_iconst (v := (nI 0)) hx hb d_X_hasResult_16 (by decide +kernel) ?_
      exact W.zret (ty := .boolean) (v := (nI 0)) hx hb hr (by decide +kernel) (fun tt hth hW => ⟨⟨_, (), rfl, (Or.inr ⟨rfl, by first | exact wg_has0a hb31 h1 | exact wg_has0b hb31 h9⟩), wg_h hth hP⟩, hS.F hth⟩) hS.2.2 d_X_hasResult_17
    · refine lv_iconst (v := (nI 1)) hx hb d_X_hasResult_12 (by decide +kernel) ?_
      refine lv_goto (tgt := 17) hx hb d_X_hasResult_13 (by decide) ?_
      exact W.zret (ty := .boolean) (v := (nI 1)) hx hb hr (by decide +kernel) (fun tt hth hW => ⟨⟨_, (), rfl, (Or.inl ⟨rfl, wg_has1 hb31 h1 h9⟩), wg_h hth hP⟩, hS.F hth⟩) hS.2.2 d_X_hasResult_17
set_option maxHeartbeats 4000000 in
set_option maxRecDepth 100000 in
theorem c_X_size (l : Launch) (D : va_G) (cJ cI : ClassId) (h0 : Nat) (ad : Nat → Nat) (sz : Nat) (I : wg_S) : Met l y_X_size (wg_ws y_X_size b_X_size 1 (some .int)) ({ frames := 0, cells := 0, slots := 0, locals := 0 }) (va_Pc [.ref h0] (wg_Pc D cJ cI (wg_WX cJ cI h0 ad I) sz)) (va_Qi (fun (r : Int32) (u : Unit) => r = nI (I 3 0)) (fun (_ : Unit) t => va_P D wg_cl (wg_WX cJ cI h0 ad I) t.heap) (va_A (wg_WX cJ cI h0 ad I) sz)) 0 0 (va_A (wg_WX cJ cI h0 ad I) sz) := by
  refine wg_head (Wd := (fun I => wg_WX cJ cI h0 ad I)) (I := I) (fun A => va_Qi (fun (r : Int32) (u : Unit) => r = nI (I 3 0)) (fun (_ : Unit) t => va_P D wg_cl (wg_WX cJ cI h0 ad I) t.heap) A) R_X (by decide) rfl (Nat.le_of_ble_eq_true rfl) (fun I J => wg_same_X I J) ?_
  intro p e s m below meth c A ls hx hb hr hlk hml hown hnm hts hA hK hD hP hS hl hsz
  clear hsz
  have hl : lv_has ls 1 [(0, .ref h0)] := hl
  have hP : va_P D wg_cl (wg_WX cJ cI h0 ad I) s.heap := hP
  skip
  refine lv_aload_n hx hb d_X_size_0 rfl (lv_at hl 0 rfl) ?_
  refine wg_gX hx hb hts hown hK hP 3 (by decide) (v := .int (nI (I 3 0))) kf_X_52 rfl d_X_size_1 ?_
  exact W.iret (v := (nI (I 3 0))) hx hb hr (fun tt hth hW => ⟨⟨_, (), rfl, rfl, wg_h hth hP⟩, hS.F hth⟩) hS.2.2 d_X_size_4
set_option maxHeartbeats 4000000 in
set_option maxRecDepth 100000 in
theorem c_X_nodes (l : Launch) (D : va_G) (cJ cI : ClassId) (h0 : Nat) (ad : Nat → Nat) (sz : Nat) (I : wg_S) : Met l y_X_nodes (wg_ws y_X_nodes b_X_nodes 1 (some .int)) ({ frames := 0, cells := 0, slots := 0, locals := 0 }) (va_Pc [.ref h0] (wg_Pc D cJ cI (wg_WX cJ cI h0 ad I) sz)) (va_Qi (fun (r : Int32) (u : Unit) => r = nI (I 8 0)) (fun (_ : Unit) t => va_P D wg_cl (wg_WX cJ cI h0 ad I) t.heap) (va_A (wg_WX cJ cI h0 ad I) sz)) 0 0 (va_A (wg_WX cJ cI h0 ad I) sz) := by
  refine wg_head (Wd := (fun I => wg_WX cJ cI h0 ad I)) (I := I) (fun A => va_Qi (fun (r : Int32) (u : Unit) => r = nI (I 8 0)) (fun (_ : Unit) t => va_P D wg_cl (wg_WX cJ cI h0 ad I) t.heap) A) R_X (by decide) rfl (Nat.le_of_ble_eq_true rfl) (fun I J => wg_same_X I J) ?_
  intro p e s m below meth c A ls hx hb hr hlk hml hown hnm hts hA hK hD hP hS hl hsz
  clear hsz
  have hl : lv_has ls 1 [(0, .ref h0)] := hl
  have hP : va_P D wg_cl (wg_WX cJ cI h0 ad I) s.heap := hP
  skip
  refine lv_aload_n hx hb d_X_nodes_0 rfl (lv_at hl 0 rfl) ?_
  refine wg_gX hx hb hts hown hK hP 8 (by decide) (v := .int (nI (I 8 0))) kf_X_72 rfl d_X_nodes_1 ?_
  exact W.iret (v := (nI (I 8 0))) hx hb hr (fun tt hth hW => ⟨⟨_, (), rfl, rfl, wg_h hth hP⟩, hS.F hth⟩) hS.2.2 d_X_nodes_4
set_option maxHeartbeats 4000000 in
set_option maxRecDepth 100000 in
theorem c_X_clear (l : Launch) (D : va_G) (cJ cI : ClassId) (h0 : Nat) (ad : Nat → Nat) (sz : Nat) (I : wg_S) : Met l y_X_clear (wg_ws y_X_clear b_X_clear 1 none) ({ frames := 0, cells := 0, slots := 0, locals := 0 }) (va_Pc [.ref h0] (wg_Pc D cJ cI (wg_WX cJ cI h0 ad I) sz)) (va_Qv (fun (u : wg_S) => u = wg_st (wg_st (wg_st (wg_st I 3 0 0) 4 0 0) 8 0 0) 11 0 0) (fun (u : wg_S) t => va_P D wg_cl (wg_WX cJ cI h0 ad u) t.heap) (va_A (wg_WX cJ cI h0 ad I) sz)) 0 0 (va_A (wg_WX cJ cI h0 ad I) sz) := by
  refine wg_head (Wd := (fun I => wg_WX cJ cI h0 ad I)) (I := I) (fun A => va_Qv (fun (u : wg_S) => u = wg_st (wg_st (wg_st (wg_st I 3 0 0) 4 0 0) 8 0 0) 11 0 0) (fun (u : wg_S) t => va_P D wg_cl (wg_WX cJ cI h0 ad u) t.heap) A) R_X (by decide) rfl (Nat.le_of_ble_eq_true rfl) (fun I J => wg_same_X I J) ?_
  intro p e s m below meth c A ls hx hb hr hlk hml hown hnm hts hA hK hD hP hS hl hsz
  clear hsz
  have hl : lv_has ls 1 [(0, .ref h0)] := hl
  have hP : va_P D wg_cl (wg_WX cJ cI h0 ad I) s.heap := hP
  skip
  refine lv_aload_n hx hb d_X_clear_0 rfl (lv_at hl 0 rfl) ?_
  refine lv_iconst (v := (nI 0)) hx hb d_X_clear_1 (by decide +kernel) ?_
  refine wg_pX3 (v := 0) hx hb hts hown hK hP hD hS kf_X_52 d_X_clear_2 (fun H locs hP hS => ?_)
  refine lv_aload_n hx hb d_X_clear_5 rfl (lv_at hl 0 rfl) ?_
  refine lv_iconst (v := (nI 0)) hx hb d_X_clear_6 (by decide +kernel) ?_
  refine wg_pX4 (v := 0) hx hb hts hown hK hP hD hS kf_X_44 (by decide +kernel) (by decide +kernel) d_X_clear_7 (fun H locs hP hS => ?_)
  refine lv_aload_n hx hb d_X_clear_10 rfl (lv_at hl 0 rfl) ?_
  refine lv_iconst (v := (nI 0)) hx hb d_X_clear_11 (by decide +kernel) ?_
  refine wg_pX8 (v := 0) hx hb hts hown hK hP hD hS kf_X_72 d_X_clear_12 (fun H locs hP hS => ?_)
  refine lv_aload_n hx hb d_X_clear_15 rfl (lv_at hl 0 rfl) ?_
  refine lv_iconst (v := (nI 0)) hx hb d_X_clear_16 (by decide +kernel) ?_
  refine wg_pX11 (v := 0) hx hb hts hown hK hP hD hS kf_X_75 d_X_clear_17 (fun H locs hP hS => ?_)
  exact W.vret hx hb hr (fun tt hth hW => ⟨⟨(wg_st (wg_st (wg_st (wg_st I 3 0 0) 4 0 0) 8 0 0) 11 0 0), rfl, rfl, wg_h hth hP⟩, hS.F hth⟩) hS.2.2 d_X_clear_20
set_option maxHeartbeats 4000000 in
set_option maxRecDepth 100000 in
theorem c_X_word (l : Launch) (D : va_G) (cJ cI : ClassId) (h0 : Nat) (ad : Nat → Nat) (sz : Nat) (I : wg_S) (k : Int32) (hI : wg_XI I) : Met l y_X_word (wg_ws y_X_word b_X_word 2 (some .long)) ({ frames := 1, cells := 0, slots := 0, locals := 21 }) (va_Pc [.ref h0, .int k] (wg_Pc D cJ cI (wg_WX cJ cI h0 ad I) sz)) (va_Ql (fun (r : Int64) (u : Unit) => (∃ j, j < I 3 0 ∧ k = nI j ∧ r = lN (I 0 j)) ∨ ((∀ j, j < I 3 0 → ¬ k = nI j) ∧ r = -1)) (fun (_ : Unit) t => va_P D wg_cl (wg_WX cJ cI h0 ad I) t.heap) (va_A (wg_WX cJ cI h0 ad I) sz)) 0 0 (va_A (wg_WX cJ cI h0 ad I) sz) := by
  refine wg_head (Wd := (fun I => wg_WX cJ cI h0 ad I)) (I := I) (fun A => va_Ql (fun (r : Int64) (u : Unit) => (∃ j, j < I 3 0 ∧ k = nI j ∧ r = lN (I 0 j)) ∨ ((∀ j, j < I 3 0 → ¬ k = nI j) ∧ r = -1)) (fun (_ : Unit) t => va_P D wg_cl (wg_WX cJ cI h0 ad I) t.heap) A) R_X (by decide) rfl (Nat.le_of_ble_eq_true rfl) (fun I J => wg_same_X I J) ?_
  intro p e s m below meth c A ls hx hb hr hlk hml hown hnm hts hA hK hD hP hS hl hsz
  clear hsz
  have hl : lv_has ls 2 [(0, .ref h0), (1, .int k)] := hl
  have hP : va_P D wg_cl (wg_WX cJ cI h0 ad I) s.heap := hP
  skip
  have hI' := hI
  obtain ⟨hn, hse, hc, hrc, hso, hw, hL, hF, hF1, hNW, hNL, hT, hWF, hNO⟩ := hI'
  refine lv_aload_n hx hb d_X_word_0 rfl (lv_at hl 0 rfl) ?_
  refine lv_iload_n hx hb d_X_word_1 rfl (lv_at hl 1 rfl) ?_
  refine wg_cvi (As := [.int k]) (rest := []) hx hb hml hown hts hK hP (hD _) hS hA rfl rfl rfl (c_X_hasWord l D cJ cI h0 ad _ I k (by omega)) kc_X_78 ⟨rfl, rfl⟩ ⟨Nat.le_of_ble_eq_true rfl, Nat.le_of_ble_eq_true rfl⟩ rfl hl.1 rfl (Nat.le_of_ble_eq_true rfl) d_X_word_2 ⟨Nat.zero_le _, Nat.zero_le _⟩ (fun r u2 tt H locs ht q2 hB _ _ hS => ?_)
  have hP : va_P D wg_cl (wg_WX cJ cI h0 ad I) H := by rw [← ht]; exact hB
  clear hB ht tt
  rcases q2 with ⟨rfl, j2, hj2, rfl⟩ | ⟨rfl, hj2⟩
  · skip
    refine lv_if_eq (tgt := 17) hx hb d_X_word_5 (by decide) (fun h => absurd h (by decide +kernel)) (fun _ => ?_)
    refine lv_aload_n hx hb d_X_word_8 rfl (lv_at hl 0 rfl) ?_
    refine wg_gX hx hb hts hown hK hP 0 (by decide) (v := .ref (ad 0)) kf_X_9 rfl d_X_word_9 ?_
    refine lv_iload_n hx hb d_X_word_12 rfl (lv_at hl 1 rfl) ?_
    refine wg_lld (f := I 0) (j := j2) hx hb hK hP 1 rfl (by omega) (by decide) d_X_word_13 ?_
    have hB13 := hw j2 (by omega)
    refine lv_goto (tgt := 20) hx hb d_X_word_14 (by decide) ?_
    exact W.lret (v := (lN (I 0 j2))) hx hb hr (fun tt hth hW => ⟨⟨_, (), rfl, (Or.inl ⟨j2, hj2, rfl, rfl⟩), wg_h hth hP⟩, hS.F hth⟩) hS.2.2 d_X_word_20
  · skip
    refine lv_if_eq (tgt := 17) hx hb d_X_word_5 (by decide) (fun _ => ?_) (fun h => absurd h (by decide +kernel))
    refine lv_ldc2 (v := (-1)) hx hb hown (hts _ kl_X_82) d_X_word_17 ?_
    exact W.lret (v := (-1)) hx hb hr (fun tt hth hW => ⟨⟨_, (), rfl, (Or.inr ⟨hj2, rfl⟩), wg_h hth hP⟩, hS.F hth⟩) hS.2.2 d_X_word_20
set_option maxHeartbeats 4000000 in
set_option maxRecDepth 100000 in
theorem c_X_result (l : Launch) (D : va_G) (cJ cI : ClassId) (h0 : Nat) (ad : Nat → Nat) (sz : Nat) (I : wg_S) (k : Int32) (hI : wg_XI I) : Met l y_X_result (wg_ws y_X_result b_X_result 2 (some .int)) ({ frames := 1, cells := 0, slots := 0, locals := 21 }) (va_Pc [.ref h0, .int k] (wg_Pc D cJ cI (wg_WX cJ cI h0 ad I) sz)) (va_Qi (fun (r : Int32) (u : Unit) => (∃ j, j < I 11 0 ∧ k = nI j ∧ r = nI (I 9 j)) ∨ ((∀ j, j < I 11 0 → ¬ k = nI j) ∧ r = -1)) (fun (_ : Unit) t => va_P D wg_cl (wg_WX cJ cI h0 ad I) t.heap) (va_A (wg_WX cJ cI h0 ad I) sz)) 0 0 (va_A (wg_WX cJ cI h0 ad I) sz) := by
  refine wg_head (Wd := (fun I => wg_WX cJ cI h0 ad I)) (I := I) (fun A => va_Qi (fun (r : Int32) (u : Unit) => (∃ j, j < I 11 0 ∧ k = nI j ∧ r = nI (I 9 j)) ∨ ((∀ j, j < I 11 0 → ¬ k = nI j) ∧ r = -1)) (fun (_ : Unit) t => va_P D wg_cl (wg_WX cJ cI h0 ad I) t.heap) A) R_X (by decide) rfl (Nat.le_of_ble_eq_true rfl) (fun I J => wg_same_X I J) ?_
  intro p e s m below meth c A ls hx hb hr hlk hml hown hnm hts hA hK hD hP hS hl hsz
  clear hsz
  have hl : lv_has ls 2 [(0, .ref h0), (1, .int k)] := hl
  have hP : va_P D wg_cl (wg_WX cJ cI h0 ad I) s.heap := hP
  skip
  have hI' := hI
  obtain ⟨hn, hse, hc, hrc, hso, hw, hL, hF, hF1, hNW, hNL, hT, hWF, hNO⟩ := hI'
  refine lv_aload_n hx hb d_X_result_0 rfl (lv_at hl 0 rfl) ?_
  refine lv_iload_n hx hb d_X_result_1 rfl (lv_at hl 1 rfl) ?_
  refine wg_cvi (As := [.int k]) (rest := []) hx hb hml hown hts hK hP (hD _) hS hA rfl rfl rfl (c_X_hasResult l D cJ cI h0 ad _ I k (by omega)) kc_X_109 ⟨rfl, rfl⟩ ⟨Nat.le_of_ble_eq_true rfl, Nat.le_of_ble_eq_true rfl⟩ rfl hl.1 rfl (Nat.le_of_ble_eq_true rfl) d_X_result_2 ⟨Nat.zero_le _, Nat.zero_le _⟩ (fun r u2 tt H locs ht q2 hB _ _ hS => ?_)
  have hP : va_P D wg_cl (wg_WX cJ cI h0 ad I) H := by rw [← ht]; exact hB
  clear hB ht tt
  rcases q2 with ⟨rfl, j2, hj2, rfl⟩ | ⟨rfl, hj2⟩
  · skip
    refine lv_if_eq (tgt := 17) hx hb d_X_result_5 (by decide) (fun h => absurd h (by decide +kernel)) (fun _ => ?_)
    refine lv_aload_n hx hb d_X_result_8 rfl (lv_at hl 0 rfl) ?_
    refine wg_gX hx hb hts hown hK hP 9 (by decide) (v := .ref (ad 9)) kf_X_29 rfl d_X_result_9 ?_
    refine lv_iload_n hx hb d_X_result_12 rfl (lv_at hl 1 rfl) ?_
    refine wg_ild (f := I 9) (j := j2) hx hb hK hP 7 rfl (by omega) (by decide) d_X_result_13 ?_
    refine lv_goto (tgt := 18) hx hb d_X_result_14 (by decide) ?_
    exact W.iret (v := (nI (I 9 j2))) hx hb hr (fun tt hth hW => ⟨⟨_, (), rfl, (Or.inl ⟨j2, hj2, rfl, rfl⟩), wg_h hth hP⟩, hS.F hth⟩) hS.2.2 d_X_result_18
  · skip
    refine lv_if_eq (tgt := 17) hx hb d_X_result_5 (by decide) (fun _ => ?_) (fun h => absurd h (by decide +kernel))
    refine lv_iconst (v := (-1)) hx hb d_X_result_17 (by decide +kernel) ?_
    exact W.iret (v := (-1)) hx hb hr (fun tt hth hW => ⟨⟨_, (), rfl, (Or.inr ⟨hj2, rfl⟩), wg_h hth hP⟩, hS.F hth⟩) hS.2.2 d_X_result_18
set_option maxHeartbeats 4000000 in
set_option maxRecDepth 100000 in
theorem c_X_far (l : Launch) (D : va_G) (cJ cI : ClassId) (h0 : Nat) (ad : Nat → Nat) (sz : Nat) (I : wg_S) (k : Int32) (hI : wg_XI I) : Met l y_X_far (wg_ws y_X_far b_X_far 2 (some .int)) ({ frames := 1, cells := 0, slots := 0, locals := 21 }) (va_Pc [.ref h0, .int k] (wg_Pc D cJ cI (wg_WX cJ cI h0 ad I) sz)) (va_Qi (fun (r : Int32) (u : Unit) => (∃ j, j < I 11 0 ∧ k = nI j ∧ r = nI (I 10 j)) ∨ ((∀ j, j < I 11 0 → ¬ k = nI j) ∧ r = -1)) (fun (_ : Unit) t => va_P D wg_cl (wg_WX cJ cI h0 ad I) t.heap) (va_A (wg_WX cJ cI h0 ad I) sz)) 0 0 (va_A (wg_WX cJ cI h0 ad I) sz) := by
  refine wg_head (Wd := (fun I => wg_WX cJ cI h0 ad I)) (I := I) (fun A => va_Qi (fun (r : Int32) (u : Unit) => (∃ j, j < I 11 0 ∧ k = nI j ∧ r = nI (I 10 j)) ∨ ((∀ j, j < I 11 0 → ¬ k = nI j) ∧ r = -1)) (fun (_ : Unit) t => va_P D wg_cl (wg_WX cJ cI h0 ad I) t.heap) A) R_X (by decide) rfl (Nat.le_of_ble_eq_true rfl) (fun I J => wg_same_X I J) ?_
  intro p e s m below meth c A ls hx hb hr hlk hml hown hnm hts hA hK hD hP hS hl hsz
  clear hsz
  have hl : lv_has ls 2 [(0, .ref h0), (1, .int k)] := hl
  have hP : va_P D wg_cl (wg_WX cJ cI h0 ad I) s.heap := hP
  skip
  have hI' := hI
  obtain ⟨hn, hse, hc, hrc, hso, hw, hL, hF, hF1, hNW, hNL, hT, hWF, hNO⟩ := hI'
  refine lv_aload_n hx hb d_X_far_0 rfl (lv_at hl 0 rfl) ?_
  refine lv_iload_n hx hb d_X_far_1 rfl (lv_at hl 1 rfl) ?_
  refine wg_cvi (As := [.int k]) (rest := []) hx hb hml hown hts hK hP (hD _) hS hA rfl rfl rfl (c_X_hasResult l D cJ cI h0 ad _ I k (by omega)) kc_X_109 ⟨rfl, rfl⟩ ⟨Nat.le_of_ble_eq_true rfl, Nat.le_of_ble_eq_true rfl⟩ rfl hl.1 rfl (Nat.le_of_ble_eq_true rfl) d_X_far_2 ⟨Nat.zero_le _, Nat.zero_le _⟩ (fun r u2 tt H locs ht q2 hB _ _ hS => ?_)
  have hP : va_P D wg_cl (wg_WX cJ cI h0 ad I) H := by rw [← ht]; exact hB
  clear hB ht tt
  rcases q2 with ⟨rfl, j2, hj2, rfl⟩ | ⟨rfl, hj2⟩
  · skip
    refine lv_if_eq (tgt := 17) hx hb d_X_far_5 (by decide) (fun h => absurd h (by decide +kernel)) (fun _ => ?_)
    refine lv_aload_n hx hb d_X_far_8 rfl (lv_at hl 0 rfl) ?_
    refine wg_gX hx hb hts hown hK hP 10 (by decide) (v := .ref (ad 10)) kf_X_32 rfl d_X_far_9 ?_
    refine lv_iload_n hx hb d_X_far_12 rfl (lv_at hl 1 rfl) ?_
    refine wg_ild (f := I 10) (j := j2) hx hb hK hP 8 rfl (by omega) (by decide) d_X_far_13 ?_
    refine lv_goto (tgt := 18) hx hb d_X_far_14 (by decide) ?_
    exact W.iret (v := (nI (I 10 j2))) hx hb hr (fun tt hth hW => ⟨⟨_, (), rfl, (Or.inl ⟨j2, hj2, rfl, rfl⟩), wg_h hth hP⟩, hS.F hth⟩) hS.2.2 d_X_far_18
  · skip
    refine lv_if_eq (tgt := 17) hx hb d_X_far_5 (by decide) (fun _ => ?_) (fun h => absurd h (by decide +kernel))
    refine lv_iconst (v := (-1)) hx hb d_X_far_17 (by decide +kernel) ?_
    exact W.iret (v := (-1)) hx hb hr (fun tt hth hW => ⟨⟨_, (), rfl, (Or.inr ⟨hj2, rfl⟩), wg_h hth hP⟩, hS.F hth⟩) hS.2.2 d_X_far_18
set_option maxHeartbeats 4000000 in
set_option maxRecDepth 100000 in
theorem c_X_find (l : Launch) (D : va_G) (cJ cI : ClassId) (h0 : Nat) (ad : Nat → Nat) (sz : Nat) (I : wg_S) (n : Nat) (hI : wg_XI I) : Met l y_X_find (wg_ws y_X_find b_X_find 4 (some .int)) ({ frames := 0, cells := 0, slots := 0, locals := 0 }) (va_Pc [.ref h0, .long (lN n)] (wg_Pc D cJ cI (wg_WX cJ cI h0 ad I) sz)) (va_Qi (fun (r : Int32) (u : Unit) => I 3 0 = 0 → r = -1) (fun (_ : Unit) t => va_P D wg_cl (wg_WX cJ cI h0 ad I) t.heap) (va_A (wg_WX cJ cI h0 ad I) sz)) 0 0 (va_A (wg_WX cJ cI h0 ad I) sz) := by
  refine wg_head (Wd := (fun I => wg_WX cJ cI h0 ad I)) (I := I) (fun A => va_Qi (fun (r : Int32) (u : Unit) => I 3 0 = 0 → r = -1) (fun (_ : Unit) t => va_P D wg_cl (wg_WX cJ cI h0 ad I) t.heap) A) R_X (by decide) rfl (Nat.le_of_ble_eq_true rfl) (fun I J => wg_same_X I J) ?_
  intro p e s m below meth c A ls hx hb hr hlk hml hown hnm hts hA hK hD hP hS hl hsz
  clear hsz
  have hl : lv_has ls 4 [(0, .ref h0), (1, .long (lN n))] := hl
  have hP : va_P D wg_cl (wg_WX cJ cI h0 ad I) s.heap := hP
  skip
  have hI' := hI
  obtain ⟨hn, hse, hc, hrc, hso, hw, hL, hF, hF1, hNW, hNL, hT, hWF, hNO⟩ := hI'
  refine lv_iconst (v := (nI 0)) hx hb d_X_find_0 (by decide +kernel) ?_
  refine lv_istore_n (lv' := [(3, .int (nI 0)), (0, .ref h0), (1, .long (lN n))]) hx hb d_X_find_1 rfl hl (by decide) rfl (fun ls hl => ?_)
  refine wg_loop (fun k _ _ _ H locs ls => (k ≤ I 3 0) ∧ va_P D wg_cl (wg_WX cJ cI h0 ad I) H ∧ va_S A s.heap H locs ∧ lv_has ls 4 [(0, .ref h0), (1, .long (lN n)), (3, .int (nI k))]) (fun k _ _ _ => I 3 0 - k) (fun k _z0 _z1 _J H locs ls hI ih2 => ?_) 0 0 0 (fun _ _ => 0) _ _ _ ⟨(by omega), hP, hS, lv_sub hl [1, 2, 0] rfl⟩
  obtain ⟨hk, hP, hS, hl⟩ := hI
  refine lv_iload_n hx hb d_X_find_2 rfl (lv_at hl 2 rfl) ?_
  refine lv_aload_n hx hb d_X_find_3 rfl (lv_at hl 0 rfl) ?_
  refine wg_gX hx hb hts hown hK hP 3 (by decide) (v := .int (nI (I 3 0))) kf_X_52 rfl d_X_find_4 ?_
  refine lv_icmp_ge (tgt := 29) hx hb d_X_find_7 (by decide) (fun h7 => ?_) (fun h7 => ?_)
  · rw [nI_leI (by omega) (by omega)] at h7
    refine lv_iconst (v := (-1)) hx hb d_X_find_29 (by decide +kernel) ?_
    exact W.iret (v := (-1)) hx hb hr (fun tt hth hW => ⟨⟨_, (), rfl, (fun _ => rfl), wg_h hth hP⟩, hS.F hth⟩) hS.2.2 d_X_find_30
  · rw [nI_leI (by omega) (by omega)] at h7
    refine lv_aload_n hx hb d_X_find_10 rfl (lv_at hl 0 rfl) ?_
    refine wg_gX hx hb hts hown hK hP 0 (by decide) (v := .ref (ad 0)) kf_X_9 rfl d_X_find_11 ?_
    refine lv_iload_n hx hb d_X_find_14 rfl (lv_at hl 2 rfl) ?_
    refine wg_lld (f := I 0) (j := k) hx hb hK hP 1 rfl (by omega) (by decide) d_X_find_15 ?_
    refine lv_lload_n hx hb d_X_find_16 rfl (lv_at hl 1 rfl) ?_
    refine W.lcmp hx hb d_X_find_17 ?_
    refine lv_if_ne (tgt := 23) hx hb d_X_find_18 (by decide) (fun h18 => ?_) (fun h18 => ?_)
    · rw [lg_cmp_eq] at h18
      refine lv_iinc (v := nI (k + 1)) (k := 2) (lv' := [(3, .int (nI (k + 1))), (0, .ref h0), (1, .long (lN n))]) hx hb d_X_find_23 hl rfl (nI_1 _) (by decide) rfl (fun ls hl => ?_)
      refine lv_goto (tgt := 2) hx hb d_X_find_26 (by decide) ?_
      exact ih2 (k + 1) 0 0 (fun _ _ => 0) _ _ _ ⟨(by omega), hP, hS, lv_sub hl [1, 2, 0] rfl⟩ (by omega)
    · rw [lg_cmp_eq] at h18
      refine lv_iload_n hx hb d_X_find_21 rfl (lv_at hl 2 rfl) ?_
      exact W.iret (v := (nI k)) hx hb hr (fun tt hth hW => ⟨⟨_, (), rfl, (fun _ => by omega), wg_h hth hP⟩, hS.F hth⟩) hS.2.2 d_X_find_22
set_option maxHeartbeats 4000000 in
set_option maxRecDepth 100000 in
theorem c_X_beginsAs (l : Launch) (D : va_G) (cJ cI : ClassId) (h0 : Nat) (ad : Nat → Nat) (sz : Nat) (I : wg_S) (k : Nat) (f : Nat) (t : Nat) (hk : k < 48) (hf : f < 48) (ht : t ≤ 12) (hI : wg_XI I) : Met l y_X_beginsAs (wg_ws y_X_beginsAs b_X_beginsAs 4 (some .boolean)) ({ frames := 0, cells := 0, slots := 0, locals := 0 }) (va_Pc [.ref h0, .int (nI k), .int (nI f), .int (nI t)] (wg_Pc D cJ cI (wg_WX cJ cI h0 ad I) sz)) (va_Qi (fun (r : Int32) (u : Unit) => (r = nI 1 ∧ (I 0 k ^^^ I 0 f) / 2 ^ (60 - 5 * t) = 0) ∨ (r = nI 0 ∧ ¬ (I 0 k ^^^ I 0 f) / 2 ^ (60 - 5 * t) = 0)) (fun (_ : Unit) t => va_P D wg_cl (wg_WX cJ cI h0 ad I) t.heap) (va_A (wg_WX cJ cI h0 ad I) sz)) 0 0 (va_A (wg_WX cJ cI h0 ad I) sz) := by
  refine wg_head (Wd := (fun I => wg_WX cJ cI h0 ad I)) (I := I) (fun A => va_Qi (fun (r : Int32) (u : Unit) => (r = nI 1 ∧ (I 0 k ^^^ I 0 f) / 2 ^ (60 - 5 * t) = 0) ∨ (r = nI 0 ∧ ¬ (I 0 k ^^^ I 0 f) / 2 ^ (60 - 5 * t) = 0)) (fun (_ : Unit) t => va_P D wg_cl (wg_WX cJ cI h0 ad I) t.heap) A) R_X (by decide) rfl (Nat.le_of_ble_eq_true rfl) (fun I J => wg_same_X I J) ?_
  intro p e s m below meth c A ls hx hb hr hlk hml hown hnm hts hA hK hD hP hS hl hsz
  clear hsz
  have hl : lv_has ls 4 [(0, .ref h0), (1, .int (nI k)), (2, .int (nI f)), (3, .int (nI t))] := hl
  have hP : va_P D wg_cl (wg_WX cJ cI h0 ad I) s.heap := hP
  skip
  have hI' := hI
  obtain ⟨hn, hse, hc, hrc, hso, hw, hL, hF, hF1, hNW, hNL, hT, hWF, hNO⟩ := hI'
  refine lv_aload_n hx hb d_X_beginsAs_0 rfl (lv_at hl 0 rfl) ?_
  refine wg_gX hx hb hts hown hK hP 0 (by decide) (v := .ref (ad 0)) kf_X_9 rfl d_X_beginsAs_1 ?_
  refine lv_iload_n hx hb d_X_beginsAs_4 rfl (lv_at hl 1 rfl) ?_
  refine wg_lld (f := I 0) (j := k) hx hb hK hP 1 rfl (by omega) (by decide) d_X_beginsAs_5 ?_
  have hB5 := hw k (by omega)
  refine lv_aload_n hx hb d_X_beginsAs_6 rfl (lv_at hl 0 rfl) ?_
  refine wg_gX hx hb hts hown hK hP 0 (by decide) (v := .ref (ad 0)) kf_X_9 rfl d_X_beginsAs_7 ?_
  refine lv_iload_n hx hb d_X_beginsAs_10 rfl (lv_at hl 2 rfl) ?_
  refine wg_lld (f := I 0) (j := f) hx hb hK hP 1 rfl (by omega) (by decide) d_X_beginsAs_11 ?_
  have hB11 := hw f (by omega)
  refine t_lxor (v := lN ((I 0 k) ^^^ (I 0 f))) hx hb d_X_beginsAs_12 (wg_lxor (by omega) (by omega)) ?_
  refine lv_bipush (v := (nI 60)) hx hb d_X_beginsAs_13 (by decide +kernel) ?_
  refine lv_iconst (v := (nI 5)) hx hb d_X_beginsAs_15 (by decide +kernel) ?_
  refine lv_iload_n hx hb d_X_beginsAs_16 rfl (lv_at hl 3 rfl) ?_
  refine t_imul (v := nI (5 * t)) hx hb d_X_beginsAs_17 (pk_mul _ _) ?_
  refine t_isub (v := nI (60 - (5 * t))) hx hb d_X_beginsAs_18 (pk_sub (by omega)) ?_
  refine lv_lushr (v := lN (((I 0 k) ^^^ (I 0 f)) / 2 ^ (60 - (5 * t)))) hx hb d_X_beginsAs_19 (wb_shr (by have := wg_xor64 (hw k hk) (hw f hf); omega) (by omega)) ?_
  refine lv_lconst (v := lN 0) hx hb d_X_beginsAs_20 (by decide +kernel) ?_
  refine W.lcmp hx hb d_X_beginsAs_21 ?_
  refine lv_if_ne (tgt := 29) hx hb d_X_beginsAs_22 (by decide) (fun h22 => ?_) (fun h22 => ?_)
  · rw [lg_cmp_eq] at h22
    rw [pk_lEQ (by exact Nat.lt_of_le_of_lt (Nat.div_le_self _ _) (Nat.lt_trans (wg_xor64 (hw k hk) (hw f hf)) (by decide))) (by decide)] at h22
    refine lv_iconst (v := (nI 0)) hx hb d_X_beginsAs_29 (by decide +kernel) ?_
    exact W.zret (ty := .boolean) (v := (nI 0)) hx hb hr (by decide +kernel) (fun tt hth hW => ⟨⟨_, (), rfl, (Or.inr ⟨rfl, h22⟩), wg_h hth hP⟩, hS.F hth⟩) hS.2.2 d_X_beginsAs_30
  · rw [lg_cmp_eq] at h22
    rw [pk_lEQ (by exact Nat.lt_of_le_of_lt (Nat.div_le_self _ _) (Nat.lt_trans (wg_xor64 (hw k hk) (hw f hf)) (by decide))) (by decide)] at h22
    refine lv_iconst (v := (nI 1)) hx hb d_X_beginsAs_25 (by decide +kernel) ?_
    refine lv_goto (tgt := 30) hx hb d_X_beginsAs_26 (by decide) ?_
    exact W.zret (ty := .boolean) (v := (nI 1)) hx hb hr (by decide +kernel) (fun tt hth hW => ⟨⟨_, (), rfl, (Or.inl ⟨rfl, h22⟩), wg_h hth hP⟩, hS.F hth⟩) hS.2.2 d_X_beginsAs_30
