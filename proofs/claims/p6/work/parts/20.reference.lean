set_option maxHeartbeats 4000000 in
set_option maxRecDepth 100000 in
theorem c_M_letter (l : Launch) (D : va_G) (cJ cI : ClassId) (sz : Nat) (n : Nat) (i : Nat) (hn : n < 2 ^ 63) (hi : i < 12) : Met l y_M_letter (wg_ws y_M_letter b_M_letter 3 (some .int)) ({ frames := 0, cells := 0, slots := 0, locals := 0 }) (va_Pc [.long (lN n), .int (nI i)] (wg_Pc D cJ cI (wg_W0 fun _ _ => 0) sz)) (va_Qi (fun (r : Int32) (u : Unit) => r = nI (wg_lt n i)) (fun (_ : Unit) _ => True) (va_A (wg_W0 fun _ _ => 0) sz)) 0 0 (va_A (wg_W0 fun _ _ => 0) sz) := by
  refine wg_head (Wd := wg_W0) (I := (fun _ _ => 0)) (fun A => va_Qi (fun (r : Int32) (u : Unit) => r = nI (wg_lt n i)) (fun (_ : Unit) _ => True) A) R_M (by decide) rfl (Nat.le_of_ble_eq_true rfl) wg_same_0 ?_
  intro p e s m below meth c A ls hx hb hr hlk hml hown hnm hts hA hK hD hP hS hl hsz
  clear hsz
  have hl : lv_has ls 3 [(0, .long (lN n)), (2, .int (nI i))] := hl
  have hP : va_P D wg_cl (wg_W0 fun _ _ => 0) s.heap := hP
  skip
  refine lv_lload_n hx hb d_M_letter_0 rfl (lv_at hl 0 rfl) ?_
  refine lv_bipush (v := (nI 55)) hx hb d_M_letter_1 (by decide +kernel) ?_
  refine lv_iconst (v := (nI 5)) hx hb d_M_letter_3 (by decide +kernel) ?_
  refine lv_iload_n hx hb d_M_letter_4 rfl (lv_at hl 1 rfl) ?_
  refine t_imul (v := nI (5 * i)) hx hb d_M_letter_5 (pk_mul _ _) ?_
  refine t_isub (v := nI (55 - (5 * i))) hx hb d_M_letter_6 (pk_sub (by omega)) ?_
  refine lv_lshr (v := lN (n / 2 ^ (55 - (5 * i)))) hx hb d_M_letter_7 (wg_lshr (by omega) (by omega)) ?_
  refine lv_l2i (v := nI (n / 2 ^ (55 - (5 * i)))) hx hb d_M_letter_8 (lN_i _) ?_
  refine lv_bipush (v := (nI 31)) hx hb d_M_letter_9 (by decide +kernel) ?_
  refine t_iand (v := nI ((n / 2 ^ (55 - (5 * i))) % 32)) hx hb d_M_letter_11 (wg_and31 _) ?_
  exact W.iret (v := (nI ((n / 2 ^ (55 - (5 * i))) % 32))) hx hb hr (fun tt hth hW => ⟨⟨_, (), rfl, rfl, trivial⟩, hS.F hth⟩) hS.2.2 d_M_letter_12
set_option maxHeartbeats 4000000 in
set_option maxRecDepth 100000 in
theorem c_M_length (l : Launch) (D : va_G) (cJ cI : ClassId) (sz : Nat) (n : Nat) (hn : n < 2 ^ 63) : Met l y_M_length (wg_ws y_M_length b_M_length 4 (some .int)) ({ frames := 1, cells := 0, slots := 0, locals := 22 }) (va_Pc [.long (lN n)] (wg_Pc D cJ cI (wg_W0 fun _ _ => 0) sz)) (va_Qi (fun (r : Int32) (u : Unit) => r = nI (wg_ln n)) (fun (_ : Unit) _ => True) (va_A (wg_W0 fun _ _ => 0) sz)) 0 0 (va_A (wg_W0 fun _ _ => 0) sz) := by
  refine wg_head (Wd := wg_W0) (I := (fun _ _ => 0)) (fun A => va_Qi (fun (r : Int32) (u : Unit) => r = nI (wg_ln n)) (fun (_ : Unit) _ => True) A) R_M (by decide) rfl (Nat.le_of_ble_eq_true rfl) wg_same_0 ?_
  intro p e s m below meth c A ls hx hb hr hlk hml hown hnm hts hA hK hD hP hS hl hsz
  clear hsz
  have hl : lv_has ls 4 [(0, .long (lN n))] := hl
  have hP : va_P D wg_cl (wg_W0 fun _ _ => 0) s.heap := hP
  skip
  refine lv_iconst (v := (nI 0)) hx hb d_M_length_0 (by decide +kernel) ?_
  refine lv_istore_n (lv' := [(2, .int (nI 0)), (0, .long (lN n))]) hx hb d_M_length_1 rfl hl (by decide) rfl (fun ls hl => ?_)
  refine lv_iconst (v := (nI 0)) hx hb d_M_length_2 (by decide +kernel) ?_
  refine lv_istore_n (lv' := [(3, .int (nI 0)), (2, .int (nI 0)), (0, .long (lN n))]) hx hb d_M_length_3 rfl hl (by decide) rfl (fun ls hl => ?_)
  refine wg_loop (fun i cc _ _ H locs ls => (i ≤ 12) ∧ (cc = wg_cn n i) ∧ va_P D wg_cl (wg_W0 fun _ _ => 0) H ∧ va_S A s.heap H locs ∧ lv_has ls 4 [(0, .long (lN n)), (2, .int (nI cc)), (3, .int (nI i))]) (fun i cc _ _ => 12 - i) (fun i cc _z0 _J H locs ls hI ih4 => ?_) 0 0 0 (fun _ _ => 0) _ _ _ ⟨(by omega), rfl, hP, hS, lv_sub hl [2, 1, 0] rfl⟩
  obtain ⟨hi, hcc, hP, hS, hl⟩ := hI
  have hcl := wg_cn_le n i
  refine lv_iload_n hx hb d_M_length_4 rfl (lv_at hl 2 rfl) ?_
  refine lv_bipush (v := (nI 12)) hx hb d_M_length_5 (by decide +kernel) ?_
  refine lv_icmp_ge (tgt := 28) hx hb d_M_length_7 (by decide) (fun h7 => ?_) (fun h7 => ?_)
  · rw [nI_leI (by omega) (by omega)] at h7
    have hi : i = 12 := by omega
    refine lv_iload_n hx hb d_M_length_28 rfl (lv_at hl 1 rfl) ?_
    exact W.iret (v := (nI cc)) hx hb hr (fun tt hth hW => ⟨⟨_, (), rfl, (by rw [hcc, hi]; rfl), trivial⟩, hS.F hth⟩) hS.2.2 d_M_length_29
  · rw [nI_leI (by omega) (by omega)] at h7
    refine lv_lload_n hx hb d_M_length_10 rfl (lv_at hl 0 rfl) ?_
    refine lv_iload_n hx hb d_M_length_11 rfl (lv_at hl 2 rfl) ?_
    refine wg_csi (As := [.long (lN n), .int (nI i)]) (rest := []) hx hb hml hown hts hK hP hS hA (c_M_letter l D cJ cI _ n i (by omega) (by omega)) kc_M_36 ⟨rfl, rfl⟩ ⟨Nat.le_of_ble_eq_true rfl, Nat.le_of_ble_eq_true rfl⟩ rfl hl.1 rfl (Nat.le_of_ble_eq_true rfl) d_M_length_12 ⟨Nat.zero_le _, Nat.zero_le _⟩ (fun r H locs q12 hP hS => ?_)
    obtain rfl := q12
    have hq12 := wg_lt_le n i
    refine lv_if_eq (tgt := 22) hx hb d_M_length_15 (by decide) (fun h15 => ?_) (fun h15 => ?_)
    · rw [wg_z0 (by omega)] at h15
      refine lv_iinc (v := nI (i + 1)) (k := 2) (lv' := [(3, .int (nI (i + 1))), (0, .long (lN n)), (2, .int (nI cc))]) hx hb d_M_length_22 hl rfl (nI_1 _) (by decide) rfl (fun ls hl => ?_)
      refine lv_goto (tgt := 4) hx hb d_M_length_25 (by decide) ?_
      exact ih4 (i + 1) cc 0 (fun _ _ => 0) _ _ _ ⟨(by omega), (by have := wg_cn_s n i; have := wg_cn_le n i; omega), hP, hS, lv_sub hl [1, 2, 0] rfl⟩ (by omega)
    · rw [wg_z0 (by omega)] at h15
      refine lv_iload_n hx hb d_M_length_18 rfl (lv_at hl 1 rfl) ?_
      refine lv_iconst (v := (nI 1)) hx hb d_M_length_19 (by decide +kernel) ?_
      refine t_iadd (v := nI (cc + 1)) hx hb d_M_length_20 (nI_add _ _) ?_
      refine lv_istore_n (lv' := [(2, .int (nI (cc + 1))), (0, .long (lN n)), (3, .int (nI i))]) hx hb d_M_length_21 rfl hl (by decide) rfl (fun ls hl => ?_)
      refine lv_iinc (v := nI (i + 1)) (k := 2) (lv' := [(3, .int (nI (i + 1))), (2, .int (nI (cc + 1))), (0, .long (lN n))]) hx hb d_M_length_22 hl rfl (nI_1 _) (by decide) rfl (fun ls hl => ?_)
      refine lv_goto (tgt := 4) hx hb d_M_length_25 (by decide) ?_
      exact ih4 (i + 1) (cc + 1) 0 (fun _ _ => 0) _ _ _ ⟨(by omega), (by have := wg_cn_s n i; have := wg_cn_le n i; omega), hP, hS, lv_sub hl [2, 1, 0] rfl⟩ (by omega)
set_option maxHeartbeats 4000000 in
set_option maxRecDepth 100000 in
theorem c_M_isWord (l : Launch) (D : va_G) (cJ cI : ClassId) (sz : Nat) (n : Nat) (hn : n < 2 ^ 64) : Met l y_M_isWord (wg_ws y_M_isWord b_M_isWord 3 (some .boolean)) ({ frames := 1, cells := 0, slots := 0, locals := 22 }) (va_Pc [.long (lN n)] (wg_Pc D cJ cI (wg_W0 fun _ _ => 0) sz)) (va_Qi (fun (r : Int32) (u : Unit) => (r = nI 1 ∧ wg_ok n) ∨ (r = nI 0 ∧ ¬ wg_ok n)) (fun (_ : Unit) _ => True) (va_A (wg_W0 fun _ _ => 0) sz)) 0 0 (va_A (wg_W0 fun _ _ => 0) sz) := by
  refine wg_head (Wd := wg_W0) (I := (fun _ _ => 0)) (fun A => va_Qi (fun (r : Int32) (u : Unit) => (r = nI 1 ∧ wg_ok n) ∨ (r = nI 0 ∧ ¬ wg_ok n)) (fun (_ : Unit) _ => True) A) R_M (by decide) rfl (Nat.le_of_ble_eq_true rfl) wg_same_0 ?_
  intro p e s m below meth c A ls hx hb hr hlk hml hown hnm hts hA hK hD hP hS hl hsz
  clear hsz
  have hl : lv_has ls 3 [(0, .long (lN n))] := hl
  have hP : va_P D wg_cl (wg_W0 fun _ _ => 0) s.heap := hP
  skip
  refine lv_lload_n hx hb d_M_isWord_0 rfl (lv_at hl 0 rfl) ?_
  refine lv_lconst (v := lN 0) hx hb d_M_isWord_1 (by decide +kernel) ?_
  refine W.lcmp hx hb d_M_isWord_2 ?_
  refine lv_if_lt (tgt := 15) hx hb d_M_isWord_3 (by decide) (fun h3 => ?_) (fun h3 => ?_)
  · rw [lg_cmp_lt] at h3
    rw [wg_lneg hn] at h3
    refine lv_iconst (v := (nI 0)) hx hb d_M_isWord_15 (by decide +kernel) ?_
    exact W.zret (ty := .boolean) (v := (nI 0)) hx hb hr (by decide +kernel) (fun tt hth hW => ⟨⟨_, (), rfl, (Or.inr ⟨rfl, fun q => by have := q.1; omega⟩), trivial⟩, hS.F hth⟩) hS.2.2 d_M_isWord_16
  · rw [lg_cmp_lt] at h3
    rw [wg_lneg hn] at h3
    refine lv_lload_n hx hb d_M_isWord_6 rfl (lv_at hl 0 rfl) ?_
    refine lv_bipush (v := (nI 60)) hx hb d_M_isWord_7 (by decide +kernel) ?_
    refine lv_lshr (v := lN (n / 2 ^ 60)) hx hb d_M_isWord_9 (wg_lshr (by omega) (by omega)) ?_
    refine lv_lconst (v := lN 0) hx hb d_M_isWord_10 (by decide +kernel) ?_
    refine W.lcmp hx hb d_M_isWord_11 ?_
    refine lv_if_eq (tgt := 17) hx hb d_M_isWord_12 (by decide) (fun h12 => ?_) (fun h12 => ?_)
    · rw [lg_cmp_eq] at h12
      rw [pk_lEQ (by omega) (by omega)] at h12
      refine lv_iconst (v := (nI 0)) hx hb d_M_isWord_17 (by decide +kernel) ?_
      refine lv_istore_n (lv' := [(2, .int (nI 0)), (0, .long (lN n))]) hx hb d_M_isWord_18 rfl hl (by decide) rfl (fun ls hl => ?_)
      refine wg_loop (fun i _ _ _ H locs ls => (i ≤ 12) ∧ (∀ j, j < i → wg_lt n j ≤ 26 ∧ (0 < j → ¬ wg_lt n j = 0 → ¬ wg_lt n (j - 1) = 0)) ∧ va_P D wg_cl (wg_W0 fun _ _ => 0) H ∧ va_S A s.heap H locs ∧ lv_has ls 3 [(0, .long (lN n)), (2, .int (nI i))]) (fun i _ _ _ => 12 - i) (fun i _z0 _z1 _J H locs ls hI ih19 => ?_) 0 0 0 (fun _ _ => 0) _ _ _ ⟨(by omega), (fun j h => by omega), hP, hS, lv_sub hl [1, 0] rfl⟩
      obtain ⟨hi, hbb, hP, hS, hl⟩ := hI
      refine lv_iload_n hx hb d_M_isWord_19 rfl (lv_at hl 1 rfl) ?_
      refine lv_bipush (v := (nI 12)) hx hb d_M_isWord_20 (by decide +kernel) ?_
      refine lv_icmp_ge (tgt := 67) hx hb d_M_isWord_22 (by decide) (fun h22 => ?_) (fun h22 => ?_)
      · rw [nI_leI (by omega) (by omega)] at h22
        have hi : i = 12 := by omega
        refine lv_iconst (v := (nI 1)) hx hb d_M_isWord_67 (by decide +kernel) ?_
        exact W.zret (ty := .boolean) (v := (nI 1)) hx hb hr (by decide +kernel) (fun tt hth hW => ⟨⟨_, (), rfl, (Or.inl ⟨rfl, by omega, by rw [← hi]; exact hbb⟩), trivial⟩, hS.F hth⟩) hS.2.2 d_M_isWord_68
      · rw [nI_leI (by omega) (by omega)] at h22
        refine lv_lload_n hx hb d_M_isWord_25 rfl (lv_at hl 0 rfl) ?_
        refine lv_iload_n hx hb d_M_isWord_26 rfl (lv_at hl 1 rfl) ?_
        refine wg_csi (As := [.long (lN n), .int (nI i)]) (rest := []) hx hb hml hown hts hK hP hS hA (c_M_letter l D cJ cI _ n i (by omega) (by omega)) kc_M_36 ⟨rfl, rfl⟩ ⟨Nat.le_of_ble_eq_true rfl, Nat.le_of_ble_eq_true rfl⟩ rfl hl.1 rfl (Nat.le_of_ble_eq_true rfl) d_M_isWord_27 ⟨Nat.zero_le _, Nat.zero_le _⟩ (fun r H locs q27 hP hS => ?_)
        obtain rfl := q27
        have hq27 := wg_lt_le n i
        refine lv_bipush (v := (nI 26)) hx hb d_M_isWord_30 (by decide +kernel) ?_
        refine lv_icmp_le (tgt := 37) hx hb d_M_isWord_32 (by decide) (fun h32 => ?_) (fun h32 => ?_)
        · rw [nI_leI (by omega) (by omega)] at h32
          refine lv_iload_n hx hb d_M_isWord_37 rfl (lv_at hl 1 rfl) ?_
          refine lv_if_le (tgt := 61) hx hb d_M_isWord_38 (by decide) (fun h38 => ?_) (fun h38 => ?_)
          · rw [wg_le0 (by omega)] at h38
            refine lv_iinc (v := nI (i + 1)) (k := 1) (lv' := [(2, .int (nI (i + 1))), (0, .long (lN n))]) hx hb d_M_isWord_61 hl rfl (nI_1 _) (by decide) rfl (fun ls hl => ?_)
            refine lv_goto (tgt := 19) hx hb d_M_isWord_64 (by decide) ?_
            exact ih19 (i + 1) 0 0 (fun _ _ => 0) _ _ _ ⟨(by omega), (fun j h => by rcases Nat.lt_succ_iff_lt_or_eq.mp h with h | rfl; exact hbb j h; exact ⟨by omega, fun h0 hne => by first | omega | assumption⟩), hP, hS, lv_sub hl [1, 0] rfl⟩ (by omega)
          · rw [wg_le0 (by omega)] at h38
            refine lv_lload_n hx hb d_M_isWord_41 rfl (lv_at hl 0 rfl) ?_
            refine lv_iload_n hx hb d_M_isWord_42 rfl (lv_at hl 1 rfl) ?_
            refine wg_csi (As := [.long (lN n), .int (nI i)]) (rest := []) hx hb hml hown hts hK hP hS hA (c_M_letter l D cJ cI _ n i (by omega) (by omega)) kc_M_36 ⟨rfl, rfl⟩ ⟨Nat.le_of_ble_eq_true rfl, Nat.le_of_ble_eq_true rfl⟩ rfl hl.1 rfl (Nat.le_of_ble_eq_true rfl) d_M_isWord_43 ⟨Nat.zero_le _, Nat.zero_le _⟩ (fun r H locs q43 hP hS => ?_)
            obtain rfl := q43
            have hq43 := wg_lt_le n i
            refine lv_if_eq (tgt := 61) hx hb d_M_isWord_46 (by decide) (fun h46 => ?_) (fun h46 => ?_)
            · rw [wg_z0 (by omega)] at h46
              refine lv_iinc (v := nI (i + 1)) (k := 1) (lv' := [(2, .int (nI (i + 1))), (0, .long (lN n))]) hx hb d_M_isWord_61 hl rfl (nI_1 _) (by decide) rfl (fun ls hl => ?_)
              refine lv_goto (tgt := 19) hx hb d_M_isWord_64 (by decide) ?_
              exact ih19 (i + 1) 0 0 (fun _ _ => 0) _ _ _ ⟨(by omega), (fun j h => by rcases Nat.lt_succ_iff_lt_or_eq.mp h with h | rfl; exact hbb j h; exact ⟨by omega, fun h0 hne => by first | omega | assumption⟩), hP, hS, lv_sub hl [1, 0] rfl⟩ (by omega)
            · rw [wg_z0 (by omega)] at h46
              refine lv_lload_n hx hb d_M_isWord_49 rfl (lv_at hl 0 rfl) ?_
              refine lv_iload_n hx hb d_M_isWord_50 rfl (lv_at hl 1 rfl) ?_
              refine lv_iconst (v := (nI 1)) hx hb d_M_isWord_51 (by decide +kernel) ?_
              refine t_isub (v := nI (i - 1)) hx hb d_M_isWord_52 (pk_sub (by omega)) ?_
              refine wg_csi (As := [.long (lN n), .int (nI (i - 1))]) (rest := []) hx hb hml hown hts hK hP hS hA (c_M_letter l D cJ cI _ n (i - 1) (by omega) (by omega)) kc_M_36 ⟨rfl, rfl⟩ ⟨Nat.le_of_ble_eq_true rfl, Nat.le_of_ble_eq_true rfl⟩ rfl hl.1 rfl (Nat.le_of_ble_eq_true rfl) d_M_isWord_53 ⟨Nat.zero_le _, Nat.zero_le _⟩ (fun r H locs q53 hP hS => ?_)
              obtain rfl := q53
              have hq53 := wg_lt_le n (i - 1)
              refine lv_if_ne (tgt := 61) hx hb d_M_isWord_56 (by decide) (fun h56 => ?_) (fun h56 => ?_)
              · rw [wg_z0 (by omega)] at h56
                refine lv_iinc (v := nI (i + 1)) (k := 1) (lv' := [(2, .int (nI (i + 1))), (0, .long (lN n))]) hx hb d_M_isWord_61 hl rfl (nI_1 _) (by decide) rfl (fun ls hl => ?_)
                refine lv_goto (tgt := 19) hx hb d_M_isWord_64 (by decide) ?_
                exact ih19 (i + 1) 0 0 (fun _ _ => 0) _ _ _ ⟨(by omega), (fun j h => by rcases Nat.lt_succ_iff_lt_or_eq.mp h with h | rfl; exact hbb j h; exact ⟨by omega, fun h0 hne => by first | omega | assumption⟩), hP, hS, lv_sub hl [1, 0] rfl⟩ (by omega)
              · rw [wg_z0 (by omega)] at h56
                refine lv_iconst (v := (nI 0)) hx hb d_M_isWord_59 (by decide +kernel) ?_
                exact W.zret (ty := .boolean) (v := (nI 0)) hx hb hr (by decide +kernel) (fun tt hth hW => ⟨⟨_, (), rfl, (Or.inr ⟨rfl, fun q => (q.2 i (by omega)).2 (by omega) (by assumption) (by assumption)⟩), trivial⟩, hS.F hth⟩) hS.2.2 d_M_isWord_60
        · rw [nI_leI (by omega) (by omega)] at h32
          refine lv_iconst (v := (nI 0)) hx hb d_M_isWord_35 (by decide +kernel) ?_
          exact W.zret (ty := .boolean) (v := (nI 0)) hx hb hr (by decide +kernel) (fun tt hth hW => ⟨⟨_, (), rfl, (Or.inr ⟨rfl, fun q => by have := (q.2 i (by omega)).1; omega⟩), trivial⟩, hS.F hth⟩) hS.2.2 d_M_isWord_36
    · rw [lg_cmp_eq] at h12
      rw [pk_lEQ (by omega) (by omega)] at h12
      refine lv_iconst (v := (nI 0)) hx hb d_M_isWord_15 (by decide +kernel) ?_
      exact W.zret (ty := .boolean) (v := (nI 0)) hx hb hr (by decide +kernel) (fun tt hth hW => ⟨⟨_, (), rfl, (Or.inr ⟨rfl, fun q => by have := q.1; omega⟩), trivial⟩, hS.F hth⟩) hS.2.2 d_M_isWord_16
set_option maxHeartbeats 4000000 in
set_option maxRecDepth 100000 in
theorem c_M_size (l : Launch) (D : va_G) (cJ cI : ClassId) (h0 : Nat) (ad : Nat → Nat) (sz : Nat) (I : wg_S) : Met l y_M_size (wg_ws y_M_size b_M_size 1 (some .int)) ({ frames := 0, cells := 0, slots := 0, locals := 0 }) (va_Pc [.ref h0] (wg_Pc D cJ cI (wg_WM cJ cI h0 ad I) sz)) (va_Qi (fun (r : Int32) (u : Unit) => r = nI (I 1 0)) (fun (_ : Unit) t => va_P D wg_cl (wg_WM cJ cI h0 ad I) t.heap) (va_A (wg_WM cJ cI h0 ad I) sz)) 0 0 (va_A (wg_WM cJ cI h0 ad I) sz) := by
  refine wg_head (Wd := (fun I => wg_WM cJ cI h0 ad I)) (I := I) (fun A => va_Qi (fun (r : Int32) (u : Unit) => r = nI (I 1 0)) (fun (_ : Unit) t => va_P D wg_cl (wg_WM cJ cI h0 ad I) t.heap) A) R_M (by decide) rfl (Nat.le_of_ble_eq_true rfl) (fun I J => wg_same_M I J) ?_
  intro p e s m below meth c A ls hx hb hr hlk hml hown hnm hts hA hK hD hP hS hl hsz
  clear hsz
  have hl : lv_has ls 1 [(0, .ref h0)] := hl
  have hP : va_P D wg_cl (wg_WM cJ cI h0 ad I) s.heap := hP
  skip
  refine lv_aload_n hx hb d_M_size_0 rfl (lv_at hl 0 rfl) ?_
  refine wg_gM hx hb hts hown hK hP 1 (by decide) (v := .int (nI (I 1 0))) kf_M_32 rfl d_M_size_1 ?_
  exact W.iret (v := (nI (I 1 0))) hx hb hr (fun tt hth hW => ⟨⟨_, (), rfl, rfl, wg_h hth hP⟩, hS.F hth⟩) hS.2.2 d_M_size_4
set_option maxHeartbeats 4000000 in
set_option maxRecDepth 100000 in
theorem c_M_nodes (l : Launch) (D : va_G) (cJ cI : ClassId) (h0 : Nat) (ad : Nat → Nat) (sz : Nat) (I : wg_S) (hI : wg_MI I) : Met l y_M_nodes (wg_ws y_M_nodes b_M_nodes 1 (some .int)) ({ frames := 0, cells := 0, slots := 0, locals := 0 }) (va_Pc [.ref h0] (wg_Pc D cJ cI (wg_WM cJ cI h0 ad I) sz)) (va_Qi (fun (r : Int32) (u : Unit) => (¬ I 2 0 = 0 ∧ r = nI (I 9 0)) ∨ (I 2 0 = 0 ∧ r = nI 0)) (fun (_ : Unit) t => va_P D wg_cl (wg_WM cJ cI h0 ad I) t.heap) (va_A (wg_WM cJ cI h0 ad I) sz)) 0 0 (va_A (wg_WM cJ cI h0 ad I) sz) := by
  refine wg_head (Wd := (fun I => wg_WM cJ cI h0 ad I)) (I := I) (fun A => va_Qi (fun (r : Int32) (u : Unit) => (¬ I 2 0 = 0 ∧ r = nI (I 9 0)) ∨ (I 2 0 = 0 ∧ r = nI 0)) (fun (_ : Unit) t => va_P D wg_cl (wg_WM cJ cI h0 ad I) t.heap) A) R_M (by decide) rfl (Nat.le_of_ble_eq_true rfl) (fun I J => wg_same_M I J) ?_
  intro p e s m below meth c A ls hx hb hr hlk hml hown hnm hts hA hK hD hP hS hl hsz
  clear hsz
  have hl : lv_has ls 1 [(0, .ref h0)] := hl
  have hP : va_P D wg_cl (wg_WM cJ cI h0 ad I) s.heap := hP
  skip
  have hI' := hI
  obtain ⟨hn, hse, hfd, hnd, hw, hOW, hOL⟩ := hI'
  refine lv_aload_n hx hb d_M_nodes_0 rfl (lv_at hl 0 rfl) ?_
  refine wg_gM hx hb hts hown hK hP 2 (by decide) (v := .int (nI (I 2 0))) kf_M_40 rfl d_M_nodes_1 ?_
  refine lv_if_eq (tgt := 14) hx hb d_M_nodes_4 (by decide) (fun h4 => ?_) (fun h4 => ?_)
  · rw [wg_z0 (by omega)] at h4
    refine lv_iconst (v := (nI 0)) hx hb d_M_nodes_14 (by decide +kernel) ?_
    exact W.iret (v := (nI 0)) hx hb hr (fun tt hth hW => ⟨⟨_, (), rfl, (Or.inr ⟨h4, rfl⟩), wg_h hth hP⟩, hS.F hth⟩) hS.2.2 d_M_nodes_15
  · rw [wg_z0 (by omega)] at h4
    refine lv_aload_n hx hb d_M_nodes_7 rfl (lv_at hl 0 rfl) ?_
    refine wg_gM hx hb hts hown hK hP 9 (by decide) (v := .int (nI (I 9 0))) kf_M_60 rfl d_M_nodes_8 ?_
    refine lv_goto (tgt := 15) hx hb d_M_nodes_11 (by decide) ?_
    exact W.iret (v := (nI (I 9 0))) hx hb hr (fun tt hth hW => ⟨⟨_, (), rfl, (Or.inl ⟨h4, rfl⟩), wg_h hth hP⟩, hS.F hth⟩) hS.2.2 d_M_nodes_15
set_option maxHeartbeats 4000000 in
set_option maxRecDepth 100000 in
theorem c_M_clear (l : Launch) (D : va_G) (cJ cI : ClassId) (h0 : Nat) (ad : Nat → Nat) (sz : Nat) (I : wg_S) : Met l y_M_clear (wg_ws y_M_clear b_M_clear 1 none) ({ frames := 0, cells := 0, slots := 0, locals := 0 }) (va_Pc [.ref h0] (wg_Pc D cJ cI (wg_WM cJ cI h0 ad I) sz)) (va_Qv (fun (u : wg_S) => u = wg_st (wg_st (wg_st (wg_st I 2 0 0) 1 0 0) 3 0 0) 9 0 0) (fun (u : wg_S) t => va_P D wg_cl (wg_WM cJ cI h0 ad u) t.heap) (va_A (wg_WM cJ cI h0 ad I) sz)) 0 0 (va_A (wg_WM cJ cI h0 ad I) sz) := by
  refine wg_head (Wd := (fun I => wg_WM cJ cI h0 ad I)) (I := I) (fun A => va_Qv (fun (u : wg_S) => u = wg_st (wg_st (wg_st (wg_st I 2 0 0) 1 0 0) 3 0 0) 9 0 0) (fun (u : wg_S) t => va_P D wg_cl (wg_WM cJ cI h0 ad u) t.heap) A) R_M (by decide) rfl (Nat.le_of_ble_eq_true rfl) (fun I J => wg_same_M I J) ?_
  intro p e s m below meth c A ls hx hb hr hlk hml hown hnm hts hA hK hD hP hS hl hsz
  clear hsz
  have hl : lv_has ls 1 [(0, .ref h0)] := hl
  have hP : va_P D wg_cl (wg_WM cJ cI h0 ad I) s.heap := hP
  skip
  refine lv_aload_n hx hb d_M_clear_0 rfl (lv_at hl 0 rfl) ?_
  refine lv_iconst (v := (nI 0)) hx hb d_M_clear_1 (by decide +kernel) ?_
  refine wg_pM2 (v := 0) hx hb hts hown hK hP hD hS kf_M_40 (by decide +kernel) (by decide +kernel) d_M_clear_2 (fun H locs hP hS => ?_)
  refine lv_aload_n hx hb d_M_clear_5 rfl (lv_at hl 0 rfl) ?_
  refine lv_iconst (v := (nI 0)) hx hb d_M_clear_6 (by decide +kernel) ?_
  refine wg_pM1 (v := 0) hx hb hts hown hK hP hD hS kf_M_32 d_M_clear_7 (fun H locs hP hS => ?_)
  refine lv_aload_n hx hb d_M_clear_10 rfl (lv_at hl 0 rfl) ?_
  refine lv_iconst (v := (nI 0)) hx hb d_M_clear_11 (by decide +kernel) ?_
  refine wg_pM3 (v := 0) hx hb hts hown hK hP hD hS kf_M_70 d_M_clear_12 (fun H locs hP hS => ?_)
  refine lv_aload_n hx hb d_M_clear_15 rfl (lv_at hl 0 rfl) ?_
  refine lv_iconst (v := (nI 0)) hx hb d_M_clear_16 (by decide +kernel) ?_
  refine wg_pM9 (v := 0) hx hb hts hown hK hP hD hS kf_M_60 d_M_clear_17 (fun H locs hP hS => ?_)
  exact W.vret hx hb hr (fun tt hth hW => ⟨⟨(wg_st (wg_st (wg_st (wg_st I 2 0 0) 1 0 0) 3 0 0) 9 0 0), rfl, rfl, wg_h hth hP⟩, hS.F hth⟩) hS.2.2 d_M_clear_20
set_option maxHeartbeats 4000000 in
set_option maxRecDepth 100000 in
theorem c_M_word (l : Launch) (D : va_G) (cJ cI : ClassId) (h0 : Nat) (ad : Nat → Nat) (sz : Nat) (I : wg_S) (k : Int32) (hI : wg_MI I) : Met l y_M_word (wg_ws y_M_word b_M_word 2 (some .long)) ({ frames := 0, cells := 0, slots := 0, locals := 0 }) (va_Pc [.ref h0, .int k] (wg_Pc D cJ cI (wg_WM cJ cI h0 ad I) sz)) (va_Ql (fun (r : Int64) (u : Unit) => (∃ j, j < I 1 0 ∧ k = nI j ∧ r = lN (I 0 j)) ∨ ((∀ j, j < I 1 0 → ¬ k = nI j) ∧ r = -1)) (fun (_ : Unit) t => va_P D wg_cl (wg_WM cJ cI h0 ad I) t.heap) (va_A (wg_WM cJ cI h0 ad I) sz)) 0 0 (va_A (wg_WM cJ cI h0 ad I) sz) := by
  refine wg_head (Wd := (fun I => wg_WM cJ cI h0 ad I)) (I := I) (fun A => va_Ql (fun (r : Int64) (u : Unit) => (∃ j, j < I 1 0 ∧ k = nI j ∧ r = lN (I 0 j)) ∨ ((∀ j, j < I 1 0 → ¬ k = nI j) ∧ r = -1)) (fun (_ : Unit) t => va_P D wg_cl (wg_WM cJ cI h0 ad I) t.heap) A) R_M (by decide) rfl (Nat.le_of_ble_eq_true rfl) (fun I J => wg_same_M I J) ?_
  intro p e s m below meth c A ls hx hb hr hlk hml hown hnm hts hA hK hD hP hS hl hsz
  clear hsz
  have hl : lv_has ls 2 [(0, .ref h0), (1, .int k)] := hl
  have hP : va_P D wg_cl (wg_WM cJ cI h0 ad I) s.heap := hP
  skip
  have hI' := hI
  obtain ⟨hn, hse, hfd, hnd, hw, hOW, hOL⟩ := hI'
  refine lv_iload_n hx hb d_M_word_0 rfl (lv_at hl 1 rfl) ?_
  refine lv_if_lt (tgt := 21) hx hb d_M_word_1 (by decide) (fun h1 => ?_) (fun h1 => ?_)
  · refine lv_ldc2 (v := (-1)) hx hb hown (hts _ kl_M_73) d_M_word_21 ?_
    exact W.lret (v := (-1)) hx hb hr (fun tt hth hW => ⟨⟨_, (), rfl, (Or.inr ⟨by first | exact wg_has0a (by omega) h1 | exact wg_has0b (by omega) h9, rfl⟩), wg_h hth hP⟩, hS.F hth⟩) hS.2.2 d_M_word_24
  · refine lv_iload_n hx hb d_M_word_4 rfl (lv_at hl 1 rfl) ?_
    refine lv_aload_n hx hb d_M_word_5 rfl (lv_at hl 0 rfl) ?_
    refine wg_gM hx hb hts hown hK hP 1 (by decide) (v := .int (nI (I 1 0))) kf_M_32 rfl d_M_word_6 ?_
    refine lv_icmp_ge (tgt := 21) hx hb d_M_word_9 (by decide) (fun h9 => ?_) (fun h9 => ?_)
    · refine lv_ldc2 (v := (-1)) hx hb hown (hts _ kl_M_73) d_M_word_21 ?_
      exact W.lret (v := (-1)) hx hb hr (fun tt hth hW => ⟨⟨_, (), rfl, (Or.inr ⟨by first | exact wg_has0a (by omega) h1 | exact wg_has0b (by omega) h9, rfl⟩), wg_h hth hP⟩, hS.F hth⟩) hS.2.2 d_M_word_24
    · obtain ⟨j, hj, rfl⟩ := wg_has1 (by omega) h1 h9
      refine lv_aload_n hx hb d_M_word_12 rfl (lv_at hl 0 rfl) ?_
      refine wg_gM hx hb hts hown hK hP 0 (by decide) (v := .ref (ad 0)) kf_M_7 rfl d_M_word_13 ?_
      refine lv_iload_n hx hb d_M_word_16 rfl (lv_at hl 1 rfl) ?_
      refine wg_lld (f := I 0) (j := j) hx hb hK hP 1 rfl (by omega) (by decide) d_M_word_17 ?_
      have hB17 := hw j (by omega)
      refine lv_goto (tgt := 24) hx hb d_M_word_18 (by decide) ?_
      exact W.lret (v := (lN (I 0 j))) hx hb hr (fun tt hth hW => ⟨⟨_, (), rfl, (Or.inl ⟨j, hj, rfl, rfl⟩), wg_h hth hP⟩, hS.F hth⟩) hS.2.2 d_M_word_24
set_option maxHeartbeats 4000000 in
set_option maxRecDepth 100000 in
theorem c_M_result (l : Launch) (D : va_G) (cJ cI : ClassId) (h0 : Nat) (ad : Nat → Nat) (sz : Nat) (I : wg_S) (k : Int32) (hI : wg_MI I) : Met l y_M_result (wg_ws y_M_result b_M_result 2 (some .int)) ({ frames := 0, cells := 0, slots := 0, locals := 0 }) (va_Pc [.ref h0, .int k] (wg_Pc D cJ cI (wg_WM cJ cI h0 ad I) sz)) (va_Qi (fun (r : Int32) (u : Unit) => (∃ j, j < I 3 0 ∧ k = nI j ∧ r = nI (I 4 j)) ∨ ((∀ j, j < I 3 0 → ¬ k = nI j) ∧ r = -1)) (fun (_ : Unit) t => va_P D wg_cl (wg_WM cJ cI h0 ad I) t.heap) (va_A (wg_WM cJ cI h0 ad I) sz)) 0 0 (va_A (wg_WM cJ cI h0 ad I) sz) := by
  refine wg_head (Wd := (fun I => wg_WM cJ cI h0 ad I)) (I := I) (fun A => va_Qi (fun (r : Int32) (u : Unit) => (∃ j, j < I 3 0 ∧ k = nI j ∧ r = nI (I 4 j)) ∨ ((∀ j, j < I 3 0 → ¬ k = nI j) ∧ r = -1)) (fun (_ : Unit) t => va_P D wg_cl (wg_WM cJ cI h0 ad I) t.heap) A) R_M (by decide) rfl (Nat.le_of_ble_eq_true rfl) (fun I J => wg_same_M I J) ?_
  intro p e s m below meth c A ls hx hb hr hlk hml hown hnm hts hA hK hD hP hS hl hsz
  clear hsz
  have hl : lv_has ls 2 [(0, .ref h0), (1, .int k)] := hl
  have hP : va_P D wg_cl (wg_WM cJ cI h0 ad I) s.heap := hP
  skip
  have hI' := hI
  obtain ⟨hn, hse, hfd, hnd, hw, hOW, hOL⟩ := hI'
  refine lv_iload_n hx hb d_M_result_0 rfl (lv_at hl 1 rfl) ?_
  refine lv_if_lt (tgt := 21) hx hb d_M_result_1 (by decide) (fun h1 => ?_) (fun h1 => ?_)
  · refine lv_iconst (v := (-1)) hx hb d_M_result_21 (by decide +kernel) ?_
    exact W.iret (v := (-1)) hx hb hr (fun tt hth hW => ⟨⟨_, (), rfl, (Or.inr ⟨by first | exact wg_has0a (by omega) h1 | exact wg_has0b (by omega) h9, rfl⟩), wg_h hth hP⟩, hS.F hth⟩) hS.2.2 d_M_result_22
  · refine lv_iload_n hx hb d_M_result_4 rfl (lv_at hl 1 rfl) ?_
    refine lv_aload_n hx hb d_M_result_5 rfl (lv_at hl 0 rfl) ?_
    refine wg_gM hx hb hts hown hK hP 3 (by decide) (v := .int (nI (I 3 0))) kf_M_70 rfl d_M_result_6 ?_
    refine lv_icmp_ge (tgt := 21) hx hb d_M_result_9 (by decide) (fun h9 => ?_) (fun h9 => ?_)
    · refine lv_iconst (v := (-1)) hx hb d_M_result_21 (by decide +kernel) ?_
      exact W.iret (v := (-1)) hx hb hr (fun tt hth hW => ⟨⟨_, (), rfl, (Or.inr ⟨by first | exact wg_has0a (by omega) h1 | exact wg_has0b (by omega) h9, rfl⟩), wg_h hth hP⟩, hS.F hth⟩) hS.2.2 d_M_result_22
    · obtain ⟨j, hj, rfl⟩ := wg_has1 (by omega) h1 h9
      refine lv_aload_n hx hb d_M_result_12 rfl (lv_at hl 0 rfl) ?_
      refine wg_gM hx hb hts hown hK hP 4 (by decide) (v := .ref (ad 4)) kf_M_13 rfl d_M_result_13 ?_
      refine lv_iload_n hx hb d_M_result_16 rfl (lv_at hl 1 rfl) ?_
      refine wg_ild (f := I 4) (j := j) hx hb hK hP 2 rfl (by omega) (by decide) d_M_result_17 ?_
      refine lv_goto (tgt := 22) hx hb d_M_result_18 (by decide) ?_
      exact W.iret (v := (nI (I 4 j))) hx hb hr (fun tt hth hW => ⟨⟨_, (), rfl, (Or.inl ⟨j, hj, rfl, rfl⟩), wg_h hth hP⟩, hS.F hth⟩) hS.2.2 d_M_result_22
set_option maxHeartbeats 4000000 in
set_option maxRecDepth 100000 in
theorem c_M_far (l : Launch) (D : va_G) (cJ cI : ClassId) (h0 : Nat) (ad : Nat → Nat) (sz : Nat) (I : wg_S) (k : Int32) (hI : wg_MI I) : Met l y_M_far (wg_ws y_M_far b_M_far 2 (some .int)) ({ frames := 0, cells := 0, slots := 0, locals := 0 }) (va_Pc [.ref h0, .int k] (wg_Pc D cJ cI (wg_WM cJ cI h0 ad I) sz)) (va_Qi (fun (r : Int32) (u : Unit) => (∃ j, j < I 3 0 ∧ k = nI j ∧ r = nI (I 5 j)) ∨ ((∀ j, j < I 3 0 → ¬ k = nI j) ∧ r = -1)) (fun (_ : Unit) t => va_P D wg_cl (wg_WM cJ cI h0 ad I) t.heap) (va_A (wg_WM cJ cI h0 ad I) sz)) 0 0 (va_A (wg_WM cJ cI h0 ad I) sz) := by
  refine wg_head (Wd := (fun I => wg_WM cJ cI h0 ad I)) (I := I) (fun A => va_Qi (fun (r : Int32) (u : Unit) => (∃ j, j < I 3 0 ∧ k = nI j ∧ r = nI (I 5 j)) ∨ ((∀ j, j < I 3 0 → ¬ k = nI j) ∧ r = -1)) (fun (_ : Unit) t => va_P D wg_cl (wg_WM cJ cI h0 ad I) t.heap) A) R_M (by decide) rfl (Nat.le_of_ble_eq_true rfl) (fun I J => wg_same_M I J) ?_
  intro p e s m below meth c A ls hx hb hr hlk hml hown hnm hts hA hK hD hP hS hl hsz
  clear hsz
  have hl : lv_has ls 2 [(0, .ref h0), (1, .int k)] := hl
  have hP : va_P D wg_cl (wg_WM cJ cI h0 ad I) s.heap := hP
  skip
  have hI' := hI
  obtain ⟨hn, hse, hfd, hnd, hw, hOW, hOL⟩ := hI'
  refine lv_iload_n hx hb d_M_far_0 rfl (lv_at hl 1 rfl) ?_
  refine lv_if_lt (tgt := 21) hx hb d_M_far_1 (by decide) (fun h1 => ?_) (fun h1 => ?_)
  · refine lv_iconst (v := (-1)) hx hb d_M_far_21 (by decide +kernel) ?_
    exact W.iret (v := (-1)) hx hb hr (fun tt hth hW => ⟨⟨_, (), rfl, (Or.inr ⟨by first | exact wg_has0a (by omega) h1 | exact wg_has0b (by omega) h9, rfl⟩), wg_h hth hP⟩, hS.F hth⟩) hS.2.2 d_M_far_22
  · refine lv_iload_n hx hb d_M_far_4 rfl (lv_at hl 1 rfl) ?_
    refine lv_aload_n hx hb d_M_far_5 rfl (lv_at hl 0 rfl) ?_
    refine wg_gM hx hb hts hown hK hP 3 (by decide) (v := .int (nI (I 3 0))) kf_M_70 rfl d_M_far_6 ?_
    refine lv_icmp_ge (tgt := 21) hx hb d_M_far_9 (by decide) (fun h9 => ?_) (fun h9 => ?_)
    · refine lv_iconst (v := (-1)) hx hb d_M_far_21 (by decide +kernel) ?_
      exact W.iret (v := (-1)) hx hb hr (fun tt hth hW => ⟨⟨_, (), rfl, (Or.inr ⟨by first | exact wg_has0a (by omega) h1 | exact wg_has0b (by omega) h9, rfl⟩), wg_h hth hP⟩, hS.F hth⟩) hS.2.2 d_M_far_22
    · obtain ⟨j, hj, rfl⟩ := wg_has1 (by omega) h1 h9
      refine lv_aload_n hx hb d_M_far_12 rfl (lv_at hl 0 rfl) ?_
      refine wg_gM hx hb hts hown hK hP 5 (by decide) (v := .ref (ad 5)) kf_M_17 rfl d_M_far_13 ?_
      refine lv_iload_n hx hb d_M_far_16 rfl (lv_at hl 1 rfl) ?_
      refine wg_ild (f := I 5) (j := j) hx hb hK hP 3 rfl (by omega) (by decide) d_M_far_17 ?_
      refine lv_goto (tgt := 22) hx hb d_M_far_18 (by decide) ?_
      exact W.iret (v := (nI (I 5 j))) hx hb hr (fun tt hth hW => ⟨⟨_, (), rfl, (Or.inl ⟨j, hj, rfl, rfl⟩), wg_h hth hP⟩, hS.F hth⟩) hS.2.2 d_M_far_22
set_option maxHeartbeats 4000000 in
set_option maxRecDepth 100000 in
theorem c_M_find (l : Launch) (D : va_G) (cJ cI : ClassId) (h0 : Nat) (ad : Nat → Nat) (sz : Nat) (I : wg_S) (n : Nat) (hI : wg_MI I) : Met l y_M_find (wg_ws y_M_find b_M_find 4 (some .int)) ({ frames := 0, cells := 0, slots := 0, locals := 0 }) (va_Pc [.ref h0, .long (lN n)] (wg_Pc D cJ cI (wg_WM cJ cI h0 ad I) sz)) (va_Qi (fun (r : Int32) (u : Unit) => I 1 0 = 0 → r = -1) (fun (_ : Unit) t => va_P D wg_cl (wg_WM cJ cI h0 ad I) t.heap) (va_A (wg_WM cJ cI h0 ad I) sz)) 0 0 (va_A (wg_WM cJ cI h0 ad I) sz) := by
  refine wg_head (Wd := (fun I => wg_WM cJ cI h0 ad I)) (I := I) (fun A => va_Qi (fun (r : Int32) (u : Unit) => I 1 0 = 0 → r = -1) (fun (_ : Unit) t => va_P D wg_cl (wg_WM cJ cI h0 ad I) t.heap) A) R_M (by decide) rfl (Nat.le_of_ble_eq_true rfl) (fun I J => wg_same_M I J) ?_
  intro p e s m below meth c A ls hx hb hr hlk hml hown hnm hts hA hK hD hP hS hl hsz
  clear hsz
  have hl : lv_has ls 4 [(0, .ref h0), (1, .long (lN n))] := hl
  have hP : va_P D wg_cl (wg_WM cJ cI h0 ad I) s.heap := hP
  skip
  have hI' := hI
  obtain ⟨hn, hse, hfd, hnd, hw, hOW, hOL⟩ := hI'
  refine lv_iconst (v := (nI 0)) hx hb d_M_find_0 (by decide +kernel) ?_
  refine lv_istore_n (lv' := [(3, .int (nI 0)), (0, .ref h0), (1, .long (lN n))]) hx hb d_M_find_1 rfl hl (by decide) rfl (fun ls hl => ?_)
  refine wg_loop (fun k _ _ _ H locs ls => (k ≤ I 1 0) ∧ va_P D wg_cl (wg_WM cJ cI h0 ad I) H ∧ va_S A s.heap H locs ∧ lv_has ls 4 [(0, .ref h0), (1, .long (lN n)), (3, .int (nI k))]) (fun k _ _ _ => I 1 0 - k) (fun k _z0 _z1 _J H locs ls hI ih2 => ?_) 0 0 0 (fun _ _ => 0) _ _ _ ⟨(by omega), hP, hS, lv_sub hl [1, 2, 0] rfl⟩
  obtain ⟨hk, hP, hS, hl⟩ := hI
  refine lv_iload_n hx hb d_M_find_2 rfl (lv_at hl 2 rfl) ?_
  refine lv_aload_n hx hb d_M_find_3 rfl (lv_at hl 0 rfl) ?_
  refine wg_gM hx hb hts hown hK hP 1 (by decide) (v := .int (nI (I 1 0))) kf_M_32 rfl d_M_find_4 ?_
  refine lv_icmp_ge (tgt := 36) hx hb d_M_find_7 (by decide) (fun h7 => ?_) (fun h7 => ?_)
  · rw [nI_leI (by omega) (by omega)] at h7
    refine lv_iconst (v := (-1)) hx hb d_M_find_36 (by decide +kernel) ?_
    exact W.iret (v := (-1)) hx hb hr (fun tt hth hW => ⟨⟨_, (), rfl, (fun _ => rfl), wg_h hth hP⟩, hS.F hth⟩) hS.2.2 d_M_find_37
  · rw [nI_leI (by omega) (by omega)] at h7
    refine lv_aload_n hx hb d_M_find_10 rfl (lv_at hl 0 rfl) ?_
    refine wg_gM hx hb hts hown hK hP 2 (by decide) (v := .int (nI (I 2 0))) kf_M_40 rfl d_M_find_11 ?_
    refine lv_if_eq (tgt := 30) hx hb d_M_find_14 (by decide) (fun h14 => ?_) (fun h14 => ?_)
    · rw [wg_z0 (by omega)] at h14
      refine lv_iinc (v := nI (k + 1)) (k := 2) (lv' := [(3, .int (nI (k + 1))), (0, .ref h0), (1, .long (lN n))]) hx hb d_M_find_30 hl rfl (nI_1 _) (by decide) rfl (fun ls hl => ?_)
      refine lv_goto (tgt := 2) hx hb d_M_find_33 (by decide) ?_
      exact ih2 (k + 1) 0 0 (fun _ _ => 0) _ _ _ ⟨(by omega), hP, hS, lv_sub hl [1, 2, 0] rfl⟩ (by omega)
    · rw [wg_z0 (by omega)] at h14
      refine lv_aload_n hx hb d_M_find_17 rfl (lv_at hl 0 rfl) ?_
      refine wg_gM hx hb hts hown hK hP 0 (by decide) (v := .ref (ad 0)) kf_M_7 rfl d_M_find_18 ?_
      refine lv_iload_n hx hb d_M_find_21 rfl (lv_at hl 2 rfl) ?_
      refine wg_lld (f := I 0) (j := k) hx hb hK hP 1 rfl (by omega) (by decide) d_M_find_22 ?_
      refine lv_lload_n hx hb d_M_find_23 rfl (lv_at hl 1 rfl) ?_
      refine W.lcmp hx hb d_M_find_24 ?_
      refine lv_if_ne (tgt := 30) hx hb d_M_find_25 (by decide) (fun h25 => ?_) (fun h25 => ?_)
      · rw [lg_cmp_eq] at h25
        refine lv_iinc (v := nI (k + 1)) (k := 2) (lv' := [(3, .int (nI (k + 1))), (0, .ref h0), (1, .long (lN n))]) hx hb d_M_find_30 hl rfl (nI_1 _) (by decide) rfl (fun ls hl => ?_)
        refine lv_goto (tgt := 2) hx hb d_M_find_33 (by decide) ?_
        exact ih2 (k + 1) 0 0 (fun _ _ => 0) _ _ _ ⟨(by omega), hP, hS, lv_sub hl [1, 2, 0] rfl⟩ (by omega)
      · rw [lg_cmp_eq] at h25
        refine lv_iload_n hx hb d_M_find_28 rfl (lv_at hl 2 rfl) ?_
        exact W.iret (v := (nI k)) hx hb hr (fun tt hth hW => ⟨⟨_, (), rfl, (fun _ => by omega), wg_h hth hP⟩, hS.F hth⟩) hS.2.2 d_M_find_29
set_option maxHeartbeats 4000000 in
set_option maxRecDepth 100000 in
theorem c_M_isNode (l : Launch) (D : va_G) (cJ cI : ClassId) (h0 : Nat) (ad : Nat → Nat) (sz : Nat) (I : wg_S) (x : Int32) (hI : wg_MI I) : Met l y_M_isNode (wg_ws y_M_isNode b_M_isNode 2 (some .boolean)) ({ frames := 0, cells := 0, slots := 0, locals := 0 }) (va_Pc [.ref h0, .int x] (wg_Pc D cJ cI (wg_WM cJ cI h0 ad I) sz)) (va_Qi (fun (r : Int32) (u : Unit) => (r = nI 1 ∧ ¬ I 2 0 = 0 ∧ 0 < I 1 0 ∧ ∃ j, j < I 9 0 ∧ x = nI j) ∨ (r = nI 0 ∧ ¬ (¬ I 2 0 = 0 ∧ 0 < I 1 0 ∧ ∃ j, j < I 9 0 ∧ x = nI j))) (fun (_ : Unit) t => va_P D wg_cl (wg_WM cJ cI h0 ad I) t.heap) (va_A (wg_WM cJ cI h0 ad I) sz)) 0 0 (va_A (wg_WM cJ cI h0 ad I) sz) := by
  refine wg_head (Wd := (fun I => wg_WM cJ cI h0 ad I)) (I := I) (fun A => va_Qi (fun (r : Int32) (u : Unit) => (r = nI 1 ∧ ¬ I 2 0 = 0 ∧ 0 < I 1 0 ∧ ∃ j, j < I 9 0 ∧ x = nI j) ∨ (r = nI 0 ∧ ¬ (¬ I 2 0 = 0 ∧ 0 < I 1 0 ∧ ∃ j, j < I 9 0 ∧ x = nI j))) (fun (_ : Unit) t => va_P D wg_cl (wg_WM cJ cI h0 ad I) t.heap) A) R_M (by decide) rfl (Nat.le_of_ble_eq_true rfl) (fun I J => wg_same_M I J) ?_
  intro p e s m below meth c A ls hx hb hr hlk hml hown hnm hts hA hK hD hP hS hl hsz
  clear hsz
  have hl : lv_has ls 2 [(0, .ref h0), (1, .int x)] := hl
  have hP : va_P D wg_cl (wg_WM cJ cI h0 ad I) s.heap := hP
  skip
  have hI' := hI
  obtain ⟨hn, hse, hfd, hnd, hw, hOW, hOL⟩ := hI'
  refine lv_aload_n hx hb d_M_isNode_0 rfl (lv_at hl 0 rfl) ?_
  refine wg_gM hx hb hts hown hK hP 2 (by decide) (v := .int (nI (I 2 0))) kf_M_40 rfl d_M_isNode_1 ?_
  refine lv_if_eq (tgt := 30) hx hb d_M_isNode_4 (by decide) (fun h4 => ?_) (fun h4 => ?_)
  · rw [wg_z0 (by omega)] at h4
    refine lv_iconst (v := (nI 0)) hx hb d_M_isNode_30 (by decide +kernel) ?_
    exact W.zret (ty := .boolean) (v := (nI 0)) hx hb hr (by decide +kernel) (fun tt hth hW => ⟨⟨_, (), rfl, (Or.inr ⟨rfl, by rintro ⟨q1, q2, j, q3, q4⟩; first | omega | exact wg_has0a (n := I 9 0) (by omega) h8 j q3 q4 | exact wg_has0b (n := I 9 0) (by omega) h16 j q3 q4⟩), wg_h hth hP⟩, hS.F hth⟩) hS.2.2 d_M_isNode_31
  · rw [wg_z0 (by omega)] at h4
    refine lv_iload_n hx hb d_M_isNode_7 rfl (lv_at hl 1 rfl) ?_
    refine lv_if_lt (tgt := 30) hx hb d_M_isNode_8 (by decide) (fun h8 => ?_) (fun h8 => ?_)
    · refine lv_iconst (v := (nI 0)) hx hb d_M_isNode_30 (by decide +kernel) ?_
      exact W.zret (ty := .boolean) (v := (nI 0)) hx hb hr (by decide +kernel) (fun tt hth hW => ⟨⟨_, (), rfl, (Or.inr ⟨rfl, by rintro ⟨q1, q2, j, q3, q4⟩; first | omega | exact wg_has0a (n := I 9 0) (by omega) h8 j q3 q4 | exact wg_has0b (n := I 9 0) (by omega) h16 j q3 q4⟩), wg_h hth hP⟩, hS.F hth⟩) hS.2.2 d_M_isNode_31
    · refine lv_iload_n hx hb d_M_isNode_11 rfl (lv_at hl 1 rfl) ?_
      refine lv_aload_n hx hb d_M_isNode_12 rfl (lv_at hl 0 rfl) ?_
      refine wg_gM hx hb hts hown hK hP 9 (by decide) (v := .int (nI (I 9 0))) kf_M_60 rfl d_M_isNode_13 ?_
      refine lv_icmp_ge (tgt := 30) hx hb d_M_isNode_16 (by decide) (fun h16 => ?_) (fun h16 => ?_)
      · refine lv_iconst (v := (nI 0)) hx hb d_M_isNode_30 (by decide +kernel) ?_
        exact W.zret (ty := .boolean) (v := (nI 0)) hx hb hr (by decide +kernel) (fun tt hth hW => ⟨⟨_, (), rfl, (Or.inr ⟨rfl, by rintro ⟨q1, q2, j, q3, q4⟩; first | omega | exact wg_has0a (n := I 9 0) (by omega) h8 j q3 q4 | exact wg_has0b (n := I 9 0) (by omega) h16 j q3 q4⟩), wg_h hth hP⟩, hS.F hth⟩) hS.2.2 d_M_isNode_31
      · refine lv_aload_n hx hb d_M_isNode_19 rfl (lv_at hl 0 rfl) ?_
        refine wg_gM hx hb hts hown hK hP 1 (by decide) (v := .int (nI (I 1 0))) kf_M_32 rfl d_M_isNode_20 ?_
        refine lv_if_le (tgt := 30) hx hb d_M_isNode_23 (by decide) (fun h23 => ?_) (fun h23 => ?_)
        · rw [wg_le0 (by omega)] at h23
          refine lv_iconst (v := (nI 0)) hx hb d_M_isNode_30 (by decide +kernel) ?_
          exact W.zret (ty := .boolean) (v := (nI 0)) hx hb hr (by decide +kernel) (fun tt hth hW => ⟨⟨_, (), rfl, (Or.inr ⟨rfl, by rintro ⟨q1, q2, j, q3, q4⟩; first | omega | exact wg_has0a (n := I 9 0) (by omega) h8 j q3 q4 | exact wg_has0b (n := I 9 0) (by omega) h16 j q3 q4⟩), wg_h hth hP⟩, hS.F hth⟩) hS.2.2 d_M_isNode_31
        · rw [wg_le0 (by omega)] at h23
          refine lv_iconst (v := (nI 1)) hx hb d_M_isNode_26 (by decide +kernel) ?_
          refine lv_goto (tgt := 31) hx hb d_M_isNode_27 (by decide) ?_
          exact W.zret (ty := .boolean) (v := (nI 1)) hx hb hr (by decide +kernel) (fun tt hth hW => ⟨⟨_, (), rfl, (Or.inl ⟨rfl, h4, by omega, wg_has1 (by omega) h8 h16⟩), wg_h hth hP⟩, hS.F hth⟩) hS.2.2 d_M_isNode_31
set_option maxHeartbeats 4000000 in
set_option maxRecDepth 100000 in
theorem c_M_share (l : Launch) (D : va_G) (cJ cI : ClassId) (h0 : Nat) (ad : Nat → Nat) (sz : Nat) (I : wg_S) (a : Nat) (b : Nat) (k : Nat) (ha : a < 48) (hb48 : b < 48) (hk : k ≤ 12) (hI : wg_MI I) : Met l y_M_share (wg_ws y_M_share b_M_share 5 (some .boolean)) ({ frames := 1, cells := 0, slots := 0, locals := 22 }) (va_Pc [.ref h0, .int (nI a), .int (nI b), .int (nI k)] (wg_Pc D cJ cI (wg_WM cJ cI h0 ad I) sz)) (va_Qi (fun (r : Int32) (u : Unit) => (r = nI 1 ∧ wg_sh (I 0 a) (I 0 b) k) ∨ (r = nI 0 ∧ ¬ wg_sh (I 0 a) (I 0 b) k)) (fun (_ : Unit) t => va_P D wg_cl (wg_WM cJ cI h0 ad I) t.heap) (va_A (wg_WM cJ cI h0 ad I) sz)) 0 0 (va_A (wg_WM cJ cI h0 ad I) sz) := by
  refine wg_head (Wd := (fun I => wg_WM cJ cI h0 ad I)) (I := I) (fun A => va_Qi (fun (r : Int32) (u : Unit) => (r = nI 1 ∧ wg_sh (I 0 a) (I 0 b) k) ∨ (r = nI 0 ∧ ¬ wg_sh (I 0 a) (I 0 b) k)) (fun (_ : Unit) t => va_P D wg_cl (wg_WM cJ cI h0 ad I) t.heap) A) R_M (by decide) rfl (Nat.le_of_ble_eq_true rfl) (fun I J => wg_same_M I J) ?_
  intro p e s m below meth c A ls hx hb hr hlk hml hown hnm hts hA hK hD hP hS hl hsz
  clear hsz
  have hl : lv_has ls 5 [(0, .ref h0), (1, .int (nI a)), (2, .int (nI b)), (3, .int (nI k))] := hl
  have hP : va_P D wg_cl (wg_WM cJ cI h0 ad I) s.heap := hP
  skip
  have hI' := hI
  obtain ⟨hn, hse, hfd, hnd, hw, hOW, hOL⟩ := hI'
  refine lv_iconst (v := (nI 0)) hx hb d_M_share_0 (by decide +kernel) ?_
  refine lv_istore (lv' := [(4, .int (nI 0)), (0, .ref h0), (1, .int (nI a)), (2, .int (nI b)), (3, .int (nI k))]) hx hb d_M_share_1 hl (by decide) rfl (fun ls hl => ?_)
  refine wg_loop (fun i _ _ _ H locs ls => (i ≤ k) ∧ (wg_sh (I 0 a) (I 0 b) i) ∧ va_P D wg_cl (wg_WM cJ cI h0 ad I) H ∧ va_S A s.heap H locs ∧ lv_has ls 5 [(0, .ref h0), (1, .int (nI a)), (2, .int (nI b)), (3, .int (nI k)), (4, .int (nI i))]) (fun i _ _ _ => 12 - i) (fun i _z0 _z1 _J H locs ls hI ih3 => ?_) 0 0 0 (fun _ _ => 0) _ _ _ ⟨(by omega), (fun j h => by omega), hP, hS, lv_sub hl [1, 2, 3, 4, 0] rfl⟩
  obtain ⟨hi, hs, hP, hS, hl⟩ := hI
  refine lv_iload hx hb d_M_share_3 (lv_at hl 4 rfl) ?_
  refine lv_iload_n hx hb d_M_share_5 rfl (lv_at hl 3 rfl) ?_
  refine lv_icmp_ge (tgt := 56) hx hb d_M_share_6 (by decide) (fun h6 => ?_) (fun h6 => ?_)
  · rw [nI_leI (by omega) (by omega)] at h6
    have hi : i = k := by omega
    refine lv_iconst (v := (nI 1)) hx hb d_M_share_56 (by decide +kernel) ?_
    exact W.zret (ty := .boolean) (v := (nI 1)) hx hb hr (by decide +kernel) (fun tt hth hW => ⟨⟨_, (), rfl, (Or.inl ⟨rfl, by rw [← hi]; exact hs⟩), wg_h hth hP⟩, hS.F hth⟩) hS.2.2 d_M_share_57
  · rw [nI_leI (by omega) (by omega)] at h6
    refine lv_aload_n hx hb d_M_share_9 rfl (lv_at hl 0 rfl) ?_
    refine wg_gM hx hb hts hown hK hP 0 (by decide) (v := .ref (ad 0)) kf_M_7 rfl d_M_share_10 ?_
    refine lv_iload_n hx hb d_M_share_13 rfl (lv_at hl 1 rfl) ?_
    refine wg_lld (f := I 0) (j := a) hx hb hK hP 1 rfl (by omega) (by decide) d_M_share_14 ?_
    have hB14 := hw a (by omega)
    refine lv_iload hx hb d_M_share_15 (lv_at hl 4 rfl) ?_
    refine wg_csi (As := [.long (lN (I 0 a)), .int (nI i)]) (rest := []) hx hb hml hown hts hK hP hS hA (c_M_letter l D cJ cI _ (I 0 a) i (by omega) (by omega)) kc_M_36 ⟨rfl, rfl⟩ ⟨Nat.le_of_ble_eq_true rfl, Nat.le_of_ble_eq_true rfl⟩ rfl hl.1 rfl (Nat.le_of_ble_eq_true rfl) d_M_share_17 ⟨Nat.zero_le _, Nat.zero_le _⟩ (fun r H locs q17 hP hS => ?_)
    obtain rfl := q17
    have hq17 := wg_lt_le (I 0 a) i
    refine lv_if_eq (tgt := 48) hx hb d_M_share_20 (by decide) (fun h20 => ?_) (fun h20 => ?_)
    · rw [wg_z0 (by omega)] at h20
      refine lv_iconst (v := (nI 0)) hx hb d_M_share_48 (by decide +kernel) ?_
      exact W.zret (ty := .boolean) (v := (nI 0)) hx hb hr (by decide +kernel) (fun tt hth hW => ⟨⟨_, (), rfl, (Or.inr ⟨rfl, fun q => by first | exact (q i (by omega)).1 h20 | exact h45 (q i (by omega)).2⟩), wg_h hth hP⟩, hS.F hth⟩) hS.2.2 d_M_share_49
    · rw [wg_z0 (by omega)] at h20
      refine lv_aload_n hx hb d_M_share_23 rfl (lv_at hl 0 rfl) ?_
      refine wg_gM hx hb hts hown hK hP 0 (by decide) (v := .ref (ad 0)) kf_M_7 rfl d_M_share_24 ?_
      refine lv_iload_n hx hb d_M_share_27 rfl (lv_at hl 1 rfl) ?_
      refine wg_lld (f := I 0) (j := a) hx hb hK hP 1 rfl (by omega) (by decide) d_M_share_28 ?_
      have hB28 := hw a (by omega)
      refine lv_iload hx hb d_M_share_29 (lv_at hl 4 rfl) ?_
      refine wg_csi (As := [.long (lN (I 0 a)), .int (nI i)]) (rest := []) hx hb hml hown hts hK hP hS hA (c_M_letter l D cJ cI _ (I 0 a) i (by omega) (by omega)) kc_M_36 ⟨rfl, rfl⟩ ⟨Nat.le_of_ble_eq_true rfl, Nat.le_of_ble_eq_true rfl⟩ rfl hl.1 rfl (Nat.le_of_ble_eq_true rfl) d_M_share_31 ⟨Nat.zero_le _, Nat.zero_le _⟩ (fun r H locs q31 hP hS => ?_)
      obtain rfl := q31
      have hq31 := wg_lt_le (I 0 a) i
      refine lv_aload_n hx hb d_M_share_34 rfl (lv_at hl 0 rfl) ?_
      refine wg_gM hx hb hts hown hK hP 0 (by decide) (v := .ref (ad 0)) kf_M_7 rfl d_M_share_35 ?_
      refine lv_iload_n hx hb d_M_share_38 rfl (lv_at hl 2 rfl) ?_
      refine wg_lld (f := I 0) (j := b) hx hb hK hP 1 rfl (by omega) (by decide) d_M_share_39 ?_
      have hB39 := hw b (by omega)
      refine lv_iload hx hb d_M_share_40 (lv_at hl 4 rfl) ?_
      refine wg_csi (As := [.long (lN (I 0 b)), .int (nI i)]) (rest := [.int (nI (wg_lt (I 0 a) i))]) hx hb hml hown hts hK hP hS hA (c_M_letter l D cJ cI _ (I 0 b) i (by omega) (by omega)) kc_M_36 ⟨rfl, rfl⟩ ⟨Nat.le_of_ble_eq_true rfl, Nat.le_of_ble_eq_true rfl⟩ rfl hl.1 rfl (Nat.le_of_ble_eq_true rfl) d_M_share_42 ⟨Nat.zero_le _, Nat.zero_le _⟩ (fun r H locs q42 hP hS => ?_)
      obtain rfl := q42
      have hq42 := wg_lt_le (I 0 b) i
      refine lv_icmp_eq (tgt := 50) hx hb d_M_share_45 (by decide) (fun h45 => ?_) (fun h45 => ?_)
      · rw [nI_eq (by omega) (by omega)] at h45
        refine lv_iinc (v := nI (i + 1)) (k := 4) (lv' := [(4, .int (nI (i + 1))), (0, .ref h0), (1, .int (nI a)), (2, .int (nI b)), (3, .int (nI k))]) hx hb d_M_share_50 hl rfl (nI_1 _) (by decide) rfl (fun ls hl => ?_)
        refine lv_goto (tgt := 3) hx hb d_M_share_53 (by decide) ?_
        exact ih3 (i + 1) 0 0 (fun _ _ => 0) _ _ _ ⟨(by omega), (fun j h => by rcases Nat.lt_succ_iff_lt_or_eq.mp h with h | rfl; exact hs j h; exact ⟨h20, h45⟩), hP, hS, lv_sub hl [1, 2, 3, 4, 0] rfl⟩ (by omega)
      · rw [nI_eq (by omega) (by omega)] at h45
        refine lv_iconst (v := (nI 0)) hx hb d_M_share_48 (by decide +kernel) ?_
        exact W.zret (ty := .boolean) (v := (nI 0)) hx hb hr (by decide +kernel) (fun tt hth hW => ⟨⟨_, (), rfl, (Or.inr ⟨rfl, fun q => by first | exact (q i (by omega)).1 h20 | exact h45 (q i (by omega)).2⟩), wg_h hth hP⟩, hS.F hth⟩) hS.2.2 d_M_share_49
set_option maxHeartbeats 4000000 in
set_option maxRecDepth 100000 in
theorem c_M_also (l : Launch) (D : va_G) (cJ cI : ClassId) (h0 : Nat) (ad : Nat → Nat) (sz : Nat) (I : wg_S) (t : Nat) (n : Nat) (v : Nat) (mm : Nat) (ht : t < 48) (hnn : n ≤ 12) (hv : v < 48) (hm : mm ≤ 12) (hI : wg_MI I) : Met l y_M_also (wg_ws y_M_also b_M_also 8 (some .boolean)) ({ frames := 2, cells := 0, slots := 0, locals := 46 }) (va_Pc [.ref h0, .int (nI t), .int (nI n), .int (nI v), .int (nI mm)] (wg_Pc D cJ cI (wg_WM cJ cI h0 ad I) sz)) (va_Qi (fun (r : Int32) (u : Unit) => r = nI 1 ∨ r = nI 0) (fun (_ : Unit) t => va_P D wg_cl (wg_WM cJ cI h0 ad I) t.heap) (va_A (wg_WM cJ cI h0 ad I) sz)) 0 0 (va_A (wg_WM cJ cI h0 ad I) sz) := by
  refine wg_head (Wd := (fun I => wg_WM cJ cI h0 ad I)) (I := I) (fun A => va_Qi (fun (r : Int32) (u : Unit) => r = nI 1 ∨ r = nI 0) (fun (_ : Unit) t => va_P D wg_cl (wg_WM cJ cI h0 ad I) t.heap) A) R_M (by decide) rfl (Nat.le_of_ble_eq_true rfl) (fun I J => wg_same_M I J) ?_
  intro p e s m below meth c A ls hx hb hr hlk hml hown hnm hts hA hK hD hP hS hl hsz
  clear hsz
  have hl : lv_has ls 8 [(0, .ref h0), (1, .int (nI t)), (2, .int (nI n)), (3, .int (nI v)), (4, .int (nI mm))] := hl
  have hP : va_P D wg_cl (wg_WM cJ cI h0 ad I) s.heap := hP
  skip
  have hI' := hI
  obtain ⟨hn, hse, hfd, hnd, hw, hOW, hOL⟩ := hI'
  refine lv_iconst (v := (nI 0)) hx hb d_M_also_0 (by decide +kernel) ?_
  refine lv_istore (lv' := [(5, .int (nI 0)), (0, .ref h0), (1, .int (nI t)), (2, .int (nI n)), (3, .int (nI v)), (4, .int (nI mm))]) hx hb d_M_also_1 hl (by decide) rfl (fun ls hl => ?_)
  refine wg_loop (fun x _ _ _ H locs ls => (x ≤ 48) ∧ va_P D wg_cl (wg_WM cJ cI h0 ad I) H ∧ va_S A s.heap H locs ∧ lv_has ls 8 [(0, .ref h0), (1, .int (nI t)), (2, .int (nI n)), (3, .int (nI v)), (4, .int (nI mm)), (5, .int (nI x))]) (fun x _ _ _ => 48 - x) (fun x _z0 _z1 _J H locs ls hI ih3 => ?_) 0 0 0 (fun _ _ => 0) _ _ _ ⟨(by omega), hP, hS, lv_sub hl [1, 2, 3, 4, 5, 0] rfl⟩
  obtain ⟨hx5, hP, hS, hl⟩ := hI
  refine lv_iload hx hb d_M_also_3 (lv_at hl 5 rfl) ?_
  refine lv_aload_n hx hb d_M_also_5 rfl (lv_at hl 0 rfl) ?_
  refine wg_gM hx hb hts hown hK hP 1 (by decide) (v := .int (nI (I 1 0))) kf_M_32 rfl d_M_also_6 ?_
  refine lv_icmp_ge (tgt := 126) hx hb d_M_also_9 (by decide) (fun h9 => ?_) (fun h9 => ?_)
  · rw [nI_leI (by omega) (by omega)] at h9
    refine lv_iconst (v := (nI 0)) hx hb d_M_also_126 (by decide +kernel) ?_
    exact W.zret (ty := .boolean) (v := (nI 0)) hx hb hr (by decide +kernel) (fun tt hth hW => ⟨⟨_, (), rfl, (Or.inr rfl), wg_h hth hP⟩, hS.F hth⟩) hS.2.2 d_M_also_127
  · rw [nI_leI (by omega) (by omega)] at h9
    refine lv_aload_n hx hb d_M_also_12 rfl (lv_at hl 0 rfl) ?_
    refine lv_iload hx hb d_M_also_13 (lv_at hl 5 rfl) ?_
    refine lv_iload_n hx hb d_M_also_15 rfl (lv_at hl 3 rfl) ?_
    refine lv_iload hx hb d_M_also_16 (lv_at hl 4 rfl) ?_
    refine wg_cvi (As := [.int (nI x), .int (nI v), .int (nI mm)]) (rest := []) hx hb hml hown hts hK hP (hD _) hS hA rfl rfl rfl (c_M_share l D cJ cI h0 ad _ I x v mm (by omega) hv hm hI) kc_M_48 ⟨rfl, rfl⟩ ⟨Nat.le_of_ble_eq_true rfl, Nat.le_of_ble_eq_true rfl⟩ rfl hl.1 rfl (Nat.le_of_ble_eq_true rfl) d_M_also_18 ⟨Nat.zero_le _, Nat.zero_le _⟩ (fun r u18 tt H locs ht q18 hB _ _ hS => ?_)
    have hP : va_P D wg_cl (wg_WM cJ cI h0 ad I) H := by rw [← ht]; exact hB
    clear hB ht tt
    rcases q18 with ⟨rfl, hs18⟩ | ⟨rfl, hs18⟩
    · skip
      refine lv_if_eq (tgt := 120) hx hb d_M_also_21 (by decide) (fun h => absurd h (by decide +kernel)) (fun _ => ?_)
      refine lv_aload_n hx hb d_M_also_24 rfl (lv_at hl 0 rfl) ?_
      refine wg_gM hx hb hts hown hK hP 0 (by decide) (v := .ref (ad 0)) kf_M_7 rfl d_M_also_25 ?_
      refine lv_iload hx hb d_M_also_28 (lv_at hl 5 rfl) ?_
      refine wg_lld (f := I 0) (j := x) hx hb hK hP 1 rfl (by omega) (by decide) d_M_also_30 ?_
      have hB30 := hw x (by omega)
      refine wg_csi (As := [.long (lN (I 0 x))]) (rest := []) hx hb hml hown hts hK hP hS hA (c_M_length l D cJ cI _ (I 0 x) (by omega)) kc_M_52 ⟨rfl, rfl⟩ ⟨Nat.le_of_ble_eq_true rfl, Nat.le_of_ble_eq_true rfl⟩ rfl hl.1 rfl (Nat.le_of_ble_eq_true rfl) d_M_also_31 ⟨Nat.zero_le _, Nat.zero_le _⟩ (fun r H locs q31 hP hS => ?_)
      obtain rfl := q31
      have hq31 := wg_ln_le (I 0 x)
      refine lv_iload hx hb d_M_also_34 (lv_at hl 4 rfl) ?_
      refine lv_isub hx hb d_M_also_36 ?_
      refine lv_aload_n hx hb d_M_also_37 rfl (lv_at hl 0 rfl) ?_
      refine wg_gM hx hb hts hown hK hP 0 (by decide) (v := .ref (ad 0)) kf_M_7 rfl d_M_also_38 ?_
      refine lv_iload_n hx hb d_M_also_41 rfl (lv_at hl 1 rfl) ?_
      refine wg_lld (f := I 0) (j := t) hx hb hK hP 1 rfl (by omega) (by decide) d_M_also_42 ?_
      have hB42 := hw t (by omega)
      refine wg_csi (As := [.long (lN (I 0 t))]) (rest := [.int (nI (wg_ln (I 0 x)) - nI mm)]) hx hb hml hown hts hK hP hS hA (c_M_length l D cJ cI _ (I 0 t) (by omega)) kc_M_52 ⟨rfl, rfl⟩ ⟨Nat.le_of_ble_eq_true rfl, Nat.le_of_ble_eq_true rfl⟩ rfl hl.1 rfl (Nat.le_of_ble_eq_true rfl) d_M_also_43 ⟨Nat.zero_le _, Nat.zero_le _⟩ (fun r H locs q43 hP hS => ?_)
      obtain rfl := q43
      have hq43 := wg_ln_le (I 0 t)
      refine lv_iload_n hx hb d_M_also_46 rfl (lv_at hl 2 rfl) ?_
      refine lv_isub hx hb d_M_also_47 ?_
      refine lv_icmp_ne (tgt := 120) hx hb d_M_also_48 (by decide) (fun h48 => ?_) (fun h48 => ?_)
      · rw [wg_Deq (by omega) (by omega) (by omega) (by omega)] at h48
        refine lv_iinc (v := nI (x + 1)) (k := 5) (lv' := [(5, .int (nI (x + 1))), (0, .ref h0), (1, .int (nI t)), (2, .int (nI n)), (3, .int (nI v)), (4, .int (nI mm))]) hx hb d_M_also_120 hl rfl (nI_1 _) (by decide) rfl (fun ls hl => ?_)
        refine lv_goto (tgt := 3) hx hb d_M_also_123 (by decide) ?_
        exact ih3 (x + 1) 0 0 (fun _ _ => 0) _ _ _ ⟨(by omega), hP, hS, lv_sub hl [1, 2, 3, 4, 5, 0] rfl⟩ (by omega)
      · rw [wg_Deq (by omega) (by omega) (by omega) (by omega)] at h48
        refine lv_iconst (v := (nI 1)) hx hb d_M_also_51 (by decide +kernel) ?_
        refine lv_istore (lv' := [(6, .int (nI 1)), (0, .ref h0), (1, .int (nI t)), (2, .int (nI n)), (3, .int (nI v)), (4, .int (nI mm)), (5, .int (nI x))]) hx hb d_M_also_52 hl (by decide) rfl (fun ls hl => ?_)
        refine lv_iconst (v := (nI 0)) hx hb d_M_also_54 (by decide +kernel) ?_
        refine lv_istore (lv' := [(7, .int (nI 0)), (6, .int (nI 1)), (0, .ref h0), (1, .int (nI t)), (2, .int (nI n)), (3, .int (nI v)), (4, .int (nI mm)), (5, .int (nI x))]) hx hb d_M_also_55 hl (by decide) rfl (fun ls hl => ?_)
        refine wg_loop (fun i sm _ _ H locs ls => (i ≤ 12) ∧ (sm ≤ 1) ∧ va_P D wg_cl (wg_WM cJ cI h0 ad I) H ∧ va_S A s.heap H locs ∧ lv_has ls 8 [(0, .ref h0), (1, .int (nI t)), (2, .int (nI n)), (3, .int (nI v)), (4, .int (nI mm)), (5, .int (nI x)), (6, .int (nI sm)), (7, .int (nI i))]) (fun i sm _ _ => 12 - i) (fun i sm _z0 _J H locs ls hI ih57 => ?_) 0 1 0 (fun _ _ => 0) _ _ _ ⟨(by omega), (by omega), hP, hS, lv_sub hl [2, 3, 4, 5, 6, 7, 1, 0] rfl⟩
        obtain ⟨hi12, hsm, hP, hS, hl⟩ := hI
        refine lv_iload hx hb d_M_also_57 (lv_at hl 7 rfl) ?_
        refine lv_aload_n hx hb d_M_also_59 rfl (lv_at hl 0 rfl) ?_
        refine wg_gM hx hb hts hown hK hP 0 (by decide) (v := .ref (ad 0)) kf_M_7 rfl d_M_also_60 ?_
        refine lv_iload_n hx hb d_M_also_63 rfl (lv_at hl 1 rfl) ?_
        refine wg_lld (f := I 0) (j := t) hx hb hK hP 1 rfl (by omega) (by decide) d_M_also_64 ?_
        have hB64 := hw t (by omega)
        refine wg_csi (As := [.long (lN (I 0 t))]) (rest := [.int (nI i)]) hx hb hml hown hts hK hP hS hA (c_M_length l D cJ cI _ (I 0 t) (by omega)) kc_M_52 ⟨rfl, rfl⟩ ⟨Nat.le_of_ble_eq_true rfl, Nat.le_of_ble_eq_true rfl⟩ rfl hl.1 rfl (Nat.le_of_ble_eq_true rfl) d_M_also_65 ⟨Nat.zero_le _, Nat.zero_le _⟩ (fun r H locs q65 hP hS => ?_)
        obtain rfl := q65
        have hq65 := wg_ln_le (I 0 t)
        refine lv_iload_n hx hb d_M_also_68 rfl (lv_at hl 2 rfl) ?_
        refine lv_isub hx hb d_M_also_69 ?_
        refine lv_icmp_ge (tgt := 113) hx hb d_M_also_70 (by decide) (fun h70 => ?_) (fun h70 => ?_)
        · rw [wg_DleN (by omega) (by omega) (by omega)] at h70
          refine lv_iload hx hb d_M_also_113 (lv_at hl 6 rfl) ?_
          refine lv_if_eq (tgt := 120) hx hb d_M_also_115 (by decide) (fun h115 => ?_) (fun h115 => ?_)
          · rw [wg_z0 (by omega)] at h115
            refine lv_iinc (v := nI (x + 1)) (k := 5) (lv' := [(5, .int (nI (x + 1))), (0, .ref h0), (1, .int (nI t)), (2, .int (nI n)), (3, .int (nI v)), (4, .int (nI mm)), (6, .int (nI sm)), (7, .int (nI i))]) hx hb d_M_also_120 hl rfl (nI_1 _) (by decide) rfl (fun ls hl => ?_)
            refine lv_goto (tgt := 3) hx hb d_M_also_123 (by decide) ?_
            exact ih3 (x + 1) 0 0 (fun _ _ => 0) _ _ _ ⟨(by omega), hP, hS, lv_sub hl [1, 2, 3, 4, 5, 0] rfl⟩ (by omega)
          · rw [wg_z0 (by omega)] at h115
            refine lv_iconst (v := (nI 1)) hx hb d_M_also_118 (by decide +kernel) ?_
            exact W.zret (ty := .boolean) (v := (nI 1)) hx hb hr (by decide +kernel) (fun tt hth hW => ⟨⟨_, (), rfl, (Or.inl rfl), wg_h hth hP⟩, hS.F hth⟩) hS.2.2 d_M_also_119
        · rw [wg_DleN (by omega) (by omega) (by omega)] at h70
          refine lv_aload_n hx hb d_M_also_73 rfl (lv_at hl 0 rfl) ?_
          refine wg_gM hx hb hts hown hK hP 0 (by decide) (v := .ref (ad 0)) kf_M_7 rfl d_M_also_74 ?_
          refine lv_iload hx hb d_M_also_77 (lv_at hl 5 rfl) ?_
          refine wg_lld (f := I 0) (j := x) hx hb hK hP 1 rfl (by omega) (by decide) d_M_also_79 ?_
          have hB79 := hw x (by omega)
          refine lv_iload hx hb d_M_also_80 (lv_at hl 4 rfl) ?_
          refine lv_iload hx hb d_M_also_82 (lv_at hl 7 rfl) ?_
          refine t_iadd (v := nI (mm + i)) hx hb d_M_also_84 (nI_add _ _) ?_
          refine wg_csi (As := [.long (lN (I 0 x)), .int (nI (mm + i))]) (rest := []) hx hb hml hown hts hK hP hS hA (c_M_letter l D cJ cI _ (I 0 x) (mm + i) (by omega) (by omega)) kc_M_36 ⟨rfl, rfl⟩ ⟨Nat.le_of_ble_eq_true rfl, Nat.le_of_ble_eq_true rfl⟩ rfl hl.1 rfl (Nat.le_of_ble_eq_true rfl) d_M_also_85 ⟨Nat.zero_le _, Nat.zero_le _⟩ (fun r H locs q85 hP hS => ?_)
          obtain rfl := q85
          have hq85 := wg_lt_le (I 0 x) (mm + i)
          refine lv_aload_n hx hb d_M_also_88 rfl (lv_at hl 0 rfl) ?_
          refine wg_gM hx hb hts hown hK hP 0 (by decide) (v := .ref (ad 0)) kf_M_7 rfl d_M_also_89 ?_
          refine lv_iload_n hx hb d_M_also_92 rfl (lv_at hl 1 rfl) ?_
          refine wg_lld (f := I 0) (j := t) hx hb hK hP 1 rfl (by omega) (by decide) d_M_also_93 ?_
          have hB93 := hw t (by omega)
          refine lv_iload_n hx hb d_M_also_94 rfl (lv_at hl 2 rfl) ?_
          refine lv_iload hx hb d_M_also_95 (lv_at hl 7 rfl) ?_
          refine t_iadd (v := nI (n + i)) hx hb d_M_also_97 (nI_add _ _) ?_
          refine wg_csi (As := [.long (lN (I 0 t)), .int (nI (n + i))]) (rest := [.int (nI (wg_lt (I 0 x) (mm + i)))]) hx hb hml hown hts hK hP hS hA (c_M_letter l D cJ cI _ (I 0 t) (n + i) (by omega) (by omega)) kc_M_36 ⟨rfl, rfl⟩ ⟨Nat.le_of_ble_eq_true rfl, Nat.le_of_ble_eq_true rfl⟩ rfl hl.1 rfl (Nat.le_of_ble_eq_true rfl) d_M_also_98 ⟨Nat.zero_le _, Nat.zero_le _⟩ (fun r H locs q98 hP hS => ?_)
          obtain rfl := q98
          have hq98 := wg_lt_le (I 0 t) (n + i)
          refine lv_icmp_eq (tgt := 107) hx hb d_M_also_101 (by decide) (fun h101 => ?_) (fun h101 => ?_)
          · rw [nI_eq (by omega) (by omega)] at h101
            refine lv_iinc (v := nI (i + 1)) (k := 7) (lv' := [(7, .int (nI (i + 1))), (0, .ref h0), (1, .int (nI t)), (2, .int (nI n)), (3, .int (nI v)), (4, .int (nI mm)), (5, .int (nI x)), (6, .int (nI sm))]) hx hb d_M_also_107 hl rfl (nI_1 _) (by decide) rfl (fun ls hl => ?_)
            refine lv_goto (tgt := 57) hx hb d_M_also_110 (by decide) ?_
            exact ih57 (i + 1) sm 0 (fun _ _ => 0) _ _ _ ⟨(by omega), (by omega), hP, hS, lv_sub hl [1, 2, 3, 4, 5, 6, 7, 0] rfl⟩ (by omega)
          · rw [nI_eq (by omega) (by omega)] at h101
            refine lv_iconst (v := (nI 0)) hx hb d_M_also_104 (by decide +kernel) ?_
            refine lv_istore (lv' := [(6, .int (nI 0)), (0, .ref h0), (1, .int (nI t)), (2, .int (nI n)), (3, .int (nI v)), (4, .int (nI mm)), (5, .int (nI x)), (7, .int (nI i))]) hx hb d_M_also_105 hl (by decide) rfl (fun ls hl => ?_)
            refine lv_iinc (v := nI (i + 1)) (k := 7) (lv' := [(7, .int (nI (i + 1))), (6, .int (nI 0)), (0, .ref h0), (1, .int (nI t)), (2, .int (nI n)), (3, .int (nI v)), (4, .int (nI mm)), (5, .int (nI x))]) hx hb d_M_also_107 hl rfl (nI_1 _) (by decide) rfl (fun ls hl => ?_)
            refine lv_goto (tgt := 57) hx hb d_M_also_110 (by decide) ?_
            exact ih57 (i + 1) 0 0 (fun _ _ => 0) _ _ _ ⟨(by omega), (by omega), hP, hS, lv_sub hl [2, 3, 4, 5, 6, 7, 1, 0] rfl⟩ (by omega)
    · skip
      refine lv_if_eq (tgt := 120) hx hb d_M_also_21 (by decide) (fun _ => ?_) (fun h => absurd h (by decide +kernel))
      refine lv_iinc (v := nI (x + 1)) (k := 5) (lv' := [(5, .int (nI (x + 1))), (0, .ref h0), (1, .int (nI t)), (2, .int (nI n)), (3, .int (nI v)), (4, .int (nI mm))]) hx hb d_M_also_120 hl rfl (nI_1 _) (by decide) rfl (fun ls hl => ?_)
      refine lv_goto (tgt := 3) hx hb d_M_also_123 (by decide) ?_
      exact ih3 (x + 1) 0 0 (fun _ _ => 0) _ _ _ ⟨(by omega), hP, hS, lv_sub hl [1, 2, 3, 4, 5, 0] rfl⟩ (by omega)
set_option maxHeartbeats 4000000 in
set_option maxRecDepth 100000 in
theorem c_M_within (l : Launch) (D : va_G) (cJ cI : ClassId) (h0 : Nat) (ad : Nat → Nat) (sz : Nat) (I : wg_S) (a : Nat) (n : Nat) (v : Nat) (mm : Nat) (ha : a < 48) (hnn : n ≤ 12) (hv : v < 48) (hm : mm ≤ 12) (hI : wg_MI I) : Met l y_M_within (wg_ws y_M_within b_M_within 6 (some .boolean)) ({ frames := 3, cells := 0, slots := 0, locals := 73 }) (va_Pc [.ref h0, .int (nI a), .int (nI n), .int (nI v), .int (nI mm)] (wg_Pc D cJ cI (wg_WM cJ cI h0 ad I) sz)) (va_Qi (fun (r : Int32) (u : Unit) => r = nI 1 ∨ r = nI 0) (fun (_ : Unit) t => va_P D wg_cl (wg_WM cJ cI h0 ad I) t.heap) (va_A (wg_WM cJ cI h0 ad I) sz)) 0 0 (va_A (wg_WM cJ cI h0 ad I) sz) := by
  refine wg_head (Wd := (fun I => wg_WM cJ cI h0 ad I)) (I := I) (fun A => va_Qi (fun (r : Int32) (u : Unit) => r = nI 1 ∨ r = nI 0) (fun (_ : Unit) t => va_P D wg_cl (wg_WM cJ cI h0 ad I) t.heap) A) R_M (by decide) rfl (Nat.le_of_ble_eq_true rfl) (fun I J => wg_same_M I J) ?_
  intro p e s m below meth c A ls hx hb hr hlk hml hown hnm hts hA hK hD hP hS hl hsz
  clear hsz
  have hl : lv_has ls 6 [(0, .ref h0), (1, .int (nI a)), (2, .int (nI n)), (3, .int (nI v)), (4, .int (nI mm))] := hl
  have hP : va_P D wg_cl (wg_WM cJ cI h0 ad I) s.heap := hP
  skip
  have hI' := hI
  obtain ⟨hn, hse, hfd, hnd, hw, hOW, hOL⟩ := hI'
  refine lv_iconst (v := (nI 0)) hx hb d_M_within_0 (by decide +kernel) ?_
  refine lv_istore (lv' := [(5, .int (nI 0)), (0, .ref h0), (1, .int (nI a)), (2, .int (nI n)), (3, .int (nI v)), (4, .int (nI mm))]) hx hb d_M_within_1 hl (by decide) rfl (fun ls hl => ?_)
  refine wg_loop (fun x _ _ _ H locs ls => (x ≤ 48) ∧ va_P D wg_cl (wg_WM cJ cI h0 ad I) H ∧ va_S A s.heap H locs ∧ lv_has ls 6 [(0, .ref h0), (1, .int (nI a)), (2, .int (nI n)), (3, .int (nI v)), (4, .int (nI mm)), (5, .int (nI x))]) (fun x _ _ _ => 48 - x) (fun x _z0 _z1 _J H locs ls hI ih3 => ?_) 0 0 0 (fun _ _ => 0) _ _ _ ⟨(by omega), hP, hS, lv_sub hl [1, 2, 3, 4, 5, 0] rfl⟩
  obtain ⟨hx5, hP, hS, hl⟩ := hI
  refine lv_iload hx hb d_M_within_3 (lv_at hl 5 rfl) ?_
  refine lv_aload_n hx hb d_M_within_5 rfl (lv_at hl 0 rfl) ?_
  refine wg_gM hx hb hts hown hK hP 1 (by decide) (v := .int (nI (I 1 0))) kf_M_32 rfl d_M_within_6 ?_
  refine lv_icmp_ge (tgt := 44) hx hb d_M_within_9 (by decide) (fun h9 => ?_) (fun h9 => ?_)
  · rw [nI_leI (by omega) (by omega)] at h9
    refine lv_iconst (v := (nI 1)) hx hb d_M_within_44 (by decide +kernel) ?_
    exact W.zret (ty := .boolean) (v := (nI 1)) hx hb hr (by decide +kernel) (fun tt hth hW => ⟨⟨_, (), rfl, (Or.inl rfl), wg_h hth hP⟩, hS.F hth⟩) hS.2.2 d_M_within_45
  · rw [nI_leI (by omega) (by omega)] at h9
    refine lv_aload_n hx hb d_M_within_12 rfl (lv_at hl 0 rfl) ?_
    refine lv_iload hx hb d_M_within_13 (lv_at hl 5 rfl) ?_
    refine lv_iload_n hx hb d_M_within_15 rfl (lv_at hl 1 rfl) ?_
    refine lv_iload_n hx hb d_M_within_16 rfl (lv_at hl 2 rfl) ?_
    refine wg_cvi (As := [.int (nI x), .int (nI a), .int (nI n)]) (rest := []) hx hb hml hown hts hK hP (hD _) hS hA rfl rfl rfl (c_M_share l D cJ cI h0 ad _ I x a n (by omega) ha hnn hI) kc_M_48 ⟨rfl, rfl⟩ ⟨Nat.le_of_ble_eq_true rfl, Nat.le_of_ble_eq_true rfl⟩ rfl hl.1 rfl (Nat.le_of_ble_eq_true rfl) d_M_within_17 ⟨Nat.zero_le _, Nat.zero_le _⟩ (fun r u17 tt H locs ht q17 hB _ _ hS => ?_)
    have hP : va_P D wg_cl (wg_WM cJ cI h0 ad I) H := by rw [← ht]; exact hB
    clear hB ht tt
    rcases q17 with ⟨rfl, hs17⟩ | ⟨rfl, hs17⟩
    · skip
      refine lv_if_eq (tgt := 38) hx hb d_M_within_20 (by decide) (fun h => absurd h (by decide +kernel)) (fun _ => ?_)
      refine lv_aload_n hx hb d_M_within_23 rfl (lv_at hl 0 rfl) ?_
      refine lv_iload hx hb d_M_within_24 (lv_at hl 5 rfl) ?_
      refine lv_iload_n hx hb d_M_within_26 rfl (lv_at hl 2 rfl) ?_
      refine lv_iload_n hx hb d_M_within_27 rfl (lv_at hl 3 rfl) ?_
      refine lv_iload hx hb d_M_within_28 (lv_at hl 4 rfl) ?_
      refine wg_cvi (As := [.int (nI x), .int (nI n), .int (nI v), .int (nI mm)]) (rest := []) hx hb hml hown hts hK hP (hD _) hS hA rfl rfl rfl (c_M_also l D cJ cI h0 ad _ I x n v mm (by omega) hnn hv hm hI) kc_M_56 ⟨rfl, rfl⟩ ⟨Nat.le_of_ble_eq_true rfl, Nat.le_of_ble_eq_true rfl⟩ rfl hl.1 rfl (Nat.le_of_ble_eq_true rfl) d_M_within_30 ⟨Nat.zero_le _, Nat.zero_le _⟩ (fun r u30 tt H locs ht q30 hB _ _ hS => ?_)
      have hP : va_P D wg_cl (wg_WM cJ cI h0 ad I) H := by rw [← ht]; exact hB
      clear hB ht tt
      rcases q30 with rfl | rfl
      · skip
        refine lv_if_ne (tgt := 38) hx hb d_M_within_33 (by decide) (fun _ => ?_) (fun h => absurd h (by decide +kernel))
        refine lv_iinc (v := nI (x + 1)) (k := 5) (lv' := [(5, .int (nI (x + 1))), (0, .ref h0), (1, .int (nI a)), (2, .int (nI n)), (3, .int (nI v)), (4, .int (nI mm))]) hx hb d_M_within_38 hl rfl (nI_1 _) (by decide) rfl (fun ls hl => ?_)
        refine lv_goto (tgt := 3) hx hb d_M_within_41 (by decide) ?_
        exact ih3 (x + 1) 0 0 (fun _ _ => 0) _ _ _ ⟨(by omega), hP, hS, lv_sub hl [1, 2, 3, 4, 5, 0] rfl⟩ (by omega)
      · skip
        refine lv_if_ne (tgt := 38) hx hb d_M_within_33 (by decide) (fun h => absurd h (by decide +kernel)) (fun _ => ?_)
        refine lv_iconst (v := (nI 0)) hx hb d_M_within_36 (by decide +kernel) ?_
        exact W.zret (ty := .boolean) (v := (nI 0)) hx hb hr (by decide +kernel) (fun tt hth hW => ⟨⟨_, (), rfl, (Or.inr rfl), wg_h hth hP⟩, hS.F hth⟩) hS.2.2 d_M_within_37
    · skip
      refine lv_if_eq (tgt := 38) hx hb d_M_within_20 (by decide) (fun _ => ?_) (fun h => absurd h (by decide +kernel))
      refine lv_iinc (v := nI (x + 1)) (k := 5) (lv' := [(5, .int (nI (x + 1))), (0, .ref h0), (1, .int (nI a)), (2, .int (nI n)), (3, .int (nI v)), (4, .int (nI mm))]) hx hb d_M_within_38 hl rfl (nI_1 _) (by decide) rfl (fun ls hl => ?_)
      refine lv_goto (tgt := 3) hx hb d_M_within_41 (by decide) ?_
      exact ih3 (x + 1) 0 0 (fun _ _ => 0) _ _ _ ⟨(by omega), hP, hS, lv_sub hl [1, 2, 3, 4, 5, 0] rfl⟩ (by omega)
set_option maxHeartbeats 4000000 in
set_option maxRecDepth 100000 in
theorem c_M_nodeOf (l : Launch) (D : va_G) (cJ cI : ClassId) (h0 : Nat) (ad : Nat → Nat) (sz : Nat) (I : wg_S) (k : Nat) (n : Nat) (hk : k < 48) (hnn : n ≤ 12) (hnd2 : I 9 0 < 625) (hI : wg_MI I) : Met l y_M_nodeOf (wg_ws y_M_nodeOf b_M_nodeOf 4 (some .int)) ({ frames := 4, cells := 0, slots := 0, locals := 98 }) (va_Pc [.ref h0, .int (nI k), .int (nI n)] (wg_Pc D cJ cI (wg_WM cJ cI h0 ad I) sz)) (va_Qi (fun (r : Int32) (u : wg_S) => (∃ v, v < 2 ^ 31 ∧ r = nI v) ∧ wg_MI u ∧ (∀ j, j < 7 ∨ j = 10 → u j = I j) ∧ u 9 0 ≤ I 9 0 + 1) (fun (u : wg_S) t => va_P D wg_cl (wg_WM cJ cI h0 ad u) t.heap) (va_A (wg_WM cJ cI h0 ad I) sz)) 0 0 (va_A (wg_WM cJ cI h0 ad I) sz) := by
  refine wg_head (Wd := (fun I => wg_WM cJ cI h0 ad I)) (I := I) (fun A => va_Qi (fun (r : Int32) (u : wg_S) => (∃ v, v < 2 ^ 31 ∧ r = nI v) ∧ wg_MI u ∧ (∀ j, j < 7 ∨ j = 10 → u j = I j) ∧ u 9 0 ≤ I 9 0 + 1) (fun (u : wg_S) t => va_P D wg_cl (wg_WM cJ cI h0 ad u) t.heap) A) R_M (by decide) rfl (Nat.le_of_ble_eq_true rfl) (fun I J => wg_same_M I J) ?_
  intro p e s m below meth c A ls hx hb hr hlk hml hown hnm hts hA hK hD hP hS hl hsz
  clear hsz
  have hl : lv_has ls 4 [(0, .ref h0), (1, .int (nI k)), (2, .int (nI n))] := hl
  have hP : va_P D wg_cl (wg_WM cJ cI h0 ad I) s.heap := hP
  skip
  have hI' := hI
  obtain ⟨hn, hse, hfd, hnd, hw, hOW, hOL⟩ := hI'
  refine lv_iconst (v := (nI 0)) hx hb d_M_nodeOf_0 (by decide +kernel) ?_
  refine lv_istore_n (lv' := [(3, .int (nI 0)), (0, .ref h0), (1, .int (nI k)), (2, .int (nI n))]) hx hb d_M_nodeOf_1 rfl hl (by decide) rfl (fun ls hl => ?_)
  refine wg_loop (fun x _ _ _ H locs ls => (x ≤ I 9 0) ∧ va_P D wg_cl (wg_WM cJ cI h0 ad I) H ∧ va_S A s.heap H locs ∧ lv_has ls 4 [(0, .ref h0), (1, .int (nI k)), (2, .int (nI n)), (3, .int (nI x))]) (fun x _ _ _ => I 9 0 - x) (fun x _z0 _z1 _J H locs ls hI ih2 => ?_) 0 0 0 (fun _ _ => 0) _ _ _ ⟨(by omega), hP, hS, lv_sub hl [1, 2, 3, 0] rfl⟩
  obtain ⟨hx3, hP, hS, hl⟩ := hI
  refine lv_iload_n hx hb d_M_nodeOf_2 rfl (lv_at hl 3 rfl) ?_
  refine lv_aload_n hx hb d_M_nodeOf_3 rfl (lv_at hl 0 rfl) ?_
  refine wg_gM hx hb hts hown hK hP 9 (by decide) (v := .int (nI (I 9 0))) kf_M_60 rfl d_M_nodeOf_4 ?_
  refine lv_icmp_ge (tgt := 60) hx hb d_M_nodeOf_7 (by decide) (fun h7 => ?_) (fun h7 => ?_)
  · rw [nI_leI (by omega) (by omega)] at h7
    refine lv_aload_n hx hb d_M_nodeOf_60 rfl (lv_at hl 0 rfl) ?_
    refine wg_gM hx hb hts hown hK hP 7 (by decide) (v := .ref (ad 7)) kf_M_23 rfl d_M_nodeOf_61 ?_
    refine lv_aload_n hx hb d_M_nodeOf_64 rfl (lv_at hl 0 rfl) ?_
    refine wg_gM hx hb hts hown hK hP 9 (by decide) (v := .int (nI (I 9 0))) kf_M_60 rfl d_M_nodeOf_65 ?_
    refine lv_iload_n hx hb d_M_nodeOf_68 rfl (lv_at hl 1 rfl) ?_
    refine wg_sM7 (j := (I 9 0)) (x := k) hx hb hK hP hD hS (by omega) d_M_nodeOf_69 (fun H locs hP hS => ?_)
    refine lv_aload_n hx hb d_M_nodeOf_70 rfl (lv_at hl 0 rfl) ?_
    refine wg_gM hx hb hts hown hK hP 8 (by decide) (v := .ref (ad 8)) kf_M_26 rfl d_M_nodeOf_71 ?_
    refine lv_aload_n hx hb d_M_nodeOf_74 rfl (lv_at hl 0 rfl) ?_
    refine wg_gM hx hb hts hown hK hP 9 (by decide) (v := .int (nI (I 9 0))) kf_M_60 rfl d_M_nodeOf_75 ?_
    refine lv_iload_n hx hb d_M_nodeOf_78 rfl (lv_at hl 2 rfl) ?_
    refine wg_sM8 (j := (I 9 0)) (x := n) hx hb hK hP hD hS (by omega) d_M_nodeOf_79 (fun H locs hP hS => ?_)
    refine lv_aload_n hx hb d_M_nodeOf_80 rfl (lv_at hl 0 rfl) ?_
    refine lv_aload_n hx hb d_M_nodeOf_81 rfl (lv_at hl 0 rfl) ?_
    refine wg_gM hx hb hts hown hK hP 9 (by decide) (v := .int (nI (I 9 0))) kf_M_60 rfl d_M_nodeOf_82 ?_
    refine lv_iconst (v := (nI 1)) hx hb d_M_nodeOf_85 (by decide +kernel) ?_
    refine t_iadd (v := nI ((I 9 0) + 1)) hx hb d_M_nodeOf_86 (nI_add _ _) ?_
    refine wg_pM9 (v := ((I 9 0) + 1)) hx hb hts hown hK hP hD hS kf_M_60 d_M_nodeOf_87 (fun H locs hP hS => ?_)
    refine lv_aload_n hx hb d_M_nodeOf_90 rfl (lv_at hl 0 rfl) ?_
    refine wg_gM hx hb hts hown hK hP 9 (by decide) (v := .int (nI ((I 9 0) + 1))) kf_M_60 rfl d_M_nodeOf_91 ?_
    refine lv_iconst (v := (nI 1)) hx hb d_M_nodeOf_94 (by decide +kernel) ?_
    refine t_isub (v := nI (((I 9 0) + 1) - 1)) hx hb d_M_nodeOf_95 (pk_sub (by omega)) ?_
    exact W.iret (v := (nI (((I 9 0) + 1) - 1))) hx hb hr (fun tt hth hW => ⟨⟨_, (wg_st (wg_st (wg_st I 7 (I 9 0) k) 8 (I 9 0) n) 9 0 ((I 9 0) + 1)), rfl, ⟨⟨_, by omega, rfl⟩, wg_MI_mk hI (by omega) (by omega) (by omega), fun j h => (wg_st_o _ _ _ _ (by omega)).trans ((wg_st_o _ _ _ _ (by omega)).trans (wg_st_o _ _ _ _ (by omega))), Nat.le_refl _⟩, wg_h hth hP⟩, hS.F hth⟩) hS.2.2 d_M_nodeOf_96
  · rw [nI_leI (by omega) (by omega)] at h7
    refine lv_aload_n hx hb d_M_nodeOf_10 rfl (lv_at hl 0 rfl) ?_
    refine lv_iload_n hx hb d_M_nodeOf_11 rfl (lv_at hl 1 rfl) ?_
    refine lv_iload_n hx hb d_M_nodeOf_12 rfl (lv_at hl 2 rfl) ?_
    refine lv_aload_n hx hb d_M_nodeOf_13 rfl (lv_at hl 0 rfl) ?_
    refine wg_gM hx hb hts hown hK hP 7 (by decide) (v := .ref (ad 7)) kf_M_23 rfl d_M_nodeOf_14 ?_
    refine lv_iload_n hx hb d_M_nodeOf_17 rfl (lv_at hl 3 rfl) ?_
    refine wg_ild (f := I 7) (j := x) hx hb hK hP 5 rfl (by omega) (by decide) d_M_nodeOf_18 ?_
    have hB18 := hOW x (by omega)
    refine lv_aload_n hx hb d_M_nodeOf_19 rfl (lv_at hl 0 rfl) ?_
    refine wg_gM hx hb hts hown hK hP 8 (by decide) (v := .ref (ad 8)) kf_M_26 rfl d_M_nodeOf_20 ?_
    refine lv_iload_n hx hb d_M_nodeOf_23 rfl (lv_at hl 3 rfl) ?_
    refine wg_ild (f := I 8) (j := x) hx hb hK hP 6 rfl (by omega) (by decide) d_M_nodeOf_24 ?_
    have hB24 := hOL x (by omega)
    refine wg_cvi (As := [.int (nI k), .int (nI n), .int (nI (I 7 x)), .int (nI (I 8 x))]) (rest := []) hx hb hml hown hts hK hP (hD _) hS hA rfl rfl rfl (c_M_within l D cJ cI h0 ad _ I k n (I 7 x) (I 8 x) hk hnn (by omega) (by omega) hI) kc_M_63 ⟨rfl, rfl⟩ ⟨Nat.le_of_ble_eq_true rfl, Nat.le_of_ble_eq_true rfl⟩ rfl hl.1 rfl (Nat.le_of_ble_eq_true rfl) d_M_nodeOf_25 ⟨Nat.zero_le _, Nat.zero_le _⟩ (fun r u25 tt H locs ht q25 hB _ _ hS => ?_)
    have hP : va_P D wg_cl (wg_WM cJ cI h0 ad I) H := by rw [← ht]; exact hB
    clear hB ht tt
    rcases q25 with rfl | rfl
    · skip
      refine lv_if_eq (tgt := 54) hx hb d_M_nodeOf_28 (by decide) (fun h => absurd h (by decide +kernel)) (fun _ => ?_)
      refine lv_aload_n hx hb d_M_nodeOf_31 rfl (lv_at hl 0 rfl) ?_
      refine lv_aload_n hx hb d_M_nodeOf_32 rfl (lv_at hl 0 rfl) ?_
      refine wg_gM hx hb hts hown hK hP 7 (by decide) (v := .ref (ad 7)) kf_M_23 rfl d_M_nodeOf_33 ?_
      refine lv_iload_n hx hb d_M_nodeOf_36 rfl (lv_at hl 3 rfl) ?_
      refine wg_ild (f := I 7) (j := x) hx hb hK hP 5 rfl (by omega) (by decide) d_M_nodeOf_37 ?_
      have hB37 := hOW x (by omega)
      refine lv_aload_n hx hb d_M_nodeOf_38 rfl (lv_at hl 0 rfl) ?_
      refine wg_gM hx hb hts hown hK hP 8 (by decide) (v := .ref (ad 8)) kf_M_26 rfl d_M_nodeOf_39 ?_
      refine lv_iload_n hx hb d_M_nodeOf_42 rfl (lv_at hl 3 rfl) ?_
      refine wg_ild (f := I 8) (j := x) hx hb hK hP 6 rfl (by omega) (by decide) d_M_nodeOf_43 ?_
      have hB43 := hOL x (by omega)
      refine lv_iload_n hx hb d_M_nodeOf_44 rfl (lv_at hl 1 rfl) ?_
      refine lv_iload_n hx hb d_M_nodeOf_45 rfl (lv_at hl 2 rfl) ?_
      refine wg_cvi (As := [.int (nI (I 7 x)), .int (nI (I 8 x)), .int (nI k), .int (nI n)]) (rest := []) hx hb hml hown hts hK hP (hD _) hS hA rfl rfl rfl (c_M_within l D cJ cI h0 ad _ I (I 7 x) (I 8 x) k n (by omega) (by omega) hk hnn hI) kc_M_63 ⟨rfl, rfl⟩ ⟨Nat.le_of_ble_eq_true rfl, Nat.le_of_ble_eq_true rfl⟩ rfl hl.1 rfl (Nat.le_of_ble_eq_true rfl) d_M_nodeOf_46 ⟨Nat.zero_le _, Nat.zero_le _⟩ (fun r u46 tt H locs ht q46 hB _ _ hS => ?_)
      have hP : va_P D wg_cl (wg_WM cJ cI h0 ad I) H := by rw [← ht]; exact hB
      clear hB ht tt
      rcases q46 with rfl | rfl
      · skip
        refine lv_if_eq (tgt := 54) hx hb d_M_nodeOf_49 (by decide) (fun h => absurd h (by decide +kernel)) (fun _ => ?_)
        refine lv_iload_n hx hb d_M_nodeOf_52 rfl (lv_at hl 3 rfl) ?_
        exact W.iret (v := (nI x)) hx hb hr (fun tt hth hW => ⟨⟨_, I, rfl, ⟨⟨x, by omega, rfl⟩, hI, fun _ _ => rfl, by omega⟩, wg_h hth hP⟩, hS.F hth⟩) hS.2.2 d_M_nodeOf_53
      · skip
        refine lv_if_eq (tgt := 54) hx hb d_M_nodeOf_49 (by decide) (fun _ => ?_) (fun h => absurd h (by decide +kernel))
        refine lv_iinc (v := nI (x + 1)) (k := 3) (lv' := [(3, .int (nI (x + 1))), (0, .ref h0), (1, .int (nI k)), (2, .int (nI n))]) hx hb d_M_nodeOf_54 hl rfl (nI_1 _) (by decide) rfl (fun ls hl => ?_)
        refine lv_goto (tgt := 2) hx hb d_M_nodeOf_57 (by decide) ?_
        exact ih2 (x + 1) 0 0 (fun _ _ => 0) _ _ _ ⟨(by omega), hP, hS, lv_sub hl [1, 2, 3, 0] rfl⟩ (by omega)
    · skip
      refine lv_if_eq (tgt := 54) hx hb d_M_nodeOf_28 (by decide) (fun _ => ?_) (fun h => absurd h (by decide +kernel))
      refine lv_iinc (v := nI (x + 1)) (k := 3) (lv' := [(3, .int (nI (x + 1))), (0, .ref h0), (1, .int (nI k)), (2, .int (nI n))]) hx hb d_M_nodeOf_54 hl rfl (nI_1 _) (by decide) rfl (fun ls hl => ?_)
      refine lv_goto (tgt := 2) hx hb d_M_nodeOf_57 (by decide) ?_
      exact ih2 (x + 1) 0 0 (fun _ _ => 0) _ _ _ ⟨(by omega), hP, hS, lv_sub hl [1, 2, 3, 0] rfl⟩ (by omega)
set_option maxHeartbeats 4000000 in
set_option maxRecDepth 100000 in
theorem c_M_seal (l : Launch) (D : va_G) (cJ cI : ClassId) (h0 : Nat) (ad : Nat → Nat) (sz : Nat) (I : wg_S) (hI : wg_MI I) : Met l y_M_seal (wg_ws y_M_seal b_M_seal 3 (some .boolean)) ({ frames := 5, cells := 0, slots := 0, locals := 121 }) (va_Pc [.ref h0] (wg_Pc D cJ cI (wg_WM cJ cI h0 ad I) sz)) (va_Qi (fun (r : Int32) (u : wg_S) => (¬ I 2 0 = 0 ∧ r = nI 0 ∧ u = I) ∨ (I 2 0 = 0 ∧ r = nI 1 ∧ u 2 0 = 1 ∧ wg_MI u ∧ (∀ j, ¬ j = 2 → (j < 6 ∨ j = 10) → u j = I j))) (fun (u : wg_S) t => va_P D wg_cl (wg_WM cJ cI h0 ad u) t.heap) (va_A (wg_WM cJ cI h0 ad I) sz)) 0 0 (va_A (wg_WM cJ cI h0 ad I) sz) := by
  refine wg_head (Wd := (fun I => wg_WM cJ cI h0 ad I)) (I := I) (fun A => va_Qi (fun (r : Int32) (u : wg_S) => (¬ I 2 0 = 0 ∧ r = nI 0 ∧ u = I) ∨ (I 2 0 = 0 ∧ r = nI 1 ∧ u 2 0 = 1 ∧ wg_MI u ∧ (∀ j, ¬ j = 2 → (j < 6 ∨ j = 10) → u j = I j))) (fun (u : wg_S) t => va_P D wg_cl (wg_WM cJ cI h0 ad u) t.heap) A) R_M (by decide) rfl (Nat.le_of_ble_eq_true rfl) (fun I J => wg_same_M I J) ?_
  intro p e s m below meth c A ls hx hb hr hlk hml hown hnm hts hA hK hD hP hS hl hsz
  clear hsz
  have hl : lv_has ls 3 [(0, .ref h0)] := hl
  have hP : va_P D wg_cl (wg_WM cJ cI h0 ad I) s.heap := hP
  skip
  have hI' := hI
  obtain ⟨hn, hse, hfd, hnd, hw, hOW, hOL⟩ := hI'
  refine lv_aload_n hx hb d_M_seal_0 rfl (lv_at hl 0 rfl) ?_
  refine wg_gM hx hb hts hown hK hP 2 (by decide) (v := .int (nI (I 2 0))) kf_M_40 rfl d_M_seal_1 ?_
  refine lv_if_eq (tgt := 9) hx hb d_M_seal_4 (by decide) (fun h4 => ?_) (fun h4 => ?_)
  · rw [wg_z0 (by omega)] at h4
    refine lv_aload_n hx hb d_M_seal_9 rfl (lv_at hl 0 rfl) ?_
    refine lv_iconst (v := (nI 1)) hx hb d_M_seal_10 (by decide +kernel) ?_
    refine wg_pM2 (v := 1) hx hb hts hown hK hP hD hS kf_M_40 (by decide +kernel) (by decide +kernel) d_M_seal_11 (fun H locs hP hS => ?_)
    refine lv_aload_n hx hb d_M_seal_14 rfl (lv_at hl 0 rfl) ?_
    refine lv_aload_n hx hb d_M_seal_15 rfl (lv_at hl 0 rfl) ?_
    refine wg_gM hx hb hts hown hK hP 1 (by decide) (v := .int (nI (I 1 0))) kf_M_32 rfl d_M_seal_16 ?_
    refine lv_if_ne (tgt := 26) hx hb d_M_seal_19 (by decide) (fun h19 => ?_) (fun h19 => ?_)
    · rw [wg_z0 (by omega)] at h19
      refine lv_iconst (v := (nI 0)) hx hb d_M_seal_26 (by decide +kernel) ?_
      refine wg_pM9 (v := 0) hx hb hts hown hK hP hD hS kf_M_60 d_M_seal_27 (fun H locs hP hS => ?_)
      refine lv_iconst (v := (nI 0)) hx hb d_M_seal_30 (by decide +kernel) ?_
      refine lv_istore_n (lv' := [(1, .int (nI 0)), (0, .ref h0)]) hx hb d_M_seal_31 rfl hl (by decide) rfl (fun ls hl => ?_)
      refine wg_loop (fun k _ _ J H locs ls => (wg_MI J) ∧ (J 2 0 = 1) ∧ (∀ j, ¬ j = 2 → (j < 6 ∨ j = 10) → J j = I j) ∧ (J 9 0 ≤ 13 * k ∨ I 1 0 = 0) ∧ (k ≤ 48) ∧ va_P D wg_cl (wg_WM cJ cI h0 ad J) H ∧ va_S A s.heap H locs ∧ lv_has ls 3 [(0, .ref h0), (1, .int (nI k))]) (fun k _ _ J => 48 - k) (fun k _z0 _z1 J H locs ls hI ih32 => ?_) 0 0 0 (wg_st (wg_st I 2 0 1) 9 0 0) _ _ _ ⟨(by first | exact wg_MI_29 hI (by omega) (by omega)), rfl, (fun j h1 h2 => (wg_st_o _ _ _ _ (by omega)).trans (wg_st_o _ _ _ _ h1)), (by first | exact Or.inr (by omega) | exact Or.inl (Nat.zero_le _)), (by omega), hP, hS, lv_sub hl [1, 0] rfl⟩
      obtain ⟨hJ, hJs, hJf, hJc, hk, hP, hS, hl⟩ := hI
      have hJ' := hJ
      clear hn hse hfd hnd hw hOW hOL
      obtain ⟨hn, hse, hfd, hnd, hw, hOW, hOL⟩ := hJ'
      have hJn : J 1 0 = I 1 0 := by rw [hJf 1 (by decide) (by decide)]
      refine lv_iload_n hx hb d_M_seal_32 rfl (lv_at hl 1 rfl) ?_
      refine lv_aload_n hx hb d_M_seal_33 rfl (lv_at hl 0 rfl) ?_
      refine wg_gM hx hb hts hown hK hP 1 (by decide) (v := .int (nI (J 1 0))) kf_M_32 rfl d_M_seal_34 ?_
      refine lv_icmp_ge (tgt := 84) hx hb d_M_seal_37 (by decide) (fun h37 => ?_) (fun h37 => ?_)
      · rw [nI_leI (by omega) (by omega)] at h37
        refine lv_iconst (v := (nI 1)) hx hb d_M_seal_84 (by decide +kernel) ?_
        exact W.zret (ty := .boolean) (v := (nI 1)) hx hb hr (by decide +kernel) (fun tt hth hW => ⟨⟨_, J, rfl, (Or.inr ⟨h4, rfl, hJs, hJ, hJf⟩), wg_h hth hP⟩, hS.F hth⟩) hS.2.2 d_M_seal_85
      · rw [nI_leI (by omega) (by omega)] at h37
        refine lv_iconst (v := (nI 0)) hx hb d_M_seal_40 (by decide +kernel) ?_
        refine lv_istore_n (lv' := [(2, .int (nI 0)), (0, .ref h0), (1, .int (nI k))]) hx hb d_M_seal_41 rfl hl (by decide) rfl (fun ls hl => ?_)
        refine wg_loop (fun n _ _ K H locs ls => (wg_MI K) ∧ (K 2 0 = 1) ∧ (∀ j, ¬ j = 2 → (j < 6 ∨ j = 10) → K j = I j) ∧ (K 9 0 ≤ 13 * k + n) ∧ (n ≤ 13) ∧ va_P D wg_cl (wg_WM cJ cI h0 ad K) H ∧ va_S A s.heap H locs ∧ lv_has ls 3 [(0, .ref h0), (1, .int (nI k)), (2, .int (nI n))]) (fun n _ _ K => 13 - n) (fun n _z0 _z1 K H locs ls hI ih42 => ?_) 0 0 0 J _ _ _ ⟨hJ, hJs, hJf, (by omega), (by omega), hP, hS, lv_sub hl [1, 2, 0] rfl⟩
        obtain ⟨hJ2, hJs2, hJf2, hJc2, hn13, hP, hS, hl⟩ := hI
        have hJ := hJ2
        have hJ' := hJ
        clear hn hse hfd hnd hw hOW hOL
        obtain ⟨hn, hse, hfd, hnd, hw, hOW, hOL⟩ := hJ'
        have hK1 : K 1 0 = I 1 0 := by rw [hJf2 1 (by decide) (by decide)]
        refine lv_iload_n hx hb d_M_seal_42 rfl (lv_at hl 2 rfl) ?_
        refine lv_aload_n hx hb d_M_seal_43 rfl (lv_at hl 0 rfl) ?_
        refine wg_gM hx hb hts hown hK hP 0 (by decide) (v := .ref (ad 0)) kf_M_7 rfl d_M_seal_44 ?_
        refine lv_iload_n hx hb d_M_seal_47 rfl (lv_at hl 1 rfl) ?_
        refine wg_lld (f := K 0) (j := k) hx hb hK hP 1 rfl (by omega) (by decide) d_M_seal_48 ?_
        have hB48 := hw k (by omega)
        refine wg_csi (As := [.long (lN (K 0 k))]) (rest := [.int (nI n)]) hx hb hml hown hts hK hP hS hA (c_M_length l D cJ cI _ (K 0 k) (by omega)) kc_M_52 ⟨rfl, rfl⟩ ⟨Nat.le_of_ble_eq_true rfl, Nat.le_of_ble_eq_true rfl⟩ rfl hl.1 rfl (Nat.le_of_ble_eq_true rfl) d_M_seal_49 ⟨Nat.zero_le _, Nat.zero_le _⟩ (fun r H locs q49 hP hS => ?_)
        obtain rfl := q49
        have hq49 := wg_ln_le (K 0 k)
        refine lv_icmp_gt (tgt := 78) hx hb d_M_seal_52 (by decide) (fun h52 => ?_) (fun h52 => ?_)
        · rw [nI_ltI (by omega) (by omega)] at h52
          refine lv_iinc (v := nI (k + 1)) (k := 1) (lv' := [(1, .int (nI (k + 1))), (0, .ref h0), (2, .int (nI n))]) hx hb d_M_seal_78 hl rfl (nI_1 _) (by decide) rfl (fun ls hl => ?_)
          refine lv_goto (tgt := 32) hx hb d_M_seal_81 (by decide) ?_
          exact ih32 (k + 1) 0 0 K _ _ _ ⟨hJ2, hJs2, hJf2, (by omega), (by omega), hP, hS, lv_sub hl [1, 0] rfl⟩ (by omega)
        · rw [nI_ltI (by omega) (by omega)] at h52
          refine lv_aload_n hx hb d_M_seal_55 rfl (lv_at hl 0 rfl) ?_
          refine wg_gM hx hb hts hown hK hP 6 (by decide) (v := .ref (ad 6)) kf_M_20 rfl d_M_seal_56 ?_
          refine lv_bipush (v := (nI 13)) hx hb d_M_seal_59 (by decide +kernel) ?_
          refine lv_iload_n hx hb d_M_seal_61 rfl (lv_at hl 1 rfl) ?_
          refine t_imul (v := nI (13 * k)) hx hb d_M_seal_62 (pk_mul _ _) ?_
          refine lv_iload_n hx hb d_M_seal_63 rfl (lv_at hl 2 rfl) ?_
          refine t_iadd (v := nI ((13 * k) + n)) hx hb d_M_seal_64 (nI_add _ _) ?_
          refine lv_aload_n hx hb d_M_seal_65 rfl (lv_at hl 0 rfl) ?_
          refine lv_iload_n hx hb d_M_seal_66 rfl (lv_at hl 1 rfl) ?_
          refine lv_iload_n hx hb d_M_seal_67 rfl (lv_at hl 2 rfl) ?_
          refine wg_cvi (As := [.int (nI k), .int (nI n)]) (rest := [.int (nI ((13 * k) + n)), .ref (ad 6)]) hx hb hml hown hts hK hP (hD _) hS hA rfl rfl rfl (c_M_nodeOf l D cJ cI h0 ad _ K k n (by omega) (by omega) (by omega) hJ2) kc_M_66 ⟨rfl, rfl⟩ ⟨Nat.le_of_ble_eq_true rfl, Nat.le_of_ble_eq_true rfl⟩ rfl hl.1 rfl (Nat.le_of_ble_eq_true rfl) d_M_seal_68 ⟨Nat.zero_le _, Nat.zero_le _⟩ (fun r u68 tt H locs ht q68 hB _ _ hS => ?_)
          have hP : va_P D wg_cl (wg_WM cJ cI h0 ad u68) H := by rw [← ht]; exact hB
          clear hB ht tt
          obtain ⟨⟨v68, hv68, rfl⟩, hq68a, hq68b, hq68c⟩ := q68
          refine wg_sM6 (j := ((13 * k) + n)) (x := v68) hx hb hK hP hD hS (by omega) d_M_seal_71 (fun H locs hP hS => ?_)
          refine lv_iinc (v := nI (n + 1)) (k := 2) (lv' := [(2, .int (nI (n + 1))), (0, .ref h0), (1, .int (nI k))]) hx hb d_M_seal_72 hl rfl (nI_1 _) (by decide) rfl (fun ls hl => ?_)
          refine lv_goto (tgt := 42) hx hb d_M_seal_75 (by decide) ?_
          exact ih42 (n + 1) 0 0 (wg_st u68 6 ((13 * k) + n) v68) _ _ _ ⟨(wg_MI_6 hq68a), (by show u68 2 0 = 1; rw [hq68b 2 (by omega)]; exact hJs2), (fun j h1 h2 => (wg_st_o _ _ _ _ (by omega)).trans ((hq68b j (by omega)).trans (hJf2 j h1 h2))), (by show u68 9 0 ≤ _; omega), (by omega), hP, hS, lv_sub hl [1, 2, 0] rfl⟩ (by omega)
    · rw [wg_z0 (by omega)] at h19
      refine lv_iconst (v := (nI 1)) hx hb d_M_seal_22 (by decide +kernel) ?_
      refine lv_goto (tgt := 27) hx hb d_M_seal_23 (by decide) ?_
      refine wg_pM9 (v := 1) hx hb hts hown hK hP hD hS kf_M_60 d_M_seal_27 (fun H locs hP hS => ?_)
      refine lv_iconst (v := (nI 0)) hx hb d_M_seal_30 (by decide +kernel) ?_
      refine lv_istore_n (lv' := [(1, .int (nI 0)), (0, .ref h0)]) hx hb d_M_seal_31 rfl hl (by decide) rfl (fun ls hl => ?_)
      refine wg_loop (fun k _ _ J H locs ls => (wg_MI J) ∧ (J 2 0 = 1) ∧ (∀ j, ¬ j = 2 → (j < 6 ∨ j = 10) → J j = I j) ∧ (J 9 0 ≤ 13 * k ∨ I 1 0 = 0) ∧ (k ≤ 48) ∧ va_P D wg_cl (wg_WM cJ cI h0 ad J) H ∧ va_S A s.heap H locs ∧ lv_has ls 3 [(0, .ref h0), (1, .int (nI k))]) (fun k _ _ J => 48 - k) (fun k _z0 _z1 J H locs ls hI ih32 => ?_) 0 0 0 (wg_st (wg_st I 2 0 1) 9 0 1) _ _ _ ⟨(by first | exact wg_MI_29 hI (by omega) (by omega)), rfl, (fun j h1 h2 => (wg_st_o _ _ _ _ (by omega)).trans (wg_st_o _ _ _ _ h1)), (by first | exact Or.inr (by omega) | exact Or.inl (Nat.zero_le _)), (by omega), hP, hS, lv_sub hl [1, 0] rfl⟩
      obtain ⟨hJ, hJs, hJf, hJc, hk, hP, hS, hl⟩ := hI
      have hJ' := hJ
      clear hn hse hfd hnd hw hOW hOL
      obtain ⟨hn, hse, hfd, hnd, hw, hOW, hOL⟩ := hJ'
      have hJn : J 1 0 = I 1 0 := by rw [hJf 1 (by decide) (by decide)]
      refine lv_iload_n hx hb d_M_seal_32 rfl (lv_at hl 1 rfl) ?_
      refine lv_aload_n hx hb d_M_seal_33 rfl (lv_at hl 0 rfl) ?_
      refine wg_gM hx hb hts hown hK hP 1 (by decide) (v := .int (nI (J 1 0))) kf_M_32 rfl d_M_seal_34 ?_
      refine lv_icmp_ge (tgt := 84) hx hb d_M_seal_37 (by decide) (fun h37 => ?_) (fun h37 => ?_)
      · rw [nI_leI (by omega) (by omega)] at h37
        refine lv_iconst (v := (nI 1)) hx hb d_M_seal_84 (by decide +kernel) ?_
        exact W.zret (ty := .boolean) (v := (nI 1)) hx hb hr (by decide +kernel) (fun tt hth hW => ⟨⟨_, J, rfl, (Or.inr ⟨h4, rfl, hJs, hJ, hJf⟩), wg_h hth hP⟩, hS.F hth⟩) hS.2.2 d_M_seal_85
      · rw [nI_leI (by omega) (by omega)] at h37
        refine lv_iconst (v := (nI 0)) hx hb d_M_seal_40 (by decide +kernel) ?_
        refine lv_istore_n (lv' := [(2, .int (nI 0)), (0, .ref h0), (1, .int (nI k))]) hx hb d_M_seal_41 rfl hl (by decide) rfl (fun ls hl => ?_)
        refine wg_loop (fun n _ _ K H locs ls => (wg_MI K) ∧ (K 2 0 = 1) ∧ (∀ j, ¬ j = 2 → (j < 6 ∨ j = 10) → K j = I j) ∧ (K 9 0 ≤ 13 * k + n) ∧ (n ≤ 13) ∧ va_P D wg_cl (wg_WM cJ cI h0 ad K) H ∧ va_S A s.heap H locs ∧ lv_has ls 3 [(0, .ref h0), (1, .int (nI k)), (2, .int (nI n))]) (fun n _ _ K => 13 - n) (fun n _z0 _z1 K H locs ls hI ih42 => ?_) 0 0 0 J _ _ _ ⟨hJ, hJs, hJf, (by omega), (by omega), hP, hS, lv_sub hl [1, 2, 0] rfl⟩
        obtain ⟨hJ2, hJs2, hJf2, hJc2, hn13, hP, hS, hl⟩ := hI
        have hJ := hJ2
        have hJ' := hJ
        clear hn hse hfd hnd hw hOW hOL
        obtain ⟨hn, hse, hfd, hnd, hw, hOW, hOL⟩ := hJ'
        have hK1 : K 1 0 = I 1 0 := by rw [hJf2 1 (by decide) (by decide)]
        refine lv_iload_n hx hb d_M_seal_42 rfl (lv_at hl 2 rfl) ?_
        refine lv_aload_n hx hb d_M_seal_43 rfl (lv_at hl 0 rfl) ?_
        refine wg_gM hx hb hts hown hK hP 0 (by decide) (v := .ref (ad 0)) kf_M_7 rfl d_M_seal_44 ?_
        refine lv_iload_n hx hb d_M_seal_47 rfl (lv_at hl 1 rfl) ?_
        refine wg_lld (f := K 0) (j := k) hx hb hK hP 1 rfl (by omega) (by decide) d_M_seal_48 ?_
        have hB48 := hw k (by omega)
        refine wg_csi (As := [.long (lN (K 0 k))]) (rest := [.int (nI n)]) hx hb hml hown hts hK hP hS hA (c_M_length l D cJ cI _ (K 0 k) (by omega)) kc_M_52 ⟨rfl, rfl⟩ ⟨Nat.le_of_ble_eq_true rfl, Nat.le_of_ble_eq_true rfl⟩ rfl hl.1 rfl (Nat.le_of_ble_eq_true rfl) d_M_seal_49 ⟨Nat.zero_le _, Nat.zero_le _⟩ (fun r H locs q49 hP hS => ?_)
        obtain rfl := q49
        have hq49 := wg_ln_le (K 0 k)
        refine lv_icmp_gt (tgt := 78) hx hb d_M_seal_52 (by decide) (fun h52 => ?_) (fun h52 => ?_)
        · rw [nI_ltI (by omega) (by omega)] at h52
          refine lv_iinc (v := nI (k + 1)) (k := 1) (lv' := [(1, .int (nI (k + 1))), (0, .ref h0), (2, .int (nI n))]) hx hb d_M_seal_78 hl rfl (nI_1 _) (by decide) rfl (fun ls hl => ?_)
          refine lv_goto (tgt := 32) hx hb d_M_seal_81 (by decide) ?_
          exact ih32 (k + 1) 0 0 K _ _ _ ⟨hJ2, hJs2, hJf2, (by omega), (by omega), hP, hS, lv_sub hl [1, 0] rfl⟩ (by omega)
        · rw [nI_ltI (by omega) (by omega)] at h52
          refine lv_aload_n hx hb d_M_seal_55 rfl (lv_at hl 0 rfl) ?_
          refine wg_gM hx hb hts hown hK hP 6 (by decide) (v := .ref (ad 6)) kf_M_20 rfl d_M_seal_56 ?_
          refine lv_bipush (v := (nI 13)) hx hb d_M_seal_59 (by decide +kernel) ?_
          refine lv_iload_n hx hb d_M_seal_61 rfl (lv_at hl 1 rfl) ?_
          refine t_imul (v := nI (13 * k)) hx hb d_M_seal_62 (pk_mul _ _) ?_
          refine lv_iload_n hx hb d_M_seal_63 rfl (lv_at hl 2 rfl) ?_
          refine t_iadd (v := nI ((13 * k) + n)) hx hb d_M_seal_64 (nI_add _ _) ?_
          refine lv_aload_n hx hb d_M_seal_65 rfl (lv_at hl 0 rfl) ?_
          refine lv_iload_n hx hb d_M_seal_66 rfl (lv_at hl 1 rfl) ?_
          refine lv_iload_n hx hb d_M_seal_67 rfl (lv_at hl 2 rfl) ?_
          refine wg_cvi (As := [.int (nI k), .int (nI n)]) (rest := [.int (nI ((13 * k) + n)), .ref (ad 6)]) hx hb hml hown hts hK hP (hD _) hS hA rfl rfl rfl (c_M_nodeOf l D cJ cI h0 ad _ K k n (by omega) (by omega) (by omega) hJ2) kc_M_66 ⟨rfl, rfl⟩ ⟨Nat.le_of_ble_eq_true rfl, Nat.le_of_ble_eq_true rfl⟩ rfl hl.1 rfl (Nat.le_of_ble_eq_true rfl) d_M_seal_68 ⟨Nat.zero_le _, Nat.zero_le _⟩ (fun r u68 tt H locs ht q68 hB _ _ hS => ?_)
          have hP : va_P D wg_cl (wg_WM cJ cI h0 ad u68) H := by rw [← ht]; exact hB
          clear hB ht tt
          obtain ⟨⟨v68, hv68, rfl⟩, hq68a, hq68b, hq68c⟩ := q68
          refine wg_sM6 (j := ((13 * k) + n)) (x := v68) hx hb hK hP hD hS (by omega) d_M_seal_71 (fun H locs hP hS => ?_)
          refine lv_iinc (v := nI (n + 1)) (k := 2) (lv' := [(2, .int (nI (n + 1))), (0, .ref h0), (1, .int (nI k))]) hx hb d_M_seal_72 hl rfl (nI_1 _) (by decide) rfl (fun ls hl => ?_)
          refine lv_goto (tgt := 42) hx hb d_M_seal_75 (by decide) ?_
          exact ih42 (n + 1) 0 0 (wg_st u68 6 ((13 * k) + n) v68) _ _ _ ⟨(wg_MI_6 hq68a), (by show u68 2 0 = 1; rw [hq68b 2 (by omega)]; exact hJs2), (fun j h1 h2 => (wg_st_o _ _ _ _ (by omega)).trans ((hq68b j (by omega)).trans (hJf2 j h1 h2))), (by show u68 9 0 ≤ _; omega), (by omega), hP, hS, lv_sub hl [1, 2, 0] rfl⟩ (by omega)
  · rw [wg_z0 (by omega)] at h4
    refine lv_iconst (v := (nI 0)) hx hb d_M_seal_7 (by decide +kernel) ?_
    exact W.zret (ty := .boolean) (v := (nI 0)) hx hb hr (by decide +kernel) (fun tt hth hW => ⟨⟨_, I, rfl, (Or.inl ⟨h4, rfl, rfl⟩), wg_h hth hP⟩, hS.F hth⟩) hS.2.2 d_M_seal_8
