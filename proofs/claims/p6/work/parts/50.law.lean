/-! THE CLAIM OUT OF ONE WALK OF THE LAW'S BODY. Your part is whole_start (and what it stands on); all else here is the same for every law, but numbers. -/
def lw_P (b : Addr) (xs : List Int32) (args : Array Value) (s : State) : Prop := args = #[.ref b] ∧ s.IntsAt b xs ∧ xs.length ≤ 2048 ∧ (Jvm.Cond.and given_1 narrow_1).before args s = true
def lw_Q (_ : Array Value) (s : State) (o : Outcome) (t : State) : Prop := o = .returned (some (.int 1)) ∧ Framed s o t [] 19 4447
def lw_Z (below : List Frame) (a : Array Value) (s : State) : State → Prop := fun t => ∃ o, t.status = .running ∧ Ended t below o ∧ lw_Q a s o t
/-- the law's own end, with 1 on the stack, nothing written that was there before, its room as the claim has it -/
theorem lw_ret {p : Program} {l : Launch} {e : Env} {s : State} {m : MethodId} {below : List Frame} {meth : Method} {c : Code} {b : Nat} (hx : p.tables.exec = Jvm.exec) (hb : c.code = code) (hr : meth.sig.returnType = ret) (hlocks : meth.locks = false) {pc : Nat} {H : Heap} {ls : Array Slot} (hdg : decode code pc = .ok (.ireturn, 1)) : W p l e room_1 s m #[Value.ref b] below meth c H [] 19 4447 (lw_Z below #[Value.ref b] s) (F0 m pc ls [.int 1]) := by
  intro T hT X
  obtain ⟨fs, hret, hrun, hended, hW, hframe⟩ := X.leave (v := some (.int 1)) (hlocks := hlocks) (fun h => by rw [hr] at h; cases h)
  have hmeth' : T.vm.method? m = some meth := X.method'
  refine ⟨T.setFrames fs, ?_, .returned (some (.int 1)), hrun, hended, rfl, ⟨_, rfl⟩, hW, hframe⟩
  jvm_step X.here [X.here.top, hx, hb, hdg, hmeth', hr, ret, narrow_b1]
  (try refine ⟨rfl, ?_⟩); (try refine ⟨rfl, ?_⟩)
  first | (intro acts; rw [hret _ acts rfl rfl rfl]) | rw [hret _ _ rfl rfl rfl]
  exact Steps.refl _
/-- what holds at the law's entry: the machine, the code, the tables' words (any of lw_tbl by 'hts w (by decide +kernel)'), the script of L ints xs at the cell b, what the Statement gives of the start (any of its parts by flat_of_before) -/
def lw_At (p : Program) (s : State) (m : MethodId) (meth : Method) (c : Code) (b L : Nat) (xs : Nat → Int32) : Prop :=
  p.tables.exec = Jvm.exec ∧ c.code = code ∧ meth.sig.returnType = ret ∧ c.maxLocals = 4 ∧ s.vm.findClass R_law = some m.cls ∧ (∀ w ∈ lw_tbl, w.before #[Value.ref b] s = true) ∧ va_X b L xs s s.heap ∧ b < s.heap.size ∧ meth.locks = false ∧ (Jvm.Cond.and given_1 narrow_1).before #[Value.ref b] s = true
set_option maxHeartbeats 40000000 in
set_option maxRecDepth 100000 in
/-- YOUR PART: from the entry, for every script of at most 2048 ints, the law comes to its end with true -/
theorem whole_start {p : Program} {e : Env} {s : State} {m : MethodId} {below : List Frame} {meth : Method} {c : Code} (l : Launch) {b L : Nat} {xs : Nat → Int32} (hL : L ≤ 2048) (C0 : lw_At p s m meth c b L xs) : W p l e room_1 s m #[Value.ref b] below meth c s.heap [] 0 0 (lw_Z below #[Value.ref b] s) (entryFrame m ([Value.ref b] : List Value).toArray 4) := by
  obtain ⟨hx, hb, hr, hml, hown, hts, hX, hbl, hlk, -⟩ := C0
  have hts : ∀ w ∈ wg_tbl, w.before #[Value.ref b] s = true := fun w h => hts w (List.mem_filter.mp h).1
  obtain ⟨D, cJ, cI, hK⟩ := wg_K0 hts ki_X ki_M ka_j ka_i
  rw [lg_entry_eq]
  have hl := lv_entry ([Value.ref b]) (n := 4) (Nat.le_of_ble_eq_true rfl)
  generalize (lg_sl ([Value.ref b]) ++ List.replicate (4 - (lg_sl ([Value.ref b])).length) Slot.unset).toArray = ls at hl ⊢
  have hl : lv_has ls 4 [(0, .ref b)] := hl
  obtain ⟨A, hAd⟩ : ∃ A : Nat → Prop, A = fun q => s.heap.size ≤ q := ⟨_, rfl⟩
  have hA : ∀ q, s.heap.size ≤ q → A q := fun q h => by rw [hAd]; exact h
  have hA' : ∀ q, A q → s.heap.size ≤ q := fun q h => by rw [hAd] at h; exact h
  have hbA : ¬ A b := fun q => by have := hA' b q; omega
  clear hAd
  have hS : va_S A s.heap s.heap [] := va_S.rf
  have hP : va_P D wg_cl [] s.heap := fun k q h => by cases h
  have hD : va_D A [] := ⟨fun i j p q h => (by cases h), fun k q h => (by cases h)⟩
  refine va_new (ci := 0) (fs := wg_BX) (C := R_X) (T := F_X) (N := 14) hx hb hts wg_inX t_X t_X_ok hown (hts _ kn_L_7) (hts _ ki_X) (hts _ kz_X) hK hP hD hS hA rfl (fun j hj => by rcases (show j = 0 ∨ j = 1 ∨ j = 2 ∨ j = 3 ∨ j = 4 ∨ j = 5 ∨ j = 6 ∨ j = 7 ∨ j = 8 ∨ j = 9 ∨ j = 10 ∨ j = 11 ∨ j = 12 ∨ j = 13 by omega) with rfl | rfl | rfl | rfl | rfl | rfl | rfl | rfl | rfl | rfl | rfl | rfl | rfl | rfl <;> rfl) (Nat.le_of_ble_eq_true rfl) (Nat.le_of_ble_eq_true rfl) d_L_law_0 (fun hX0 H hP hD hS => ?_)
  have hP : va_P D wg_cl [(hX0, .inr (0, wg_BX))] H := hP
  have hD : va_D A [(hX0, .inr (0, wg_BX))] := hD
  refine W.widen (k := 1) (n := 14) (by decide) (by decide) ?_
  refine lv_dup hx hb d_L_law_3 rfl ?_
  have hPc := hP
  have hDc := hD
  have hF := wg_free hD hS hA
  refine va_callv (va_runI (As := []) (rest := [.ref hX0]) ⟨hx, hb, hml, hown, hts⟩ (c_X_init l D cJ cI hX0 H.size) ⟨callB_of 0 hts (wg_GI kd_X_init) rfl rfl rfl (hts _ kz_X) (hts _ km_L_9) (by decide +kernel) ⟨Nat.le_of_ble_eq_true rfl, Nat.le_of_ble_eq_true rfl⟩, rfl, hts _ kj_X_init⟩ ⟨wg_blind, wg_pre hK hPc hDc⟩ rfl rfl hl.1 rfl (lv_room (Nat.le_of_ble_eq_true rfl)) d_L_law_4 ⟨Nat.le_of_ble_eq_true rfl, Nat.le_of_ble_eq_true rfl⟩) hS (fun q _ h => hF q h) hF (fun ad t H1 locs ht hvm _ hB hz hk hS => ?_)
  obtain ⟨hPx, hDx⟩ := hB
  rw [ht] at hPx
  have hDx : va_D A (wg_WX cJ cI hX0 ad wg_cX) := hDx.weaken (fun _ _ _ h => hF _ h)
  clear hP hD hPc hDc hF hk hz hvm ht t
  refine W.widen (k := 11) (n := 2249) (by decide) (by decide) ?_
  refine lv_astore_n (lv' := [(1, .ref hX0), (0, .ref b)]) hx hb d_L_law_7 rfl hl (by decide) rfl (fun ls hl => ?_)
  refine va_new (ci := 1) (fs := wg_BM) (C := R_M) (T := F_M) (N := 11) hx hb hts wg_inM t_M t_M_ok hown (hts _ kn_L_10) (hts _ ki_M) (hts _ kz_M) hK hPx hDx hS hA rfl (fun j hj => by rcases (show j = 0 ∨ j = 1 ∨ j = 2 ∨ j = 3 ∨ j = 4 ∨ j = 5 ∨ j = 6 ∨ j = 7 ∨ j = 8 ∨ j = 9 ∨ j = 10 by omega) with rfl | rfl | rfl | rfl | rfl | rfl | rfl | rfl | rfl | rfl | rfl <;> rfl) (Nat.le_of_ble_eq_true rfl) (Nat.le_of_ble_eq_true rfl) d_L_law_8 (fun hM0 H hP hD hS => ?_)
  refine W.widen (k := 12) (n := 2260) (by decide) (by decide) ?_
  refine lv_dup hx hb d_L_law_11 rfl ?_
  have hPx := wg_P1 hP
  have hPc := wg_P2 hP
  have hDc := wg_D2 hD
  have hds := wg_dis hD
  have hF := wg_free hDc hS hA
  refine va_callv (va_runI (As := []) (rest := [.ref hM0]) ⟨hx, hb, hml, hown, hts⟩ (c_M_init l D cJ cI hM0 H.size) ⟨callB_of 0 hts (wg_GI kd_M_init) rfl rfl rfl (hts _ kz_M) (hts _ km_L_12) (by decide +kernel) ⟨Nat.le_of_ble_eq_true rfl, Nat.le_of_ble_eq_true rfl⟩, rfl, hts _ kj_M_init⟩ ⟨wg_blind, wg_pre hK hPc hDc⟩ rfl rfl hl.1 rfl (lv_room (Nat.le_of_ble_eq_true rfl)) d_L_law_12 ⟨Nat.le_of_ble_eq_true rfl, Nat.le_of_ble_eq_true rfl⟩) hS (fun q _ h => hF q h) hF (fun am t H1 locs ht hvm _ hB hz hk hS => ?_)
  obtain ⟨hPm, hDm⟩ := hB
  rw [ht] at hPm
  have hd0 := wg_dis3 hPx hds hDm
  have hDm : va_D A (wg_WM cJ cI hM0 am wg_cM) := hDm.weaken (fun _ _ _ h => hF _ h)
  have hPx := wg_keep2 hPx (wg_dis_sym hds) hk
  have hDX : ∀ I, va_D A (wg_WX cJ cI hX0 ad I) := fun I => wg_same_D (wg_same_X _ I) hDx
  have hDM : ∀ J, va_D A (wg_WM cJ cI hM0 am J) := fun J => wg_same_D (wg_same_M _ J) hDm
  have hds : ∀ (I J : wg_S), ∀ (i j : Nat) (p q : Nat × va_E), (wg_WX cJ cI hX0 ad I)[i]? = some p → (wg_WM cJ cI hM0 am J)[j]? = some q → p.1 ≠ q.1 := fun I J => wg_dis_same (wg_same_X _ I) (wg_same_M _ J) hd0
  clear hP hD hPc hDc hF hk hz hvm ht t hd0 hDx hDm
  refine W.widen (k := 19) (n := 4447) (by decide) (by decide) ?_
  refine lv_astore_n (lv' := [(2, .ref hM0), (1, .ref hX0), (0, .ref b)]) hx hb d_L_law_15 rfl hl (by decide) rfl (fun ls hl => ?_)
  refine lv_iconst (v := nI 0) hx hb d_L_law_16 (by decide +kernel) ?_
  refine lv_istore_n (lv' := [(3, .int (nI 0)), (2, .ref hM0), (1, .ref hX0), (0, .ref b)]) hx hb d_L_law_17 rfl hl (by decide) rfl (fun ls hl => ?_)
  refine wg_loopL (fun i I J H locs ls => i ≤ L + 4 ∧ wg_XI I ∧ wg_MI J ∧ wg_rel I J ∧ wg_XF I ∧ va_P D wg_cl (wg_WX cJ cI hX0 ad I) H ∧ va_P D wg_cl (wg_WM cJ cI hM0 am J) H ∧ va_S A s.heap H locs ∧ lv_has ls 4 [(0, .ref b), (1, .ref hX0), (2, .ref hM0), (3, .int (nI i))]) (fun i => 4104 - i) (fun i I J H locs ls hI ih => ?_) 0 wg_cX wg_cM _ _ _ ⟨by omega, wg_XI_0, wg_MI_0, wg_rel_0, wg_XF_0, hPx, hPm, hS, lv_sub hl [3, 2, 1, 0] rfl⟩
  obtain ⟨hi, hXI, hMI, hrel, hXF, hPx, hPm, hS, hl⟩ := hI
  refine lv_iload_n hx hb d_L_law_18 rfl (lv_at hl 3 rfl) ?_
  refine lv_aload_n hx hb d_L_law_19 rfl (lv_at hl 0 rfl) ?_
  refine va_slen hx hb hX hbl hbA hS d_L_law_20 ?_
  refine lv_iconst (v := nI 4) hx hb d_L_law_21 (by decide +kernel) ?_
  refine lv_isub hx hb d_L_law_22 ?_
  refine lv_icmp_gt (tgt := 541) hx hb d_L_law_23 (by decide) (fun _ => ?_) (fun h23 => ?_)
  · refine lv_iconst (v := 1) hx hb d_L_law_541 (by decide +kernel) ?_
    refine va_forget (fun q hq => hA' _ (hS.2.2 q hq)) ?_
    exact lw_ret hx hb hr hlk d_L_law_542
  · have h23 : ¬ nI L - nI 4 < nI i := h23
    rw [wg_DltN (by omega) (by omega) (by omega)] at h23
    have hL31 : L < 2 ^ 31 := by omega
    refine lv_aload_n hx hb d_L_law_26 rfl (lv_at hl 0 rfl) ?_
    refine lv_iload_n hx hb d_L_law_27 rfl (lv_at hl 3 rfl) ?_
    refine wg_sld hx hb hX hbl hbA hS (show i < L by omega) hL31 d_L_law_28 ?_
    refine lv_bipush (v := nI 15) hx hb d_L_law_29 (by decide +kernel) ?_
    obtain ⟨op, hop, eop⟩ := pk_andE (xs i) (m := nI 15) 4 (by decide +kernel)
    refine t_iand (v := nI op) hx hb d_L_law_31 eop ?_
    rcases (show op = 0 ∨ op = 1 ∨ op = 2 ∨ op = 3 ∨ op = 4 ∨ op = 5 ∨ op = 6 ∨ op = 7 ∨ op = 8 ∨ op = 9 ∨ op = 10 ∨ op = 11 ∨ op = 12 ∨ op = 13 ∨ 14 ≤ op by omega) with rfl | rfl | rfl | rfl | rfl | rfl | rfl | rfl | rfl | rfl | rfl | rfl | rfl | rfl | hop2
    · refine lv_tableIn (off := 72) (tgt := 104) hx hb d_L_law_32 (by decide +kernel) (by decide +kernel) (by decide +kernel) (by decide) ?_
      refine lv_aload_n hx hb d_L_law_104 rfl (lv_at hl 1 rfl) ?_
      refine lv_aload_n hx hb d_L_law_105 rfl (lv_at hl 0 rfl) ?_
      refine lv_iload_n hx hb d_L_law_106 rfl (lv_at hl 3 rfl) ?_
      refine lv_iconst (v := nI 1) hx hb d_L_law_107 (by decide +kernel) ?_
      refine t_iadd (v := nI (i + 1)) hx hb d_L_law_108 (nI_add _ _) ?_
      refine wg_sld hx hb hX hbl hbA hS (show i + 1 < L by omega) hL31 d_L_law_109 ?_
      refine lv_i2l (v := (xs (i + 1)).toInt64) hx hb d_L_law_110 rfl ?_
      refine lv_bipush (v := nI 32) hx hb d_L_law_111 (by decide +kernel) ?_
      refine lv_lshl (v := (xs (i + 1)).toInt64 <<< ((nI 32).toInt64 &&& 63)) hx hb d_L_law_113 rfl ?_
      refine lv_aload_n hx hb d_L_law_114 rfl (lv_at hl 0 rfl) ?_
      refine lv_iload_n hx hb d_L_law_115 rfl (lv_at hl 3 rfl) ?_
      refine lv_iconst (v := nI 2) hx hb d_L_law_116 (by decide +kernel) ?_
      refine t_iadd (v := nI (i + 2)) hx hb d_L_law_117 (nI_add _ _) ?_
      refine wg_sld hx hb hX hbl hbA hS (show i + 2 < L by omega) hL31 d_L_law_118 ?_
      refine lv_i2l (v := (xs (i + 2)).toInt64) hx hb d_L_law_119 rfl ?_
      refine lv_ldc2 (v := 4294967295) hx hb hown (hts _ kl_L_13) d_L_law_120 ?_
      refine lv_land hx hb d_L_law_123 ?_
      obtain ⟨n, hn64, hz⟩ := wb_of (((xs (i + 1)).toInt64 <<< ((nI 32).toInt64 &&& 63)) ||| ((xs (i + 2)).toInt64 &&& 4294967295))
      refine t_lor (v := lN n) hx hb d_L_law_124 hz ?_
      refine wg_cvi (As := [.long (lN n)]) (rest := []) hx hb hml hown hts hK hPx (hDX _) hS hA rfl rfl rfl (c_X_add l D cJ cI hX0 ad _ I n hn64 hXI hXF) kc_L_15 ⟨rfl, rfl⟩ ⟨Nat.le_of_ble_eq_true rfl, Nat.le_of_ble_eq_true rfl⟩ rfl hl.1 rfl (Nat.le_of_ble_eq_true rfl) d_L_law_125 ⟨Nat.le_of_ble_eq_true rfl, Nat.le_of_ble_eq_true rfl⟩ (fun rx ux t H locs ht qx hB _ hk hS => ?_)
      have hPm := wg_keep2 hPm (hds _ _) hk
      have hPx : va_P D wg_cl (wg_WX cJ cI hX0 ad ux) H := by rw [← ht]; exact hB
      clear hB ht t hk
      refine lv_pop hx hb d_L_law_128 rfl ?_
      refine lv_aload_n hx hb d_L_law_129 rfl (lv_at hl 2 rfl) ?_
      refine lv_aload_n hx hb d_L_law_130 rfl (lv_at hl 0 rfl) ?_
      refine lv_iload_n hx hb d_L_law_131 rfl (lv_at hl 3 rfl) ?_
      refine lv_iconst (v := nI 1) hx hb d_L_law_132 (by decide +kernel) ?_
      refine t_iadd (v := nI (i + 1)) hx hb d_L_law_133 (nI_add _ _) ?_
      refine wg_sld hx hb hX hbl hbA hS (show i + 1 < L by omega) hL31 d_L_law_134 ?_
      refine lv_i2l (v := (xs (i + 1)).toInt64) hx hb d_L_law_135 rfl ?_
      refine lv_bipush (v := nI 32) hx hb d_L_law_136 (by decide +kernel) ?_
      refine lv_lshl (v := (xs (i + 1)).toInt64 <<< ((nI 32).toInt64 &&& 63)) hx hb d_L_law_138 rfl ?_
      refine lv_aload_n hx hb d_L_law_139 rfl (lv_at hl 0 rfl) ?_
      refine lv_iload_n hx hb d_L_law_140 rfl (lv_at hl 3 rfl) ?_
      refine lv_iconst (v := nI 2) hx hb d_L_law_141 (by decide +kernel) ?_
      refine t_iadd (v := nI (i + 2)) hx hb d_L_law_142 (nI_add _ _) ?_
      refine wg_sld hx hb hX hbl hbA hS (show i + 2 < L by omega) hL31 d_L_law_143 ?_
      refine lv_i2l (v := (xs (i + 2)).toInt64) hx hb d_L_law_144 rfl ?_
      refine lv_ldc2 (v := 4294967295) hx hb hown (hts _ kl_L_13) d_L_law_145 ?_
      refine lv_land hx hb d_L_law_148 ?_
      refine t_lor (v := lN n) hx hb d_L_law_149 hz ?_
      refine wg_cvi (As := [.long (lN n)]) (rest := []) hx hb hml hown hts hK hPm (hDM _) hS hA rfl rfl rfl (c_M_add l D cJ cI hM0 am _ J n hn64 hMI) kc_L_19 ⟨rfl, rfl⟩ ⟨Nat.le_of_ble_eq_true rfl, Nat.le_of_ble_eq_true rfl⟩ rfl hl.1 rfl (Nat.le_of_ble_eq_true rfl) d_L_law_150 ⟨Nat.le_of_ble_eq_true rfl, Nat.le_of_ble_eq_true rfl⟩ (fun rm um t H locs ht qm hB _ hk hS => ?_)
      have hPx := wg_keep2 hPx (wg_dis_sym (hds _ _)) hk
      have hPm : va_P D wg_cl (wg_WM cJ cI hM0 am um) H := by rw [← ht]; exact hB
      clear hB ht t hk
      refine lv_pop hx hb d_L_law_153 rfl ?_
      refine lv_goto (tgt := 535) hx hb d_L_law_154 (by decide) ?_
      obtain ⟨hEQ, hXI, hMI, hrel, hXF⟩ := wg_rel_add hrel hXF qx qm
      refine lv_iinc (v := nI (i + 4)) (k := 3) (lv' := [(3, .int (nI (i + 4))), (0, .ref b), (1, .ref hX0), (2, .ref hM0)]) hx hb d_L_law_535 hl rfl (wg_iinc4 i) (by decide) rfl (fun ls hl => ?_)
      refine lv_goto (tgt := 18) hx hb d_L_law_538 (by decide) ?_
      exact ih (i + 4) _ _ _ _ _ ⟨by omega, hXI, hMI, hrel, hXF, hPx, hPm, hS, lv_sub hl [1, 2, 3, 0] rfl⟩ (by omega)
    · refine lv_tableIn (off := 125) (tgt := 157) hx hb d_L_law_32 (by decide +kernel) (by decide +kernel) (by decide +kernel) (by decide) ?_
      refine lv_aload_n hx hb d_L_law_157 rfl (lv_at hl 1 rfl) ?_
      refine wg_cvi (As := []) (rest := []) hx hb hml hown hts hK hPx (hDX _) hS hA rfl rfl rfl (c_X_seal l D cJ cI hX0 ad _ I hXI) kc_L_20 ⟨rfl, rfl⟩ ⟨Nat.le_of_ble_eq_true rfl, Nat.le_of_ble_eq_true rfl⟩ rfl hl.1 rfl (Nat.le_of_ble_eq_true rfl) d_L_law_158 ⟨Nat.le_of_ble_eq_true rfl, Nat.le_of_ble_eq_true rfl⟩ (fun rx ux t H locs ht qx hB _ hk hS => ?_)
      have hPm := wg_keep2 hPm (hds _ _) hk
      have hPx : va_P D wg_cl (wg_WX cJ cI hX0 ad ux) H := by rw [← ht]; exact hB
      clear hB ht t hk
      refine lv_pop hx hb d_L_law_161 rfl ?_
      refine lv_aload_n hx hb d_L_law_162 rfl (lv_at hl 2 rfl) ?_
      refine wg_cvi (As := []) (rest := []) hx hb hml hown hts hK hPm (hDM _) hS hA rfl rfl rfl (c_M_seal l D cJ cI hM0 am _ J hMI) kc_L_24 ⟨rfl, rfl⟩ ⟨Nat.le_of_ble_eq_true rfl, Nat.le_of_ble_eq_true rfl⟩ rfl hl.1 rfl (Nat.le_of_ble_eq_true rfl) d_L_law_163 ⟨Nat.le_of_ble_eq_true rfl, Nat.le_of_ble_eq_true rfl⟩ (fun rm um t H locs ht qm hB _ hk hS => ?_)
      have hPx := wg_keep2 hPx (wg_dis_sym (hds _ _)) hk
      have hPm : va_P D wg_cl (wg_WM cJ cI hM0 am um) H := by rw [← ht]; exact hB
      clear hB ht t hk
      refine lv_pop hx hb d_L_law_166 rfl ?_
      refine lv_goto (tgt := 535) hx hb d_L_law_167 (by decide) ?_
      obtain ⟨hEQ, hXI, hMI, hrel, hXF⟩ := wg_rel_seal hrel hXI hMI hXF qx qm
      refine lv_iinc (v := nI (i + 4)) (k := 3) (lv' := [(3, .int (nI (i + 4))), (0, .ref b), (1, .ref hX0), (2, .ref hM0)]) hx hb d_L_law_535 hl rfl (wg_iinc4 i) (by decide) rfl (fun ls hl => ?_)
      refine lv_goto (tgt := 18) hx hb d_L_law_538 (by decide) ?_
      exact ih (i + 4) _ _ _ _ _ ⟨by omega, hXI, hMI, hrel, hXF, hPx, hPm, hS, lv_sub hl [1, 2, 3, 0] rfl⟩ (by omega)
    · refine lv_tableIn (off := 138) (tgt := 170) hx hb d_L_law_32 (by decide +kernel) (by decide +kernel) (by decide +kernel) (by decide) ?_
      refine lv_aload_n hx hb d_L_law_170 rfl (lv_at hl 1 rfl) ?_
      refine wg_cvv (As := []) (rest := []) hx hb hml hown hts hK hPx (hDX _) hS hA rfl rfl rfl (c_X_clear l D cJ cI hX0 ad _ I ) kc_L_25 ⟨rfl, rfl⟩ ⟨Nat.le_of_ble_eq_true rfl, Nat.le_of_ble_eq_true rfl⟩ rfl hl.1 rfl (Nat.le_of_ble_eq_true rfl) d_L_law_171 ⟨Nat.le_of_ble_eq_true rfl, Nat.le_of_ble_eq_true rfl⟩ (fun ux t H locs ht qx hB _ hk hS => ?_)
      have hPm := wg_keep2 hPm (hds _ _) hk
      have hPx : va_P D wg_cl (wg_WX cJ cI hX0 ad ux) H := by rw [← ht]; exact hB
      clear hB ht t hk
      refine lv_aload_n hx hb d_L_law_174 rfl (lv_at hl 2 rfl) ?_
      refine wg_cvv (As := []) (rest := []) hx hb hml hown hts hK hPm (hDM _) hS hA rfl rfl rfl (c_M_clear l D cJ cI hM0 am _ J ) kc_L_28 ⟨rfl, rfl⟩ ⟨Nat.le_of_ble_eq_true rfl, Nat.le_of_ble_eq_true rfl⟩ rfl hl.1 rfl (Nat.le_of_ble_eq_true rfl) d_L_law_175 ⟨Nat.le_of_ble_eq_true rfl, Nat.le_of_ble_eq_true rfl⟩ (fun um t H locs ht qm hB _ hk hS => ?_)
      have hPx := wg_keep2 hPx (wg_dis_sym (hds _ _)) hk
      have hPm : va_P D wg_cl (wg_WM cJ cI hM0 am um) H := by rw [← ht]; exact hB
      clear hB ht t hk
      refine lv_goto (tgt := 535) hx hb d_L_law_178 (by decide) ?_
      obtain rfl := qx
      obtain rfl := qm
      have hrel := wg_rel_cl I J
      have hXI := wg_XI_cl hXI
      have hMI := wg_MI_cl hMI
      have hXF := wg_XF_cl I
      refine lv_iinc (v := nI (i + 4)) (k := 3) (lv' := [(3, .int (nI (i + 4))), (0, .ref b), (1, .ref hX0), (2, .ref hM0)]) hx hb d_L_law_535 hl rfl (wg_iinc4 i) (by decide) rfl (fun ls hl => ?_)
      refine lv_goto (tgt := 18) hx hb d_L_law_538 (by decide) ?_
      exact ih (i + 4) _ _ _ _ _ ⟨by omega, hXI, hMI, hrel, hXF, hPx, hPm, hS, lv_sub hl [1, 2, 3, 0] rfl⟩ (by omega)
    · refine lv_tableIn (off := 149) (tgt := 181) hx hb d_L_law_32 (by decide +kernel) (by decide +kernel) (by decide +kernel) (by decide) ?_
      refine lv_aload_n hx hb d_L_law_181 rfl (lv_at hl 1 rfl) ?_
      refine wg_cvi (As := []) (rest := []) hx hb hml hown hts hK hPx (hDX _) hS hA rfl rfl rfl (c_X_size l D cJ cI hX0 ad _ I ) kc_L_29 ⟨rfl, rfl⟩ ⟨Nat.le_of_ble_eq_true rfl, Nat.le_of_ble_eq_true rfl⟩ rfl hl.1 rfl (Nat.le_of_ble_eq_true rfl) d_L_law_182 ⟨Nat.le_of_ble_eq_true rfl, Nat.le_of_ble_eq_true rfl⟩ (fun rx ux t H locs ht qx hB _ hk hS => ?_)
      have hPm := wg_keep2 hPm (hds _ _) hk
      have hPx : va_P D wg_cl (wg_WX cJ cI hX0 ad I) H := by rw [← ht]; exact hB
      clear hB ht t hk
      refine lv_pop hx hb d_L_law_185 rfl ?_
      refine lv_aload_n hx hb d_L_law_186 rfl (lv_at hl 2 rfl) ?_
      refine wg_cvi (As := []) (rest := []) hx hb hml hown hts hK hPm (hDM _) hS hA rfl rfl rfl (c_M_size l D cJ cI hM0 am _ J ) kc_L_33 ⟨rfl, rfl⟩ ⟨Nat.le_of_ble_eq_true rfl, Nat.le_of_ble_eq_true rfl⟩ rfl hl.1 rfl (Nat.le_of_ble_eq_true rfl) d_L_law_187 ⟨Nat.le_of_ble_eq_true rfl, Nat.le_of_ble_eq_true rfl⟩ (fun rm um t H locs ht qm hB _ hk hS => ?_)
      have hPx := wg_keep2 hPx (wg_dis_sym (hds _ _)) hk
      have hPm : va_P D wg_cl (wg_WM cJ cI hM0 am J) H := by rw [← ht]; exact hB
      clear hB ht t hk
      refine lv_pop hx hb d_L_law_190 rfl ?_
      refine lv_goto (tgt := 535) hx hb d_L_law_191 (by decide) ?_
      have hEQ : rx = rm := by rw [qx, qm, hrel.1]
      refine lv_iinc (v := nI (i + 4)) (k := 3) (lv' := [(3, .int (nI (i + 4))), (0, .ref b), (1, .ref hX0), (2, .ref hM0)]) hx hb d_L_law_535 hl rfl (wg_iinc4 i) (by decide) rfl (fun ls hl => ?_)
      refine lv_goto (tgt := 18) hx hb d_L_law_538 (by decide) ?_
      exact ih (i + 4) I J _ _ _ ⟨by omega, hXI, hMI, hrel, hXF, hPx, hPm, hS, lv_sub hl [1, 2, 3, 0] rfl⟩ (by omega)
    · refine lv_tableIn (off := 162) (tgt := 194) hx hb d_L_law_32 (by decide +kernel) (by decide +kernel) (by decide +kernel) (by decide) ?_
      refine lv_aload_n hx hb d_L_law_194 rfl (lv_at hl 1 rfl) ?_
      refine lv_aload_n hx hb d_L_law_195 rfl (lv_at hl 0 rfl) ?_
      refine lv_iload_n hx hb d_L_law_196 rfl (lv_at hl 3 rfl) ?_
      refine lv_iconst (v := nI 1) hx hb d_L_law_197 (by decide +kernel) ?_
      refine t_iadd (v := nI (i + 1)) hx hb d_L_law_198 (nI_add _ _) ?_
      refine wg_sld hx hb hX hbl hbA hS (show i + 1 < L by omega) hL31 d_L_law_199 ?_
      refine wg_cvl (As := [.int (xs (i + 1))]) (rest := []) hx hb hml hown hts hK hPx (hDX _) hS hA rfl rfl rfl (c_X_word l D cJ cI hX0 ad _ I (xs (i + 1)) hXI) kc_L_34 ⟨rfl, rfl⟩ ⟨Nat.le_of_ble_eq_true rfl, Nat.le_of_ble_eq_true rfl⟩ rfl hl.1 rfl (Nat.le_of_ble_eq_true rfl) d_L_law_200 ⟨Nat.le_of_ble_eq_true rfl, Nat.le_of_ble_eq_true rfl⟩ (fun rx ux t H locs ht qx hB _ hk hS => ?_)
      have hPm := wg_keep2 hPm (hds _ _) hk
      have hPx : va_P D wg_cl (wg_WX cJ cI hX0 ad I) H := by rw [← ht]; exact hB
      clear hB ht t hk
      refine lv_aload_n hx hb d_L_law_203 rfl (lv_at hl 2 rfl) ?_
      refine lv_aload_n hx hb d_L_law_204 rfl (lv_at hl 0 rfl) ?_
      refine lv_iload_n hx hb d_L_law_205 rfl (lv_at hl 3 rfl) ?_
      refine lv_iconst (v := nI 1) hx hb d_L_law_206 (by decide +kernel) ?_
      refine t_iadd (v := nI (i + 1)) hx hb d_L_law_207 (nI_add _ _) ?_
      refine wg_sld hx hb hX hbl hbA hS (show i + 1 < L by omega) hL31 d_L_law_208 ?_
      refine wg_cvl (As := [.int (xs (i + 1))]) (rest := [.long rx]) hx hb hml hown hts hK hPm (hDM _) hS hA rfl rfl rfl (c_M_word l D cJ cI hM0 am _ J (xs (i + 1)) hMI) kc_L_38 ⟨rfl, rfl⟩ ⟨Nat.le_of_ble_eq_true rfl, Nat.le_of_ble_eq_true rfl⟩ rfl hl.1 rfl (Nat.le_of_ble_eq_true rfl) d_L_law_209 ⟨Nat.le_of_ble_eq_true rfl, Nat.le_of_ble_eq_true rfl⟩ (fun rm um t H locs ht qm hB _ hk hS => ?_)
      have hPx := wg_keep2 hPx (wg_dis_sym (hds _ _)) hk
      have hPm : va_P D wg_cl (wg_WM cJ cI hM0 am J) H := by rw [← ht]; exact hB
      clear hB ht t hk
      refine W.lcmp hx hb d_L_law_212 ?_
      have hEQ : rx = rm := wg_rel_word hrel (by have := hXI.1; omega) qx qm
      refine lv_if_eq (tgt := 535) hx hb d_L_law_213 (by decide) (fun _ => ?_) (fun h => absurd ((lg_cmp_eq _ _).mpr hEQ) h)
      refine lv_iinc (v := nI (i + 4)) (k := 3) (lv' := [(3, .int (nI (i + 4))), (0, .ref b), (1, .ref hX0), (2, .ref hM0)]) hx hb d_L_law_535 hl rfl (wg_iinc4 i) (by decide) rfl (fun ls hl => ?_)
      refine lv_goto (tgt := 18) hx hb d_L_law_538 (by decide) ?_
      exact ih (i + 4) I J _ _ _ ⟨by omega, hXI, hMI, hrel, hXF, hPx, hPm, hS, lv_sub hl [1, 2, 3, 0] rfl⟩ (by omega)
    · refine lv_tableIn (off := 186) (tgt := 218) hx hb d_L_law_32 (by decide +kernel) (by decide +kernel) (by decide +kernel) (by decide) ?_
      refine lv_aload_n hx hb d_L_law_218 rfl (lv_at hl 1 rfl) ?_
      refine lv_aload_n hx hb d_L_law_219 rfl (lv_at hl 0 rfl) ?_
      refine lv_iload_n hx hb d_L_law_220 rfl (lv_at hl 3 rfl) ?_
      refine lv_iconst (v := nI 1) hx hb d_L_law_221 (by decide +kernel) ?_
      refine t_iadd (v := nI (i + 1)) hx hb d_L_law_222 (nI_add _ _) ?_
      refine wg_sld hx hb hX hbl hbA hS (show i + 1 < L by omega) hL31 d_L_law_223 ?_
      refine lv_i2l (v := (xs (i + 1)).toInt64) hx hb d_L_law_224 rfl ?_
      refine lv_bipush (v := nI 32) hx hb d_L_law_225 (by decide +kernel) ?_
      refine lv_lshl (v := (xs (i + 1)).toInt64 <<< ((nI 32).toInt64 &&& 63)) hx hb d_L_law_227 rfl ?_
      refine lv_aload_n hx hb d_L_law_228 rfl (lv_at hl 0 rfl) ?_
      refine lv_iload_n hx hb d_L_law_229 rfl (lv_at hl 3 rfl) ?_
      refine lv_iconst (v := nI 2) hx hb d_L_law_230 (by decide +kernel) ?_
      refine t_iadd (v := nI (i + 2)) hx hb d_L_law_231 (nI_add _ _) ?_
      refine wg_sld hx hb hX hbl hbA hS (show i + 2 < L by omega) hL31 d_L_law_232 ?_
      refine lv_i2l (v := (xs (i + 2)).toInt64) hx hb d_L_law_233 rfl ?_
      refine lv_ldc2 (v := 4294967295) hx hb hown (hts _ kl_L_13) d_L_law_234 ?_
      refine lv_land hx hb d_L_law_237 ?_
      obtain ⟨n, hn64, hz⟩ := wb_of (((xs (i + 1)).toInt64 <<< ((nI 32).toInt64 &&& 63)) ||| ((xs (i + 2)).toInt64 &&& 4294967295))
      refine t_lor (v := lN n) hx hb d_L_law_238 hz ?_
      refine wg_cvi (As := [.long (lN n)]) (rest := []) hx hb hml hown hts hK hPx (hDX _) hS hA rfl rfl rfl (c_X_find l D cJ cI hX0 ad _ I n hXI) kc_L_39 ⟨rfl, rfl⟩ ⟨Nat.le_of_ble_eq_true rfl, Nat.le_of_ble_eq_true rfl⟩ rfl hl.1 rfl (Nat.le_of_ble_eq_true rfl) d_L_law_239 ⟨Nat.le_of_ble_eq_true rfl, Nat.le_of_ble_eq_true rfl⟩ (fun rx ux t H locs ht qx hB _ hk hS => ?_)
      have hPm := wg_keep2 hPm (hds _ _) hk
      have hPx : va_P D wg_cl (wg_WX cJ cI hX0 ad I) H := by rw [← ht]; exact hB
      clear hB ht t hk
      refine lv_pop hx hb d_L_law_242 rfl ?_
      refine lv_aload_n hx hb d_L_law_243 rfl (lv_at hl 2 rfl) ?_
      refine lv_aload_n hx hb d_L_law_244 rfl (lv_at hl 0 rfl) ?_
      refine lv_iload_n hx hb d_L_law_245 rfl (lv_at hl 3 rfl) ?_
      refine lv_iconst (v := nI 1) hx hb d_L_law_246 (by decide +kernel) ?_
      refine t_iadd (v := nI (i + 1)) hx hb d_L_law_247 (nI_add _ _) ?_
      refine wg_sld hx hb hX hbl hbA hS (show i + 1 < L by omega) hL31 d_L_law_248 ?_
      refine lv_i2l (v := (xs (i + 1)).toInt64) hx hb d_L_law_249 rfl ?_
      refine lv_bipush (v := nI 32) hx hb d_L_law_250 (by decide +kernel) ?_
      refine lv_lshl (v := (xs (i + 1)).toInt64 <<< ((nI 32).toInt64 &&& 63)) hx hb d_L_law_252 rfl ?_
      refine lv_aload_n hx hb d_L_law_253 rfl (lv_at hl 0 rfl) ?_
      refine lv_iload_n hx hb d_L_law_254 rfl (lv_at hl 3 rfl) ?_
      refine lv_iconst (v := nI 2) hx hb d_L_law_255 (by decide +kernel) ?_
      refine t_iadd (v := nI (i + 2)) hx hb d_L_law_256 (nI_add _ _) ?_
      refine wg_sld hx hb hX hbl hbA hS (show i + 2 < L by omega) hL31 d_L_law_257 ?_
      refine lv_i2l (v := (xs (i + 2)).toInt64) hx hb d_L_law_258 rfl ?_
      refine lv_ldc2 (v := 4294967295) hx hb hown (hts _ kl_L_13) d_L_law_259 ?_
      refine lv_land hx hb d_L_law_262 ?_
      refine t_lor (v := lN n) hx hb d_L_law_263 hz ?_
      refine wg_cvi (As := [.long (lN n)]) (rest := []) hx hb hml hown hts hK hPm (hDM _) hS hA rfl rfl rfl (c_M_find l D cJ cI hM0 am _ J n hMI) kc_L_42 ⟨rfl, rfl⟩ ⟨Nat.le_of_ble_eq_true rfl, Nat.le_of_ble_eq_true rfl⟩ rfl hl.1 rfl (Nat.le_of_ble_eq_true rfl) d_L_law_264 ⟨Nat.le_of_ble_eq_true rfl, Nat.le_of_ble_eq_true rfl⟩ (fun rm um t H locs ht qm hB _ hk hS => ?_)
      have hPx := wg_keep2 hPx (wg_dis_sym (hds _ _)) hk
      have hPm : va_P D wg_cl (wg_WM cJ cI hM0 am J) H := by rw [← ht]; exact hB
      clear hB ht t hk
      refine lv_pop hx hb d_L_law_267 rfl ?_
      refine lv_goto (tgt := 535) hx hb d_L_law_268 (by decide) ?_
      refine lv_iinc (v := nI (i + 4)) (k := 3) (lv' := [(3, .int (nI (i + 4))), (0, .ref b), (1, .ref hX0), (2, .ref hM0)]) hx hb d_L_law_535 hl rfl (wg_iinc4 i) (by decide) rfl (fun ls hl => ?_)
      refine lv_goto (tgt := 18) hx hb d_L_law_538 (by decide) ?_
      exact ih (i + 4) I J _ _ _ ⟨by omega, hXI, hMI, hrel, hXF, hPx, hPm, hS, lv_sub hl [1, 2, 3, 0] rfl⟩ (by omega)
    · refine lv_tableIn (off := 239) (tgt := 271) hx hb d_L_law_32 (by decide +kernel) (by decide +kernel) (by decide +kernel) (by decide) ?_
      refine lv_aload_n hx hb d_L_law_271 rfl (lv_at hl 1 rfl) ?_
      refine wg_cvi (As := []) (rest := []) hx hb hml hown hts hK hPx (hDX _) hS hA rfl rfl rfl (c_X_nodes l D cJ cI hX0 ad _ I ) kc_L_43 ⟨rfl, rfl⟩ ⟨Nat.le_of_ble_eq_true rfl, Nat.le_of_ble_eq_true rfl⟩ rfl hl.1 rfl (Nat.le_of_ble_eq_true rfl) d_L_law_272 ⟨Nat.le_of_ble_eq_true rfl, Nat.le_of_ble_eq_true rfl⟩ (fun rx ux t H locs ht qx hB _ hk hS => ?_)
      have hPm := wg_keep2 hPm (hds _ _) hk
      have hPx : va_P D wg_cl (wg_WX cJ cI hX0 ad I) H := by rw [← ht]; exact hB
      clear hB ht t hk
      refine lv_pop hx hb d_L_law_275 rfl ?_
      refine lv_aload_n hx hb d_L_law_276 rfl (lv_at hl 2 rfl) ?_
      refine wg_cvi (As := []) (rest := []) hx hb hml hown hts hK hPm (hDM _) hS hA rfl rfl rfl (c_M_nodes l D cJ cI hM0 am _ J hMI) kc_L_46 ⟨rfl, rfl⟩ ⟨Nat.le_of_ble_eq_true rfl, Nat.le_of_ble_eq_true rfl⟩ rfl hl.1 rfl (Nat.le_of_ble_eq_true rfl) d_L_law_277 ⟨Nat.le_of_ble_eq_true rfl, Nat.le_of_ble_eq_true rfl⟩ (fun rm um t H locs ht qm hB _ hk hS => ?_)
      have hPx := wg_keep2 hPx (wg_dis_sym (hds _ _)) hk
      have hPm : va_P D wg_cl (wg_WM cJ cI hM0 am J) H := by rw [← ht]; exact hB
      clear hB ht t hk
      refine lv_pop hx hb d_L_law_280 rfl ?_
      refine lv_goto (tgt := 535) hx hb d_L_law_281 (by decide) ?_
      refine lv_iinc (v := nI (i + 4)) (k := 3) (lv' := [(3, .int (nI (i + 4))), (0, .ref b), (1, .ref hX0), (2, .ref hM0)]) hx hb d_L_law_535 hl rfl (wg_iinc4 i) (by decide) rfl (fun ls hl => ?_)
      refine lv_goto (tgt := 18) hx hb d_L_law_538 (by decide) ?_
      exact ih (i + 4) I J _ _ _ ⟨by omega, hXI, hMI, hrel, hXF, hPx, hPm, hS, lv_sub hl [1, 2, 3, 0] rfl⟩ (by omega)
    · refine lv_tableIn (off := 252) (tgt := 284) hx hb d_L_law_32 (by decide +kernel) (by decide +kernel) (by decide +kernel) (by decide) ?_
      refine lv_aload_n hx hb d_L_law_284 rfl (lv_at hl 1 rfl) ?_
      refine lv_aload_n hx hb d_L_law_285 rfl (lv_at hl 0 rfl) ?_
      refine lv_iload_n hx hb d_L_law_286 rfl (lv_at hl 3 rfl) ?_
      refine lv_iconst (v := nI 1) hx hb d_L_law_287 (by decide +kernel) ?_
      refine t_iadd (v := nI (i + 1)) hx hb d_L_law_288 (nI_add _ _) ?_
      refine wg_sld hx hb hX hbl hbA hS (show i + 1 < L by omega) hL31 d_L_law_289 ?_
      refine lv_aload_n hx hb d_L_law_290 rfl (lv_at hl 0 rfl) ?_
      refine lv_iload_n hx hb d_L_law_291 rfl (lv_at hl 3 rfl) ?_
      refine lv_iconst (v := nI 2) hx hb d_L_law_292 (by decide +kernel) ?_
      refine t_iadd (v := nI (i + 2)) hx hb d_L_law_293 (nI_add _ _) ?_
      refine wg_sld hx hb hX hbl hbA hS (show i + 2 < L by omega) hL31 d_L_law_294 ?_
      refine wg_cvi (As := [.int (xs (i + 1)), .int (xs (i + 2))]) (rest := []) hx hb hml hown hts hK hPx (hDX _) hS hA rfl rfl rfl (c_X_step l D cJ cI hX0 ad _ I (xs (i + 1)) (xs (i + 2)) hXI) kc_L_47 ⟨rfl, rfl⟩ ⟨Nat.le_of_ble_eq_true rfl, Nat.le_of_ble_eq_true rfl⟩ rfl hl.1 rfl (Nat.le_of_ble_eq_true rfl) d_L_law_295 ⟨Nat.le_of_ble_eq_true rfl, Nat.le_of_ble_eq_true rfl⟩ (fun rx ux t H locs ht qx hB _ hk hS => ?_)
      have hPm := wg_keep2 hPm (hds _ _) hk
      have hPx : va_P D wg_cl (wg_WX cJ cI hX0 ad I) H := by rw [← ht]; exact hB
      clear hB ht t hk
      refine lv_pop hx hb d_L_law_298 rfl ?_
      refine lv_aload_n hx hb d_L_law_299 rfl (lv_at hl 2 rfl) ?_
      refine lv_aload_n hx hb d_L_law_300 rfl (lv_at hl 0 rfl) ?_
      refine lv_iload_n hx hb d_L_law_301 rfl (lv_at hl 3 rfl) ?_
      refine lv_iconst (v := nI 1) hx hb d_L_law_302 (by decide +kernel) ?_
      refine t_iadd (v := nI (i + 1)) hx hb d_L_law_303 (nI_add _ _) ?_
      refine wg_sld hx hb hX hbl hbA hS (show i + 1 < L by omega) hL31 d_L_law_304 ?_
      refine lv_aload_n hx hb d_L_law_305 rfl (lv_at hl 0 rfl) ?_
      refine lv_iload_n hx hb d_L_law_306 rfl (lv_at hl 3 rfl) ?_
      refine lv_iconst (v := nI 2) hx hb d_L_law_307 (by decide +kernel) ?_
      refine t_iadd (v := nI (i + 2)) hx hb d_L_law_308 (nI_add _ _) ?_
      refine wg_sld hx hb hX hbl hbA hS (show i + 2 < L by omega) hL31 d_L_law_309 ?_
      refine wg_cvi (As := [.int (xs (i + 1)), .int (xs (i + 2))]) (rest := []) hx hb hml hown hts hK hPm (hDM _) hS hA rfl rfl rfl (c_M_step l D cJ cI hM0 am _ J (xs (i + 1)) (xs (i + 2)) hMI) kc_L_51 ⟨rfl, rfl⟩ ⟨Nat.le_of_ble_eq_true rfl, Nat.le_of_ble_eq_true rfl⟩ rfl hl.1 rfl (Nat.le_of_ble_eq_true rfl) d_L_law_310 ⟨Nat.le_of_ble_eq_true rfl, Nat.le_of_ble_eq_true rfl⟩ (fun rm um t H locs ht qm hB _ hk hS => ?_)
      have hPx := wg_keep2 hPx (wg_dis_sym (hds _ _)) hk
      have hPm : va_P D wg_cl (wg_WM cJ cI hM0 am J) H := by rw [← ht]; exact hB
      clear hB ht t hk
      refine lv_pop hx hb d_L_law_313 rfl ?_
      refine lv_goto (tgt := 535) hx hb d_L_law_314 (by decide) ?_
      refine lv_iinc (v := nI (i + 4)) (k := 3) (lv' := [(3, .int (nI (i + 4))), (0, .ref b), (1, .ref hX0), (2, .ref hM0)]) hx hb d_L_law_535 hl rfl (wg_iinc4 i) (by decide) rfl (fun ls hl => ?_)
      refine lv_goto (tgt := 18) hx hb d_L_law_538 (by decide) ?_
      exact ih (i + 4) I J _ _ _ ⟨by omega, hXI, hMI, hrel, hXF, hPx, hPm, hS, lv_sub hl [1, 2, 3, 0] rfl⟩ (by omega)
    · refine lv_tableIn (off := 285) (tgt := 317) hx hb d_L_law_32 (by decide +kernel) (by decide +kernel) (by decide +kernel) (by decide) ?_
      refine lv_aload_n hx hb d_L_law_317 rfl (lv_at hl 1 rfl) ?_
      refine lv_aload_n hx hb d_L_law_318 rfl (lv_at hl 0 rfl) ?_
      refine lv_iload_n hx hb d_L_law_319 rfl (lv_at hl 3 rfl) ?_
      refine lv_iconst (v := nI 1) hx hb d_L_law_320 (by decide +kernel) ?_
      refine t_iadd (v := nI (i + 1)) hx hb d_L_law_321 (nI_add _ _) ?_
      refine wg_sld hx hb hX hbl hbA hS (show i + 1 < L by omega) hL31 d_L_law_322 ?_
      refine wg_cvi (As := [.int (xs (i + 1))]) (rest := []) hx hb hml hown hts hK hPx (hDX _) hS hA rfl rfl rfl (c_X_ends l D cJ cI hX0 ad _ I (xs (i + 1)) hXI) kc_L_52 ⟨rfl, rfl⟩ ⟨Nat.le_of_ble_eq_true rfl, Nat.le_of_ble_eq_true rfl⟩ rfl hl.1 rfl (Nat.le_of_ble_eq_true rfl) d_L_law_323 ⟨Nat.le_of_ble_eq_true rfl, Nat.le_of_ble_eq_true rfl⟩ (fun rx ux t H locs ht qx hB _ hk hS => ?_)
      have hPm := wg_keep2 hPm (hds _ _) hk
      have hPx : va_P D wg_cl (wg_WX cJ cI hX0 ad I) H := by rw [← ht]; exact hB
      clear hB ht t hk
      refine lv_pop hx hb d_L_law_326 rfl ?_
      refine lv_aload_n hx hb d_L_law_327 rfl (lv_at hl 2 rfl) ?_
      refine lv_aload_n hx hb d_L_law_328 rfl (lv_at hl 0 rfl) ?_
      refine lv_iload_n hx hb d_L_law_329 rfl (lv_at hl 3 rfl) ?_
      refine lv_iconst (v := nI 1) hx hb d_L_law_330 (by decide +kernel) ?_
      refine t_iadd (v := nI (i + 1)) hx hb d_L_law_331 (nI_add _ _) ?_
      refine wg_sld hx hb hX hbl hbA hS (show i + 1 < L by omega) hL31 d_L_law_332 ?_
      refine wg_cvi (As := [.int (xs (i + 1))]) (rest := []) hx hb hml hown hts hK hPm (hDM _) hS hA rfl rfl rfl (c_M_ends l D cJ cI hM0 am _ J (xs (i + 1)) hMI) kc_L_56 ⟨rfl, rfl⟩ ⟨Nat.le_of_ble_eq_true rfl, Nat.le_of_ble_eq_true rfl⟩ rfl hl.1 rfl (Nat.le_of_ble_eq_true rfl) d_L_law_333 ⟨Nat.le_of_ble_eq_true rfl, Nat.le_of_ble_eq_true rfl⟩ (fun rm um t H locs ht qm hB _ hk hS => ?_)
      have hPx := wg_keep2 hPx (wg_dis_sym (hds _ _)) hk
      have hPm : va_P D wg_cl (wg_WM cJ cI hM0 am J) H := by rw [← ht]; exact hB
      clear hB ht t hk
      refine lv_pop hx hb d_L_law_336 rfl ?_
      refine lv_goto (tgt := 535) hx hb d_L_law_337 (by decide) ?_
      refine lv_iinc (v := nI (i + 4)) (k := 3) (lv' := [(3, .int (nI (i + 4))), (0, .ref b), (1, .ref hX0), (2, .ref hM0)]) hx hb d_L_law_535 hl rfl (wg_iinc4 i) (by decide) rfl (fun ls hl => ?_)
      refine lv_goto (tgt := 18) hx hb d_L_law_538 (by decide) ?_
      exact ih (i + 4) I J _ _ _ ⟨by omega, hXI, hMI, hrel, hXF, hPx, hPm, hS, lv_sub hl [1, 2, 3, 0] rfl⟩ (by omega)
    · refine lv_tableIn (off := 308) (tgt := 340) hx hb d_L_law_32 (by decide +kernel) (by decide +kernel) (by decide +kernel) (by decide) ?_
      refine lv_aload_n hx hb d_L_law_340 rfl (lv_at hl 1 rfl) ?_
      refine lv_aload_n hx hb d_L_law_341 rfl (lv_at hl 0 rfl) ?_
      refine lv_iload_n hx hb d_L_law_342 rfl (lv_at hl 3 rfl) ?_
      refine lv_iconst (v := nI 1) hx hb d_L_law_343 (by decide +kernel) ?_
      refine t_iadd (v := nI (i + 1)) hx hb d_L_law_344 (nI_add _ _) ?_
      refine wg_sld hx hb hX hbl hbA hS (show i + 1 < L by omega) hL31 d_L_law_345 ?_
      refine wg_cvi (As := [.int (xs (i + 1))]) (rest := []) hx hb hml hown hts hK hPx (hDX _) hS hA rfl rfl rfl (c_X_endings l D cJ cI hX0 ad _ I (xs (i + 1)) hXI) kc_L_57 ⟨rfl, rfl⟩ ⟨Nat.le_of_ble_eq_true rfl, Nat.le_of_ble_eq_true rfl⟩ rfl hl.1 rfl (Nat.le_of_ble_eq_true rfl) d_L_law_346 ⟨Nat.le_of_ble_eq_true rfl, Nat.le_of_ble_eq_true rfl⟩ (fun rx ux t H locs ht qx hB _ hk hS => ?_)
      have hPm := wg_keep2 hPm (hds _ _) hk
      have hPx : va_P D wg_cl (wg_WX cJ cI hX0 ad I) H := by rw [← ht]; exact hB
      clear hB ht t hk
      refine lv_pop hx hb d_L_law_349 rfl ?_
      refine lv_aload_n hx hb d_L_law_350 rfl (lv_at hl 2 rfl) ?_
      refine lv_aload_n hx hb d_L_law_351 rfl (lv_at hl 0 rfl) ?_
      refine lv_iload_n hx hb d_L_law_352 rfl (lv_at hl 3 rfl) ?_
      refine lv_iconst (v := nI 1) hx hb d_L_law_353 (by decide +kernel) ?_
      refine t_iadd (v := nI (i + 1)) hx hb d_L_law_354 (nI_add _ _) ?_
      refine wg_sld hx hb hX hbl hbA hS (show i + 1 < L by omega) hL31 d_L_law_355 ?_
      refine wg_cvi (As := [.int (xs (i + 1))]) (rest := []) hx hb hml hown hts hK hPm (hDM _) hS hA rfl rfl rfl (c_M_endings l D cJ cI hM0 am _ J (xs (i + 1)) hMI) kc_L_61 ⟨rfl, rfl⟩ ⟨Nat.le_of_ble_eq_true rfl, Nat.le_of_ble_eq_true rfl⟩ rfl hl.1 rfl (Nat.le_of_ble_eq_true rfl) d_L_law_356 ⟨Nat.le_of_ble_eq_true rfl, Nat.le_of_ble_eq_true rfl⟩ (fun rm um t H locs ht qm hB _ hk hS => ?_)
      have hPx := wg_keep2 hPx (wg_dis_sym (hds _ _)) hk
      have hPm : va_P D wg_cl (wg_WM cJ cI hM0 am J) H := by rw [← ht]; exact hB
      clear hB ht t hk
      refine lv_pop hx hb d_L_law_359 rfl ?_
      refine lv_goto (tgt := 535) hx hb d_L_law_360 (by decide) ?_
      refine lv_iinc (v := nI (i + 4)) (k := 3) (lv' := [(3, .int (nI (i + 4))), (0, .ref b), (1, .ref hX0), (2, .ref hM0)]) hx hb d_L_law_535 hl rfl (wg_iinc4 i) (by decide) rfl (fun ls hl => ?_)
      refine lv_goto (tgt := 18) hx hb d_L_law_538 (by decide) ?_
      exact ih (i + 4) I J _ _ _ ⟨by omega, hXI, hMI, hrel, hXF, hPx, hPm, hS, lv_sub hl [1, 2, 3, 0] rfl⟩ (by omega)
    · refine lv_tableIn (off := 331) (tgt := 363) hx hb d_L_law_32 (by decide +kernel) (by decide +kernel) (by decide +kernel) (by decide) ?_
      refine lv_aload_n hx hb d_L_law_363 rfl (lv_at hl 1 rfl) ?_
      refine lv_aload_n hx hb d_L_law_364 rfl (lv_at hl 0 rfl) ?_
      refine lv_iload_n hx hb d_L_law_365 rfl (lv_at hl 3 rfl) ?_
      refine lv_iconst (v := nI 1) hx hb d_L_law_366 (by decide +kernel) ?_
      refine t_iadd (v := nI (i + 1)) hx hb d_L_law_367 (nI_add _ _) ?_
      refine wg_sld hx hb hX hbl hbA hS (show i + 1 < L by omega) hL31 d_L_law_368 ?_
      refine lv_i2l (v := (xs (i + 1)).toInt64) hx hb d_L_law_369 rfl ?_
      refine lv_bipush (v := nI 32) hx hb d_L_law_370 (by decide +kernel) ?_
      refine lv_lshl (v := (xs (i + 1)).toInt64 <<< ((nI 32).toInt64 &&& 63)) hx hb d_L_law_372 rfl ?_
      refine lv_aload_n hx hb d_L_law_373 rfl (lv_at hl 0 rfl) ?_
      refine lv_iload_n hx hb d_L_law_374 rfl (lv_at hl 3 rfl) ?_
      refine lv_iconst (v := nI 2) hx hb d_L_law_375 (by decide +kernel) ?_
      refine t_iadd (v := nI (i + 2)) hx hb d_L_law_376 (nI_add _ _) ?_
      refine wg_sld hx hb hX hbl hbA hS (show i + 2 < L by omega) hL31 d_L_law_377 ?_
      refine lv_i2l (v := (xs (i + 2)).toInt64) hx hb d_L_law_378 rfl ?_
      refine lv_ldc2 (v := 4294967295) hx hb hown (hts _ kl_L_13) d_L_law_379 ?_
      refine lv_land hx hb d_L_law_382 ?_
      obtain ⟨n, hn64, hz⟩ := wb_of (((xs (i + 1)).toInt64 <<< ((nI 32).toInt64 &&& 63)) ||| ((xs (i + 2)).toInt64 &&& 4294967295))
      refine t_lor (v := lN n) hx hb d_L_law_383 hz ?_
      refine lv_aload_n hx hb d_L_law_384 rfl (lv_at hl 0 rfl) ?_
      refine lv_iload_n hx hb d_L_law_385 rfl (lv_at hl 3 rfl) ?_
      refine lv_iconst (v := nI 3) hx hb d_L_law_386 (by decide +kernel) ?_
      refine t_iadd (v := nI (i + 3)) hx hb d_L_law_387 (nI_add _ _) ?_
      refine wg_sld hx hb hX hbl hbA hS (show i + 3 < L by omega) hL31 d_L_law_388 ?_
      refine wg_cvi (As := [.long (lN n), .int (xs (i + 3))]) (rest := []) hx hb hml hown hts hK hPx (hDX _) hS hA rfl rfl rfl (c_X_distance l D cJ cI hX0 ad _ I n (xs (i + 3)) hn64 hXI hXF) kc_L_62 ⟨rfl, rfl⟩ ⟨Nat.le_of_ble_eq_true rfl, Nat.le_of_ble_eq_true rfl⟩ rfl hl.1 rfl (Nat.le_of_ble_eq_true rfl) d_L_law_389 ⟨Nat.le_of_ble_eq_true rfl, Nat.le_of_ble_eq_true rfl⟩ (fun rx ux t H locs ht qx hB _ hk hS => ?_)
      have hPm := wg_keep2 hPm (hds _ _) hk
      have hPx : va_P D wg_cl (wg_WX cJ cI hX0 ad ux) H := by rw [← ht]; exact hB
      clear hB ht t hk
      refine lv_pop hx hb d_L_law_392 rfl ?_
      refine lv_aload_n hx hb d_L_law_393 rfl (lv_at hl 2 rfl) ?_
      refine lv_aload_n hx hb d_L_law_394 rfl (lv_at hl 0 rfl) ?_
      refine lv_iload_n hx hb d_L_law_395 rfl (lv_at hl 3 rfl) ?_
      refine lv_iconst (v := nI 1) hx hb d_L_law_396 (by decide +kernel) ?_
      refine t_iadd (v := nI (i + 1)) hx hb d_L_law_397 (nI_add _ _) ?_
      refine wg_sld hx hb hX hbl hbA hS (show i + 1 < L by omega) hL31 d_L_law_398 ?_
      refine lv_i2l (v := (xs (i + 1)).toInt64) hx hb d_L_law_399 rfl ?_
      refine lv_bipush (v := nI 32) hx hb d_L_law_400 (by decide +kernel) ?_
      refine lv_lshl (v := (xs (i + 1)).toInt64 <<< ((nI 32).toInt64 &&& 63)) hx hb d_L_law_402 rfl ?_
      refine lv_aload_n hx hb d_L_law_403 rfl (lv_at hl 0 rfl) ?_
      refine lv_iload_n hx hb d_L_law_404 rfl (lv_at hl 3 rfl) ?_
      refine lv_iconst (v := nI 2) hx hb d_L_law_405 (by decide +kernel) ?_
      refine t_iadd (v := nI (i + 2)) hx hb d_L_law_406 (nI_add _ _) ?_
      refine wg_sld hx hb hX hbl hbA hS (show i + 2 < L by omega) hL31 d_L_law_407 ?_
      refine lv_i2l (v := (xs (i + 2)).toInt64) hx hb d_L_law_408 rfl ?_
      refine lv_ldc2 (v := 4294967295) hx hb hown (hts _ kl_L_13) d_L_law_409 ?_
      refine lv_land hx hb d_L_law_412 ?_
      refine t_lor (v := lN n) hx hb d_L_law_413 hz ?_
      refine lv_aload_n hx hb d_L_law_414 rfl (lv_at hl 0 rfl) ?_
      refine lv_iload_n hx hb d_L_law_415 rfl (lv_at hl 3 rfl) ?_
      refine lv_iconst (v := nI 3) hx hb d_L_law_416 (by decide +kernel) ?_
      refine t_iadd (v := nI (i + 3)) hx hb d_L_law_417 (nI_add _ _) ?_
      refine wg_sld hx hb hX hbl hbA hS (show i + 3 < L by omega) hL31 d_L_law_418 ?_
      refine wg_cvi (As := [.long (lN n), .int (xs (i + 3))]) (rest := []) hx hb hml hown hts hK hPm (hDM _) hS hA rfl rfl rfl (c_M_distance l D cJ cI hM0 am _ J n (xs (i + 3)) hn64 hMI) kc_L_66 ⟨rfl, rfl⟩ ⟨Nat.le_of_ble_eq_true rfl, Nat.le_of_ble_eq_true rfl⟩ rfl hl.1 rfl (Nat.le_of_ble_eq_true rfl) d_L_law_419 ⟨Nat.le_of_ble_eq_true rfl, Nat.le_of_ble_eq_true rfl⟩ (fun rm um t H locs ht qm hB _ hk hS => ?_)
      have hPx := wg_keep2 hPx (wg_dis_sym (hds _ _)) hk
      have hPm : va_P D wg_cl (wg_WM cJ cI hM0 am um) H := by rw [← ht]; exact hB
      clear hB ht t hk
      refine lv_pop hx hb d_L_law_422 rfl ?_
      refine lv_goto (tgt := 535) hx hb d_L_law_423 (by decide) ?_
      obtain ⟨hEQ, hXI, hMI, hrel, hXF⟩ := wg_rel_dist hrel hXI hMI hXF qx qm
      refine lv_iinc (v := nI (i + 4)) (k := 3) (lv' := [(3, .int (nI (i + 4))), (0, .ref b), (1, .ref hX0), (2, .ref hM0)]) hx hb d_L_law_535 hl rfl (wg_iinc4 i) (by decide) rfl (fun ls hl => ?_)
      refine lv_goto (tgt := 18) hx hb d_L_law_538 (by decide) ?_
      exact ih (i + 4) _ _ _ _ _ ⟨by omega, hXI, hMI, hrel, hXF, hPx, hPm, hS, lv_sub hl [1, 2, 3, 0] rfl⟩ (by omega)
    · refine lv_tableIn (off := 394) (tgt := 426) hx hb d_L_law_32 (by decide +kernel) (by decide +kernel) (by decide +kernel) (by decide) ?_
      refine lv_aload_n hx hb d_L_law_426 rfl (lv_at hl 1 rfl) ?_
      refine lv_aload_n hx hb d_L_law_427 rfl (lv_at hl 0 rfl) ?_
      refine lv_iload_n hx hb d_L_law_428 rfl (lv_at hl 3 rfl) ?_
      refine lv_iconst (v := nI 1) hx hb d_L_law_429 (by decide +kernel) ?_
      refine t_iadd (v := nI (i + 1)) hx hb d_L_law_430 (nI_add _ _) ?_
      refine wg_sld hx hb hX hbl hbA hS (show i + 1 < L by omega) hL31 d_L_law_431 ?_
      refine lv_i2l (v := (xs (i + 1)).toInt64) hx hb d_L_law_432 rfl ?_
      refine lv_bipush (v := nI 32) hx hb d_L_law_433 (by decide +kernel) ?_
      refine lv_lshl (v := (xs (i + 1)).toInt64 <<< ((nI 32).toInt64 &&& 63)) hx hb d_L_law_435 rfl ?_
      refine lv_aload_n hx hb d_L_law_436 rfl (lv_at hl 0 rfl) ?_
      refine lv_iload_n hx hb d_L_law_437 rfl (lv_at hl 3 rfl) ?_
      refine lv_iconst (v := nI 2) hx hb d_L_law_438 (by decide +kernel) ?_
      refine t_iadd (v := nI (i + 2)) hx hb d_L_law_439 (nI_add _ _) ?_
      refine wg_sld hx hb hX hbl hbA hS (show i + 2 < L by omega) hL31 d_L_law_440 ?_
      refine lv_i2l (v := (xs (i + 2)).toInt64) hx hb d_L_law_441 rfl ?_
      refine lv_ldc2 (v := 4294967295) hx hb hown (hts _ kl_L_13) d_L_law_442 ?_
      refine lv_land hx hb d_L_law_445 ?_
      obtain ⟨n, hn64, hz⟩ := wb_of (((xs (i + 1)).toInt64 <<< ((nI 32).toInt64 &&& 63)) ||| ((xs (i + 2)).toInt64 &&& 4294967295))
      refine t_lor (v := lN n) hx hb d_L_law_446 hz ?_
      refine lv_aload_n hx hb d_L_law_447 rfl (lv_at hl 0 rfl) ?_
      refine lv_iload_n hx hb d_L_law_448 rfl (lv_at hl 3 rfl) ?_
      refine lv_iconst (v := nI 3) hx hb d_L_law_449 (by decide +kernel) ?_
      refine t_iadd (v := nI (i + 3)) hx hb d_L_law_450 (nI_add _ _) ?_
      refine wg_sld hx hb hX hbl hbA hS (show i + 3 < L by omega) hL31 d_L_law_451 ?_
      refine wg_cvi (As := [.long (lN n), .int (xs (i + 3))]) (rest := []) hx hb hml hown hts hK hPx (hDX _) hS hA rfl rfl rfl (c_X_search l D cJ cI hX0 ad _ I n (xs (i + 3)) hn64 hXI hXF) kc_L_67 ⟨rfl, rfl⟩ ⟨Nat.le_of_ble_eq_true rfl, Nat.le_of_ble_eq_true rfl⟩ rfl hl.1 rfl (Nat.le_of_ble_eq_true rfl) d_L_law_452 ⟨Nat.le_of_ble_eq_true rfl, Nat.le_of_ble_eq_true rfl⟩ (fun rx ux t H locs ht qx hB _ hk hS => ?_)
      have hPm := wg_keep2 hPm (hds _ _) hk
      have hPx : va_P D wg_cl (wg_WX cJ cI hX0 ad ux) H := by rw [← ht]; exact hB
      clear hB ht t hk
      refine lv_pop hx hb d_L_law_455 rfl ?_
      refine lv_aload_n hx hb d_L_law_456 rfl (lv_at hl 2 rfl) ?_
      refine lv_aload_n hx hb d_L_law_457 rfl (lv_at hl 0 rfl) ?_
      refine lv_iload_n hx hb d_L_law_458 rfl (lv_at hl 3 rfl) ?_
      refine lv_iconst (v := nI 1) hx hb d_L_law_459 (by decide +kernel) ?_
      refine t_iadd (v := nI (i + 1)) hx hb d_L_law_460 (nI_add _ _) ?_
      refine wg_sld hx hb hX hbl hbA hS (show i + 1 < L by omega) hL31 d_L_law_461 ?_
      refine lv_i2l (v := (xs (i + 1)).toInt64) hx hb d_L_law_462 rfl ?_
      refine lv_bipush (v := nI 32) hx hb d_L_law_463 (by decide +kernel) ?_
      refine lv_lshl (v := (xs (i + 1)).toInt64 <<< ((nI 32).toInt64 &&& 63)) hx hb d_L_law_465 rfl ?_
      refine lv_aload_n hx hb d_L_law_466 rfl (lv_at hl 0 rfl) ?_
      refine lv_iload_n hx hb d_L_law_467 rfl (lv_at hl 3 rfl) ?_
      refine lv_iconst (v := nI 2) hx hb d_L_law_468 (by decide +kernel) ?_
      refine t_iadd (v := nI (i + 2)) hx hb d_L_law_469 (nI_add _ _) ?_
      refine wg_sld hx hb hX hbl hbA hS (show i + 2 < L by omega) hL31 d_L_law_470 ?_
      refine lv_i2l (v := (xs (i + 2)).toInt64) hx hb d_L_law_471 rfl ?_
      refine lv_ldc2 (v := 4294967295) hx hb hown (hts _ kl_L_13) d_L_law_472 ?_
      refine lv_land hx hb d_L_law_475 ?_
      refine t_lor (v := lN n) hx hb d_L_law_476 hz ?_
      refine lv_aload_n hx hb d_L_law_477 rfl (lv_at hl 0 rfl) ?_
      refine lv_iload_n hx hb d_L_law_478 rfl (lv_at hl 3 rfl) ?_
      refine lv_iconst (v := nI 3) hx hb d_L_law_479 (by decide +kernel) ?_
      refine t_iadd (v := nI (i + 3)) hx hb d_L_law_480 (nI_add _ _) ?_
      refine wg_sld hx hb hX hbl hbA hS (show i + 3 < L by omega) hL31 d_L_law_481 ?_
      refine wg_cvi (As := [.long (lN n), .int (xs (i + 3))]) (rest := []) hx hb hml hown hts hK hPm (hDM _) hS hA rfl rfl rfl (c_M_search l D cJ cI hM0 am _ J n (xs (i + 3)) hn64 hMI) kc_L_70 ⟨rfl, rfl⟩ ⟨Nat.le_of_ble_eq_true rfl, Nat.le_of_ble_eq_true rfl⟩ rfl hl.1 rfl (Nat.le_of_ble_eq_true rfl) d_L_law_482 ⟨Nat.le_of_ble_eq_true rfl, Nat.le_of_ble_eq_true rfl⟩ (fun rm um t H locs ht qm hB _ hk hS => ?_)
      have hPx := wg_keep2 hPx (wg_dis_sym (hds _ _)) hk
      have hPm : va_P D wg_cl (wg_WM cJ cI hM0 am um) H := by rw [← ht]; exact hB
      clear hB ht t hk
      refine lv_pop hx hb d_L_law_485 rfl ?_
      refine lv_goto (tgt := 535) hx hb d_L_law_486 (by decide) ?_
      obtain ⟨hEQ, hXI, hMI, hrel, hXF⟩ := wg_rel_search hrel hXI hMI hXF qx qm
      refine lv_iinc (v := nI (i + 4)) (k := 3) (lv' := [(3, .int (nI (i + 4))), (0, .ref b), (1, .ref hX0), (2, .ref hM0)]) hx hb d_L_law_535 hl rfl (wg_iinc4 i) (by decide) rfl (fun ls hl => ?_)
      refine lv_goto (tgt := 18) hx hb d_L_law_538 (by decide) ?_
      exact ih (i + 4) _ _ _ _ _ ⟨by omega, hXI, hMI, hrel, hXF, hPx, hPm, hS, lv_sub hl [1, 2, 3, 0] rfl⟩ (by omega)
    · refine lv_tableIn (off := 457) (tgt := 489) hx hb d_L_law_32 (by decide +kernel) (by decide +kernel) (by decide +kernel) (by decide) ?_
      refine lv_aload_n hx hb d_L_law_489 rfl (lv_at hl 1 rfl) ?_
      refine lv_aload_n hx hb d_L_law_490 rfl (lv_at hl 0 rfl) ?_
      refine lv_iload_n hx hb d_L_law_491 rfl (lv_at hl 3 rfl) ?_
      refine lv_iconst (v := nI 1) hx hb d_L_law_492 (by decide +kernel) ?_
      refine t_iadd (v := nI (i + 1)) hx hb d_L_law_493 (nI_add _ _) ?_
      refine wg_sld hx hb hX hbl hbA hS (show i + 1 < L by omega) hL31 d_L_law_494 ?_
      refine wg_cvi (As := [.int (xs (i + 1))]) (rest := []) hx hb hml hown hts hK hPx (hDX _) hS hA rfl rfl rfl (c_X_result l D cJ cI hX0 ad _ I (xs (i + 1)) hXI) kc_L_71 ⟨rfl, rfl⟩ ⟨Nat.le_of_ble_eq_true rfl, Nat.le_of_ble_eq_true rfl⟩ rfl hl.1 rfl (Nat.le_of_ble_eq_true rfl) d_L_law_495 ⟨Nat.le_of_ble_eq_true rfl, Nat.le_of_ble_eq_true rfl⟩ (fun rx ux t H locs ht qx hB _ hk hS => ?_)
      have hPm := wg_keep2 hPm (hds _ _) hk
      have hPx : va_P D wg_cl (wg_WX cJ cI hX0 ad I) H := by rw [← ht]; exact hB
      clear hB ht t hk
      refine lv_pop hx hb d_L_law_498 rfl ?_
      refine lv_aload_n hx hb d_L_law_499 rfl (lv_at hl 2 rfl) ?_
      refine lv_aload_n hx hb d_L_law_500 rfl (lv_at hl 0 rfl) ?_
      refine lv_iload_n hx hb d_L_law_501 rfl (lv_at hl 3 rfl) ?_
      refine lv_iconst (v := nI 1) hx hb d_L_law_502 (by decide +kernel) ?_
      refine t_iadd (v := nI (i + 1)) hx hb d_L_law_503 (nI_add _ _) ?_
      refine wg_sld hx hb hX hbl hbA hS (show i + 1 < L by omega) hL31 d_L_law_504 ?_
      refine wg_cvi (As := [.int (xs (i + 1))]) (rest := []) hx hb hml hown hts hK hPm (hDM _) hS hA rfl rfl rfl (c_M_result l D cJ cI hM0 am _ J (xs (i + 1)) hMI) kc_L_74 ⟨rfl, rfl⟩ ⟨Nat.le_of_ble_eq_true rfl, Nat.le_of_ble_eq_true rfl⟩ rfl hl.1 rfl (Nat.le_of_ble_eq_true rfl) d_L_law_505 ⟨Nat.le_of_ble_eq_true rfl, Nat.le_of_ble_eq_true rfl⟩ (fun rm um t H locs ht qm hB _ hk hS => ?_)
      have hPx := wg_keep2 hPx (wg_dis_sym (hds _ _)) hk
      have hPm : va_P D wg_cl (wg_WM cJ cI hM0 am J) H := by rw [← ht]; exact hB
      clear hB ht t hk
      refine lv_pop hx hb d_L_law_508 rfl ?_
      refine lv_goto (tgt := 535) hx hb d_L_law_509 (by decide) ?_
      have hEQ : rx = rm := wg_rel_res hrel.2.2.2.1 (by have := hXI.2.2.2.1; omega) (fun i hi => (hrel.2.2.2.2 i hi).1) qx qm
      refine lv_iinc (v := nI (i + 4)) (k := 3) (lv' := [(3, .int (nI (i + 4))), (0, .ref b), (1, .ref hX0), (2, .ref hM0)]) hx hb d_L_law_535 hl rfl (wg_iinc4 i) (by decide) rfl (fun ls hl => ?_)
      refine lv_goto (tgt := 18) hx hb d_L_law_538 (by decide) ?_
      exact ih (i + 4) I J _ _ _ ⟨by omega, hXI, hMI, hrel, hXF, hPx, hPm, hS, lv_sub hl [1, 2, 3, 0] rfl⟩ (by omega)
    · refine lv_tableIn (off := 480) (tgt := 512) hx hb d_L_law_32 (by decide +kernel) (by decide +kernel) (by decide +kernel) (by decide) ?_
      refine lv_aload_n hx hb d_L_law_512 rfl (lv_at hl 1 rfl) ?_
      refine lv_aload_n hx hb d_L_law_513 rfl (lv_at hl 0 rfl) ?_
      refine lv_iload_n hx hb d_L_law_514 rfl (lv_at hl 3 rfl) ?_
      refine lv_iconst (v := nI 1) hx hb d_L_law_515 (by decide +kernel) ?_
      refine t_iadd (v := nI (i + 1)) hx hb d_L_law_516 (nI_add _ _) ?_
      refine wg_sld hx hb hX hbl hbA hS (show i + 1 < L by omega) hL31 d_L_law_517 ?_
      refine wg_cvi (As := [.int (xs (i + 1))]) (rest := []) hx hb hml hown hts hK hPx (hDX _) hS hA rfl rfl rfl (c_X_far l D cJ cI hX0 ad _ I (xs (i + 1)) hXI) kc_L_75 ⟨rfl, rfl⟩ ⟨Nat.le_of_ble_eq_true rfl, Nat.le_of_ble_eq_true rfl⟩ rfl hl.1 rfl (Nat.le_of_ble_eq_true rfl) d_L_law_518 ⟨Nat.le_of_ble_eq_true rfl, Nat.le_of_ble_eq_true rfl⟩ (fun rx ux t H locs ht qx hB _ hk hS => ?_)
      have hPm := wg_keep2 hPm (hds _ _) hk
      have hPx : va_P D wg_cl (wg_WX cJ cI hX0 ad I) H := by rw [← ht]; exact hB
      clear hB ht t hk
      refine lv_pop hx hb d_L_law_521 rfl ?_
      refine lv_aload_n hx hb d_L_law_522 rfl (lv_at hl 2 rfl) ?_
      refine lv_aload_n hx hb d_L_law_523 rfl (lv_at hl 0 rfl) ?_
      refine lv_iload_n hx hb d_L_law_524 rfl (lv_at hl 3 rfl) ?_
      refine lv_iconst (v := nI 1) hx hb d_L_law_525 (by decide +kernel) ?_
      refine t_iadd (v := nI (i + 1)) hx hb d_L_law_526 (nI_add _ _) ?_
      refine wg_sld hx hb hX hbl hbA hS (show i + 1 < L by omega) hL31 d_L_law_527 ?_
      refine wg_cvi (As := [.int (xs (i + 1))]) (rest := []) hx hb hml hown hts hK hPm (hDM _) hS hA rfl rfl rfl (c_M_far l D cJ cI hM0 am _ J (xs (i + 1)) hMI) kc_L_78 ⟨rfl, rfl⟩ ⟨Nat.le_of_ble_eq_true rfl, Nat.le_of_ble_eq_true rfl⟩ rfl hl.1 rfl (Nat.le_of_ble_eq_true rfl) d_L_law_528 ⟨Nat.le_of_ble_eq_true rfl, Nat.le_of_ble_eq_true rfl⟩ (fun rm um t H locs ht qm hB _ hk hS => ?_)
      have hPx := wg_keep2 hPx (wg_dis_sym (hds _ _)) hk
      have hPm : va_P D wg_cl (wg_WM cJ cI hM0 am J) H := by rw [← ht]; exact hB
      clear hB ht t hk
      refine lv_pop hx hb d_L_law_531 rfl ?_
      refine lv_goto (tgt := 535) hx hb d_L_law_532 (by decide) ?_
      have hEQ : rx = rm := wg_rel_res hrel.2.2.2.1 (by have := hXI.2.2.2.1; omega) (fun i hi => (hrel.2.2.2.2 i hi).2) qx qm
      refine lv_iinc (v := nI (i + 4)) (k := 3) (lv' := [(3, .int (nI (i + 4))), (0, .ref b), (1, .ref hX0), (2, .ref hM0)]) hx hb d_L_law_535 hl rfl (wg_iinc4 i) (by decide) rfl (fun ls hl => ?_)
      refine lv_goto (tgt := 18) hx hb d_L_law_538 (by decide) ?_
      exact ih (i + 4) I J _ _ _ ⟨by omega, hXI, hMI, hrel, hXF, hPx, hPm, hS, lv_sub hl [1, 2, 3, 0] rfl⟩ (by omega)
    · refine lv_tableOut (tgt := 535) hx hb d_L_law_32 (Or.inr (by rw [nI_toInt (by omega)]; omega)) (by decide) ?_
      refine lv_iinc (v := nI (i + 4)) (k := 3) (lv' := [(3, .int (nI (i + 4))), (0, .ref b), (1, .ref hX0), (2, .ref hM0)]) hx hb d_L_law_535 hl rfl (wg_iinc4 i) (by decide) rfl (fun ls hl => ?_)
      refine lv_goto (tgt := 18) hx hb d_L_law_538 (by decide) ?_
      exact ih (i + 4) I J _ _ _ ⟨by omega, hXI, hMI, hrel, hXF, hPx, hPm, hS, lv_sub hl [1, 2, 3, 0] rfl⟩ (by omega)
