/-! More of words and distances: what the functional contracts rest on. -/
theorem wg_len_ln {n : Nat} (h : wg_ok n) : wg_ln n = wg_len n := by
  have key : ∀ i, i ≤ 12 → wg_cn n i = min i (wg_len n) := by
    intro i
    induction i with
    | zero => intro _; rw [wg_cn]; omega
    | succ i ih =>
      intro hi
      have e := ih (by omega)
      have hs := wg_cn_s n i
      by_cases q : i < wg_len n
      · rw [hs.2 (wg_len_ne q), e]; omega
      · rw [hs.1 (wg_ok_tail h i (by omega) (by omega)), e]; omega
  have hl := wg_len_le n
  unfold wg_ln
  rw [key 12 (Nat.le_refl _)]
  omega
theorem wg_digits {a b : Nat} (h : ∀ i, i < 12 → wg_lt a i = wg_lt b i) : ∀ k, k ≤ 12 → a % 2 ^ (5 * k) = b % 2 ^ (5 * k) := by
  intro k
  induction k with
  | zero => intro _; simp [Nat.mod_one]
  | succ k ih =>
    intro hk
    have e : ∀ n : Nat, n % 2 ^ (5 * (k + 1)) = n % 2 ^ (5 * k) + 2 ^ (5 * k) * wg_lt n (12 - (k + 1)) := by
      intro n
      unfold wg_lt
      rw [show 55 - 5 * (12 - (k + 1)) = 5 * k by omega, show 5 * (k + 1) = 5 * k + 5 by omega, Nat.pow_add, Nat.mod_mul]
    rw [e a, e b, ih (by omega), h (12 - (k + 1)) (by omega)]
theorem wg_same_word {a b : Nat} (ha : a < 2 ^ 60) (hb : b < 2 ^ 60) (h : ∀ i, i < 12 → wg_lt a i = wg_lt b i) : a = b := by
  have e := wg_digits h 12 (Nat.le_refl _)
  rw [show 5 * 12 = 60 by omega, Nat.mod_eq_of_lt ha, Nat.mod_eq_of_lt hb] at e
  exact e
theorem wg_shd_eq {a b i : Nat} (h : i < wg_shd a b) : wg_lt a i = wg_lt b i := by
  have := wg_run_all (fun i => wg_lt a i == wg_lt b i) 12 0 i (Nat.zero_le _) h
  simpa using this
theorem wg_shd_len {a b : Nat} (ha : wg_ok a) (hb : wg_ok b) (hne : ¬ a = b) : wg_shd a b ≤ wg_len a := by
  apply Nat.not_lt.mp
  intro q
  apply hne
  have hl := wg_shd_le a b
  have hz : wg_lt a (wg_len a) = 0 := wg_len_z (by omega)
  have hz2 : wg_lt b (wg_len a) = 0 := by rw [← wg_shd_eq q]; exact hz
  have hlb : wg_len b ≤ wg_len a := by
    apply Nat.not_lt.mp
    intro q2
    exact wg_len_ne q2 hz2
  refine wg_same_word ha.1 hb.1 (fun i hi => ?_)
  by_cases hs : i < wg_shd a b
  · exact wg_shd_eq hs
  · rw [wg_ok_tail ha i (by omega) hi, wg_ok_tail hb i (by omega) hi]
theorem wg_bt_pre {v w n : Nat} : ∀ r, (∀ i, i < r → wg_lt v i = wg_lt w i) → ∀ j, wg_bt v n r j = wg_bt w n r j := by
  intro r
  induction r with
  | zero => intro _ j; rw [wg_bt_0, wg_bt_0]
  | succ r ih =>
    intro h j
    have ih := ih (fun i hi => h i (by omega))
    induction j with
    | zero => rw [wg_bt_i, wg_bt_i]
    | succ j ihj => rw [wg_bt_s, wg_bt_s, ih j, ih (j + 1), ihj, h r (by omega)]
theorem wg_bt_sym (u v : Nat) : ∀ i j, wg_bt u v i j = wg_bt v u j i := by
  intro i
  induction i with
  | zero => intro j; rw [wg_bt_0, wg_bt_i]
  | succ i ih =>
    intro j
    induction j with
    | zero => rw [wg_bt_0, wg_bt_i]
    | succ j ihj =>
      rw [wg_bt_s, wg_bt_s, ih j, ih (j + 1), ihj]
      by_cases h : wg_lt u i = wg_lt v j
      · rw [if_pos h, if_pos h.symm]; omega
      · rw [if_neg h, if_neg (fun q => h q.symm)]; omega
theorem wg_rows_prev {T : Nat → Nat} {v w n a r i : Nat} (hv : wg_ok v) (hw : wg_ok w) (hne : ¬ v = w) (hT : ∀ x i, x ≤ wg_len v → i ≤ a → T (x * 13 + i) = wg_bt v n x i) (hr : r ≤ wg_shd v w) (hi : i ≤ a) : T (r * 13 + i) = wg_bt w n r i := by
  have hl := wg_shd_len hv hw hne
  rw [hT r i (by omega) hi]
  exact wg_bt_pre r (fun k hk => wg_shd_eq (by omega)) i
-- counting again
theorem wg_cq_lt {f : Nat → Nat} {e a b : Nat} (h : a < b) (hf : f a = e) : wg_cq f e a < wg_cq f e b := by
  have h2 := wg_cq_mono f e (show a + 1 ≤ b by omega)
  rw [wg_cq_t hf] at h2
  omega
theorem wg_ct_mono (f : Nat → Nat) (n : Nat) {a b : Nat} (h : a ≤ b) : wg_ct f a n ≤ wg_ct f b n := by
  induction b with
  | zero => rw [show a = 0 by omega]; exact Nat.le_refl _
  | succ b ih =>
    rcases Nat.eq_or_lt_of_le h with rfl | q
    · exact Nat.le_refl _
    · rw [wg_ct_s]
      have := ih (by omega)
      omega
/-- what the results hold when all words of distances under e, and of distance e those ahead of k, are taken -/
def wg_RS (f : Nat → Nat) (n : Nat) (A B : Nat → Nat) (e k : Nat) : Prop := ∀ e' k', k' < n → f k' = e' → (e' < e ∨ (e' = e ∧ k' < k)) → A (wg_ct f e' n + wg_cq f e' k') = k' ∧ B (wg_ct f e' n + wg_cq f e' k') = e'
theorem wg_RS_0 (f : Nat → Nat) (n : Nat) (A B : Nat → Nat) : wg_RS f n A B 0 0 := fun e' k' _ _ h => by omega
theorem wg_RS_n {f : Nat → Nat} {n : Nat} {A B : Nat → Nat} {e : Nat} (h : wg_RS f n A B e n) : wg_RS f n A B (e + 1) 0 := fun e' k' h1 h2 h3 => h e' k' h1 h2 (by omega)
theorem wg_RS_f {f : Nat → Nat} {n : Nat} {A B : Nat → Nat} {e k : Nat} (h : wg_RS f n A B e k) (hk : ¬ f k = e) : wg_RS f n A B e (k + 1) := fun e' k' h1 h2 h3 => h e' k' h1 h2 (by
  rcases h3 with h3 | ⟨h3, h4⟩
  · exact Or.inl h3
  · refine Or.inr ⟨h3, ?_⟩
    apply Nat.lt_of_le_of_ne (by omega)
    intro q
    subst q
    exact hk (h2.trans h3))
theorem wg_RS_t {f : Nat → Nat} {n : Nat} {A B A' B' : Nat → Nat} {e k : Nat} (h : wg_RS f n A B e k) (hkn : k < n) (hk : f k = e) (hA : ∀ x, ¬ x = wg_ct f e n + wg_cq f e k → A' x = A x) (hB : ∀ x, ¬ x = wg_ct f e n + wg_cq f e k → B' x = B x) (hA1 : A' (wg_ct f e n + wg_cq f e k) = k) (hB1 : B' (wg_ct f e n + wg_cq f e k) = e) : wg_RS f n A' B' e (k + 1) := by
  intro e' k' h1 h2 h3
  by_cases q : e' = e ∧ k' = k
  · obtain ⟨rfl, rfl⟩ := q
    exact ⟨hA1, hB1⟩
  · have h4 : e' < e ∨ (e' = e ∧ k' < k) := by omega
    have hlt : wg_ct f e' n + wg_cq f e' k' < wg_ct f e n + wg_cq f e k := by
      rcases h4 with h4 | ⟨rfl, h4⟩
      · have a1 := wg_cq_lt h1 h2
        have a2 := wg_ct_s f e' n
        have a3 := wg_ct_mono f n (show e' + 1 ≤ e by omega)
        omega
      · have := wg_cq_lt h4 h2
        omega
    rw [hA _ (by omega), hB _ (by omega)]
    exact h e' k' h1 h2 h4
theorem wg_cq_at {f : Nat → Nat} {e : Nat} : ∀ n i, i < wg_cq f e n → ∃ k, k < n ∧ f k = e ∧ wg_cq f e k = i := by
  intro n
  induction n with
  | zero => intro i h; rw [wg_cq] at h; omega
  | succ n ih =>
    intro i h
    by_cases q : i < wg_cq f e n
    · obtain ⟨k, h1, h2, h3⟩ := ih i q
      exact ⟨k, by omega, h2, h3⟩
    · by_cases hf : f n = e
      · rw [wg_cq_t hf] at h
        exact ⟨n, by omega, hf, by omega⟩
      · rw [wg_cq_f hf] at h
        omega
theorem wg_ct_at {f : Nat → Nat} {n : Nat} : ∀ E i, i < wg_ct f E n → ∃ e k, e < E ∧ k < n ∧ f k = e ∧ i = wg_ct f e n + wg_cq f e k := by
  intro E
  induction E with
  | zero => intro i h; rw [wg_ct_0] at h; omega
  | succ E ih =>
    intro i h
    by_cases q : i < wg_ct f E n
    · obtain ⟨e, k, h1, h2, h3, h4⟩ := ih i q
      exact ⟨e, k, by omega, h2, h3, h4⟩
    · rw [wg_ct_s] at h
      obtain ⟨k, h1, h2, h3⟩ := wg_cq_at (f := f) (e := E) n (i - wg_ct f E n) (by omega)
      exact ⟨E, k, by omega, h1, h2, by omega⟩
theorem wg_cq_ext {f g : Nat → Nat} {e : Nat} : ∀ n, (∀ k, k < n → f k = g k) → wg_cq f e n = wg_cq g e n := by
  intro n
  induction n with
  | zero => intro _; rfl
  | succ n ih => intro h; rw [wg_cq, wg_cq, ih (fun k hk => h k (by omega)), h n (by omega)]
theorem wg_ct_ext {f g : Nat → Nat} {e : Nat} : ∀ n, (∀ k, k < n → f k = g k) → wg_ct f e n = wg_ct g e n := by
  intro n
  induction n with
  | zero => intro _; rfl
  | succ n ih => intro h; rw [wg_ct, wg_ct, ih (fun k hk => h k (by omega)), h n (by omega)]
/-- two that hold the same results, as far as they go -/
theorem wg_RS_same {f g : Nat → Nat} {n E : Nat} {A B A' B' : Nat → Nat} (hfg : ∀ k, k < n → f k = g k) (h : wg_RS f n A B E 0) (h' : wg_RS g n A' B' E 0) : ∀ i, i < wg_ct f E n → A i = A' i ∧ B i = B' i := by
  intro i hi
  obtain ⟨e, k, h1, h2, h3, rfl⟩ := wg_ct_at E i hi
  obtain ⟨a1, a2⟩ := h e k h2 h3 (Or.inl h1)
  have b := h' e k h2 ((hfg k h2).symm.trans h3) (Or.inl h1)
  rw [← wg_ct_ext n hfg, ← wg_cq_ext k (fun j hj => hfg j (by omega))] at b
  exact ⟨a1.trans b.1.symm, a2.trans b.2.symm⟩
/-- the words kept: what the functional contracts need of the class's arrays -/
def wg_XF (I : wg_S) : Prop := (∀ k, k < I 3 0 → wg_ok (I 0 k) ∧ I 1 k = wg_len (I 0 k)) ∧ (0 < I 3 0 → I 2 0 = 0) ∧ (∀ k, 0 < k → k < I 3 0 → I 2 k = wg_shd (I 0 (k - 1)) (I 0 k) + 1 ∧ I 0 (k - 1) < I 0 k)
theorem wg_XF_fr {I u : wg_S} (h : wg_XF I) (hf : ∀ j, j < 4 → u j = I j) : wg_XF u := by
  unfold wg_XF
  rw [hf 0 (by omega), hf 1 (by omega), hf 2 (by omega), hf 3 (by omega)]
  exact h
theorem wg_XF_add0 {I : wg_S} {n : Nat} (hn : wg_ok n) (h3 : I 3 0 = 0) : wg_XF (wg_st (wg_st (wg_st (wg_st I 0 (I 3 0) n) 1 (I 3 0) (wg_len n)) 2 (I 3 0) 0) 3 0 (I 3 0 + 1)) := by
  have e0 : ∀ k, wg_st (wg_st (wg_st (wg_st I 0 (I 3 0) n) 1 (I 3 0) (wg_len n)) 2 (I 3 0) 0) 3 0 (I 3 0 + 1) 0 k = wg_st I 0 (I 3 0) n 0 k := fun _ => rfl
  refine ⟨fun k hk => ?_, fun _ => ?_, fun k h0 hk => ?_⟩
  · have hk : k < I 3 0 + 1 := hk
    have hk : k = I 3 0 := by omega
    subst hk
    exact ⟨by show wg_ok (wg_st I 0 (I 3 0) n 0 (I 3 0)); rw [wg_st_s]; exact hn, by show wg_st I 1 (I 3 0) (wg_len n) 1 (I 3 0) = wg_len (wg_st I 0 (I 3 0) n 0 (I 3 0)); rw [wg_st_s, wg_st_s]⟩
  · show wg_st I 2 (I 3 0) 0 2 0 = 0
    rw [h3, wg_st_s]
  · have hk : k < I 3 0 + 1 := hk
    omega
theorem wg_XF_add1 {I : wg_S} {n : Nat} (h : wg_XF I) (hn : wg_ok n) (h3 : 0 < I 3 0) (hlt : I 0 (I 3 0 - 1) < n) : wg_XF (wg_st (wg_st (wg_st (wg_st I 0 (I 3 0) n) 1 (I 3 0) (wg_len n)) 2 (I 3 0) (wg_shd (wg_st I 0 (I 3 0) n 0 (I 3 0 - 1)) n + 1)) 3 0 (I 3 0 + 1)) := by
  obtain ⟨a, b, c⟩ := h
  refine ⟨fun k hk => ?_, fun _ => ?_, fun k h0 hk => ?_⟩
  · have hk : k < I 3 0 + 1 := hk
    show wg_ok (wg_st I 0 (I 3 0) n 0 k) ∧ wg_st I 1 (I 3 0) (wg_len n) 1 k = wg_len (wg_st I 0 (I 3 0) n 0 k)
    by_cases q : k = I 3 0
    · subst q
      rw [wg_st_s, wg_st_s]
      exact ⟨hn, rfl⟩
    · rw [wg_st_n _ _ _ _ q, wg_st_n _ _ _ _ q]
      exact a k (by omega)
  · show wg_st I 2 (I 3 0) (wg_shd (wg_st I 0 (I 3 0) n 0 (I 3 0 - 1)) n + 1) 2 0 = 0
    rw [wg_st_n _ _ _ _ (by omega)]
    exact b h3
  · have hk : k < I 3 0 + 1 := hk
    show wg_st I 2 (I 3 0) (wg_shd (wg_st I 0 (I 3 0) n 0 (I 3 0 - 1)) n + 1) 2 k = wg_shd (wg_st I 0 (I 3 0) n 0 (k - 1)) (wg_st I 0 (I 3 0) n 0 k) + 1 ∧ wg_st I 0 (I 3 0) n 0 (k - 1) < wg_st I 0 (I 3 0) n 0 k
    by_cases q : k = I 3 0
    · subst q
      rw [wg_st_s, wg_st_s]
      exact ⟨rfl, by rw [wg_st_n _ _ _ _ (by omega)]; exact hlt⟩
    · rw [wg_st_n _ _ _ _ q, wg_st_n _ _ _ _ q, wg_st_n I 0 (I 3 0) n (show ¬ k - 1 = I 3 0 by omega)]
      exact c k h0 (by omega)
theorem wg_dno1 {d : Int32} (h : d < 0) : ¬ ∃ dn, dn ≤ 3 ∧ d = nI dn := by
  rintro ⟨dn, h1, rfl⟩
  exact nI_pos (by omega) h
theorem wg_dno2 {d : Int32} (h : ¬ d ≤ nI 3) : ¬ ∃ dn, dn ≤ 3 ∧ d = nI dn := by
  rintro ⟨dn, h1, rfl⟩
  exact h (nI_le h1 (by decide))
theorem wg_RS_ext {f g : Nat → Nat} {n E : Nat} {A B : Nat → Nat} (hfg : ∀ k, k < n → f k = g k) (h : wg_RS f n A B E 0) : wg_RS g n A B E 0 := by
  intro e k h1 h2 h3
  have b := h e k h1 ((hfg k h1).trans h2) h3
  rw [wg_ct_ext n hfg, wg_cq_ext k (fun j hj => hfg j (by omega))] at b
  exact b
/-! The graph: beginnings, their endings, and how they are numbered. -/
def wg_px (a t : Nat) : Nat := a / 2 ^ (60 - 5 * t)
def wg_rs (a t : Nat) : Nat := a * 2 ^ (5 * t) % 2 ^ 60
theorem wg_px_s {a t : Nat} (ht : t < 12) : wg_px a (t + 1) = 32 * wg_px a t + wg_lt a t := by
  unfold wg_px wg_lt
  rw [show 60 - 5 * (t + 1) = 55 - 5 * t by omega, show 60 - 5 * t = (55 - 5 * t) + 5 by omega, Nat.pow_add, ← Nat.div_div_eq_div_mul]
  omega
theorem wg_px_0 {a : Nat} (h : a < 2 ^ 60) : wg_px a 0 = 0 := by
  unfold wg_px
  exact Nat.div_eq_of_lt (by simpa using h)
theorem wg_px_iff {a b : Nat} (ha : a < 2 ^ 60) (hb : b < 2 ^ 60) : ∀ t, t ≤ 12 → (wg_px a t = wg_px b t ↔ ∀ i, i < t → wg_lt a i = wg_lt b i) := by
  intro t
  induction t with
  | zero => intro _; rw [wg_px_0 ha, wg_px_0 hb]; exact ⟨fun _ i h => by omega, fun _ => rfl⟩
  | succ t ih =>
    intro ht
    have ih := ih (by omega)
    rw [wg_px_s (by omega), wg_px_s (by omega)]
    have h1 := wg_lt_le a t
    have h2 := wg_lt_le b t
    constructor
    · intro q i hi
      rcases Nat.lt_succ_iff_lt_or_eq.mp hi with h | rfl
      · exact ih.mp (by omega) i h
      · omega
    · intro q
      have e1 := ih.mpr (fun i hi => q i (by omega))
      have e2 := q t (by omega)
      omega
theorem wg_px_mono {a b : Nat} (t : Nat) (h : a ≤ b) : wg_px a t ≤ wg_px b t := Nat.div_le_div_right h
theorem wg_px_le {a b s t : Nat} (ha : a < 2 ^ 60) (hb : b < 2 ^ 60) (hst : s ≤ t) (ht : t ≤ 12) (h : wg_px a t = wg_px b t) : wg_px a s = wg_px b s := (wg_px_iff ha hb s (by omega)).mpr (fun i hi => (wg_px_iff ha hb t ht).mp h i (by omega))
theorem wg_sh_px {a b t : Nat} (ha : wg_ok a) (hb : wg_ok b) (ht : t ≤ wg_len b) : wg_sh a b t ↔ wg_px a t = wg_px b t := by
  have hl := wg_len_le b
  rw [wg_px_iff ha.1 hb.1 t (by omega)]
  constructor
  · intro h i hi
    exact (h i hi).2
  · intro h i hi
    refine ⟨?_, h i hi⟩
    rw [h i hi]
    exact wg_len_ne (by omega)
theorem wg_sh_len {a b t : Nat} (h : wg_sh a b t) (ht : t ≤ 12) : t ≤ wg_len a := by
  apply Nat.not_lt.mp
  intro q
  exact (h _ q).1 (wg_len_z (by omega))
theorem wg_shd_iff {a b t : Nat} (ht : t ≤ 12) : (∀ i, i < t → wg_lt a i = wg_lt b i) ↔ t ≤ wg_shd a b := by
  constructor
  · intro h
    apply Nat.not_lt.mp
    intro q
    have := wg_run_stop (fun i => wg_lt a i == wg_lt b i) 12 0 (by have h' : wg_shd a b < 12 := (by omega); unfold wg_shd at h'; omega)
    exact this (by have := h _ q; unfold wg_shd at this; simpa using this)
  · intro h i hi
    exact wg_shd_eq (by omega)
-- rests
theorem wg_rs_e {a t : Nat} (ht : t ≤ 12) : wg_rs a t = 2 ^ (5 * t) * (a % 2 ^ (60 - 5 * t)) := by
  unfold wg_rs
  rw [show (2 : Nat) ^ 60 = 2 ^ (5 * t) * 2 ^ (60 - 5 * t) by rw [← Nat.pow_add]; congr 1; omega, Nat.mul_comm a, Nat.mul_mod_mul_left]
theorem wg_rs_lt {a t : Nat} : wg_rs a t < 2 ^ 60 := Nat.mod_lt _ (by decide)
/-- among numbers of one beginning the rests are ordered as the numbers are -/
theorem wg_rs_mono {a b t : Nat} (ht : t ≤ 12) (hp : wg_px a t = wg_px b t) : a < b ↔ wg_rs a t < wg_rs b t := by
  rw [wg_rs_e ht, wg_rs_e ht]
  have e1 := Nat.div_add_mod a (2 ^ (60 - 5 * t))
  have e2 := Nat.div_add_mod b (2 ^ (60 - 5 * t))
  unfold wg_px at hp
  rw [hp] at e1
  have hpos : 0 < 2 ^ (5 * t) := Nat.two_pow_pos _
  constructor
  · intro h
    exact Nat.mul_lt_mul_of_pos_left (by omega) hpos
  · intro h
    have := Nat.lt_of_mul_lt_mul_left h
    omega
theorem wg_lt_rs {a t i : Nat} (ht : t ≤ 12) (hi : i < 12) : wg_lt (wg_rs a t) i = if t + i < 12 then wg_lt a (t + i) else 0 := by
  rw [wg_rs_e ht]
  unfold wg_lt
  by_cases h : t + i < 12
  · rw [if_pos h]
    have e1 : (2 : Nat) ^ (55 - 5 * i) = 2 ^ (5 * t) * 2 ^ (55 - 5 * (t + i)) := by rw [← Nat.pow_add]; congr 1; omega
    have e2 : (2 : Nat) ^ (60 - 5 * t) = 2 ^ (55 - 5 * (t + i)) * 2 ^ (5 * i + 5) := by rw [← Nat.pow_add]; congr 1; omega
    rw [e1, Nat.mul_div_mul_left _ _ (Nat.two_pow_pos _), e2, Nat.mod_mul_right_div_self]
    exact Nat.mod_mod_of_dvd _ ⟨2 ^ (5 * i), by rw [Nat.pow_add, Nat.mul_comm]⟩
  · rw [if_neg h]
    have e1 : (2 : Nat) ^ (5 * t) = 2 ^ (55 - 5 * i) * (32 * 2 ^ (5 * (t + i) - 60)) := by
      rw [show (32 : Nat) = 2 ^ 5 by rfl, ← Nat.pow_add, ← Nat.pow_add]; congr 1; omega
    rw [e1, Nat.mul_assoc, Nat.mul_div_cancel_left _ (Nat.two_pow_pos _), Nat.mul_assoc, Nat.mul_mod_right]
theorem wg_rs_eq {a b s t : Nat} (ha : wg_ok a) (hb : wg_ok b) (hs : s ≤ wg_len a) (ht : t ≤ wg_len b) : wg_rs a s = wg_rs b t ↔ (wg_len a + t = wg_len b + s ∧ ∀ i, i + t < wg_len b → wg_lt a (s + i) = wg_lt b (t + i)) := by
  have la := wg_len_le a
  have lb := wg_len_le b
  have key : ∀ {a b s t : Nat}, wg_ok a → wg_ok b → s ≤ wg_len a → t ≤ wg_len b → wg_rs a s = wg_rs b t → wg_len a + t ≤ wg_len b + s := by
    intro a b s t ha hb hs ht h
    have la := wg_len_le a
    have lb := wg_len_le b
    apply Nat.not_lt.mp
    intro q
    have e : wg_lt (wg_rs a s) (wg_len b - t) = wg_lt (wg_rs b t) (wg_len b - t) := by rw [h]
    rw [wg_lt_rs (by omega) (by omega), wg_lt_rs (by omega) (by omega), if_pos (by omega), show t + (wg_len b - t) = wg_len b by omega] at e
    have z : (if wg_len b < 12 then wg_lt b (wg_len b) else 0) = 0 := by
      split
      · next hlt => exact wg_len_z hlt
      · rfl
    rw [z] at e
    exact wg_len_ne (by omega) e
  constructor
  · intro h
    refine ⟨Nat.le_antisymm (key ha hb hs ht h) (key hb ha ht hs h.symm), fun i hi => ?_⟩
    have k1 := key ha hb hs ht h
    have k2 := key hb ha ht hs h.symm
    have e : wg_lt (wg_rs a s) i = wg_lt (wg_rs b t) i := by rw [h]
    rw [wg_lt_rs (by omega) (by omega), wg_lt_rs (by omega) (by omega), if_pos (by omega), if_pos (by omega)] at e
    exact e
  · rintro ⟨h1, h2⟩
    refine wg_same_word wg_rs_lt wg_rs_lt (fun i hi => ?_)
    rw [wg_lt_rs (by omega) hi, wg_lt_rs (by omega) hi]
    by_cases q : i + t < wg_len b
    · rw [if_pos (by omega), if_pos (by omega)]
      exact h2 i q
    · by_cases q1 : s + i < 12
      · rw [if_pos q1, wg_ok_tail ha _ (by omega) q1]
        by_cases q2 : t + i < 12
        · rw [if_pos q2, wg_ok_tail hb _ (by omega) q2]
        · rw [if_neg q2]
      · rw [if_neg q1]
        by_cases q2 : t + i < 12
        · rw [if_pos q2, wg_ok_tail hb _ (by omega) q2]
        · rw [if_neg q2]
-- sorted words
def wg_SW (w : Nat → Nat) (n : Nat) : Prop := (∀ k, k < n → wg_ok (w k)) ∧ (∀ k, 0 < k → k < n → w (k - 1) < w k)
theorem wg_SW_lt {w : Nat → Nat} {n : Nat} (h : wg_SW w n) {i j : Nat} (hij : i < j) (hj : j < n) : w i < w j := by
  induction j with
  | zero => omega
  | succ j ih =>
    have := h.2 (j + 1) (by omega) hj
    rw [show j + 1 - 1 = j by omega] at this
    rcases Nat.lt_succ_iff_lt_or_eq.mp hij with q | rfl
    · exact Nat.lt_trans (ih q (by omega)) this
    · exact this
theorem wg_SW_le {w : Nat → Nat} {n : Nat} (h : wg_SW w n) {i j : Nat} (hij : i ≤ j) (hj : j < n) : w i ≤ w j := by
  rcases Nat.eq_or_lt_of_le hij with rfl | q
  · exact Nat.le_refl _
  · exact Nat.le_of_lt (wg_SW_lt h q hj)
/-- words between two of one beginning have it too -/
theorem wg_between {w : Nat → Nat} {n : Nat} (h : wg_SW w n) {i j k t : Nat} (hij : i ≤ j) (hjk : j ≤ k) (hk : k < n) (hp : wg_px (w i) t = wg_px (w k) t) : wg_px (w j) t = wg_px (w k) t := by
  have a := wg_px_mono t (wg_SW_le h hij (by omega))
  have b := wg_px_mono t (wg_SW_le h hjk hk)
  omega
def wg_nw (w : Nat → Nat) (k t : Nat) : Prop := k = 0 ∨ ¬ wg_px (w (k - 1)) t = wg_px (w k) t
theorem wg_nw_ge {w : Nat → Nat} {n k t u : Nat} (h : wg_SW w n) (hk : k < n) (hn : wg_nw w k t) (hu : wg_px (w u) t = wg_px (w k) t) : k ≤ u := by
  apply Nat.not_lt.mp
  intro q
  rcases hn with rfl | hn
  · omega
  · exact hn (wg_between h (show u ≤ k - 1 by omega) (by omega) hk hu)
def wg_E (w : Nat → Nat) (n k t e : Nat) : Prop := ∃ u, u < n ∧ wg_px (w u) t = wg_px (w k) t ∧ wg_rs (w u) t = e
def wg_sm (w : Nat → Nat) (n k t j s : Nat) : Prop := ∀ e, wg_E w n k t e ↔ wg_E w n j s e
theorem wg_sm_r (w : Nat → Nat) (n k t : Nat) : wg_sm w n k t k t := fun _ => Iff.rfl
theorem wg_sm_s {w : Nat → Nat} {n k t j s : Nat} (h : wg_sm w n k t j s) : wg_sm w n j s k t := fun e => (h e).symm
theorem wg_sm_t {w : Nat → Nat} {n k t j s i r : Nat} (h : wg_sm w n k t j s) (h2 : wg_sm w n j s i r) : wg_sm w n k t i r := fun e => (h e).trans (h2 e)
theorem wg_sm_px {w : Nat → Nat} {n k j t : Nat} (h : wg_px (w j) t = wg_px (w k) t) : wg_sm w n j t k t := fun e => ⟨fun ⟨u, a, b, c⟩ => ⟨u, a, b.trans h, c⟩, fun ⟨u, a, b, c⟩ => ⟨u, a, b.trans h.symm, c⟩⟩
def wg_vp (w : Nat → Nat) (n k t : Nat) : Prop := k < n ∧ t ≤ wg_len (w k)
/-- a beginning's least rest is that of the word at which it is new -/
theorem wg_least {w : Nat → Nat} {n k t e : Nat} (h : wg_SW w n) (hk : k < n) (ht : t ≤ 12) (hn : wg_nw w k t) (he : wg_E w n k t e) : wg_rs (w k) t ≤ e := by
  obtain ⟨u, a, b, rfl⟩ := he
  have hku := wg_nw_ge h hk hn b
  rcases Nat.eq_or_lt_of_le hku with rfl | q
  · exact Nat.le_refl _
  · exact Nat.le_of_lt ((wg_rs_mono ht b.symm).mp (wg_SW_lt h q a))
theorem wg_own {w : Nat → Nat} {n k t : Nat} (hk : k < n) : wg_E w n k t (wg_rs (w k) t) := ⟨k, hk, rfl, rfl⟩
/-- equal endings: the rests of the words at which they are new are equal -/
theorem wg_sm_rs {w : Nat → Nat} {n k t j s : Nat} (h : wg_SW w n) (hk : k < n) (hj : j < n) (ht : t ≤ 12) (hs : s ≤ 12) (hnk : wg_nw w k t) (hnj : wg_nw w j s) (hsm : wg_sm w n k t j s) : wg_rs (w k) t = wg_rs (w j) s :=
  Nat.le_antisymm (wg_least h hk ht hnk ((hsm _).mpr (wg_own hj))) (wg_least h hj hs hnj ((hsm _).mp (wg_own hk)))
-- the numbering
def wg_G (w : Nat → Nat) (n c : Nat) (W L : Nat → Nat) (p : Nat) : Prop :=
  (∀ x, x < c → wg_vp w n (W x) (L x) ∧ 13 * W x + L x < p) ∧ (∀ x y, x < y → y < c → 13 * W x + L x < 13 * W y + L y) ∧
  (∀ x, x < c → ∀ j s, wg_vp w n j s → 13 * j + s < 13 * W x + L x → ¬ wg_sm w n j s (W x) (L x)) ∧
  (∀ j s, wg_vp w n j s → 13 * j + s < p → ∃ x, x < c ∧ wg_sm w n j s (W x) (L x))
theorem wg_G_0 (w : Nat → Nat) (n : Nat) (W L : Nat → Nat) : wg_G w n 0 W L 0 := ⟨fun x h => (by omega), fun x y _ h => (by omega), fun x h => (by omega), fun j s _ h => (by omega)⟩
theorem wg_vp_code {w : Nat → Nat} {n k t j s : Nat} (h : wg_vp w n k t) (h2 : wg_vp w n j s) (e : 13 * k + t = 13 * j + s) : k = j ∧ t = s := by
  have a := wg_len_le (w k)
  have b := wg_len_le (w j)
  have c := h.2
  have d := h2.2
  omega
theorem wg_G_old {w : Nat → Nat} {n c : Nat} {W L : Nat → Nat} {k t : Nat} (h : wg_G w n c W L (13 * k + t)) (hv : wg_vp w n k t) (hx : ∃ x, x < c ∧ wg_sm w n k t (W x) (L x)) : wg_G w n c W L (13 * k + t + 1) := by
  obtain ⟨a, b, d, e⟩ := h
  refine ⟨fun x q => ⟨(a x q).1, by have := (a x q).2; omega⟩, b, d, fun j s v q => ?_⟩
  rcases Nat.lt_succ_iff_lt_or_eq.mp q with q | q
  · exact e j s v q
  · obtain ⟨rfl, rfl⟩ := wg_vp_code v hv q
    exact hx
theorem wg_G_new {w : Nat → Nat} {n c : Nat} {W L W' L' : Nat → Nat} {k t : Nat} (h : wg_G w n c W L (13 * k + t)) (hv : wg_vp w n k t) (hx : ∀ x, x < c → ¬ wg_sm w n k t (W x) (L x)) (hW : ∀ x, x < c → W' x = W x) (hL : ∀ x, x < c → L' x = L x) (hWc : W' c = k) (hLc : L' c = t) : wg_G w n (c + 1) W' L' (13 * k + t + 1) := by
  obtain ⟨a, b, d, e⟩ := h
  refine ⟨fun x q => ?_, fun x y q1 q2 => ?_, fun x q j s v q1 => ?_, fun j s v q => ?_⟩
  · rcases Nat.lt_succ_iff_lt_or_eq.mp q with q | rfl
    · rw [hW x q, hL x q]; exact ⟨(a x q).1, by have := (a x q).2; omega⟩
    · rw [hWc, hLc]; exact ⟨hv, by omega⟩
  · rcases Nat.lt_succ_iff_lt_or_eq.mp q2 with q2 | rfl
    · rw [hW x (by omega), hL x (by omega), hW y q2, hL y q2]; exact b x y q1 q2
    · rw [hW x q1, hL x q1, hWc, hLc]; exact (a x q1).2
  · rcases Nat.lt_succ_iff_lt_or_eq.mp q with q | rfl
    · rw [hW x q, hL x q] at q1 ⊢; exact d x q j s v q1
    · rw [hWc, hLc] at q1 ⊢
      intro hs
      obtain ⟨y, y1, y2⟩ := e j s v q1
      exact hx y y1 (wg_sm_t (wg_sm_s hs) y2)
  · rcases Nat.lt_succ_iff_lt_or_eq.mp q with q | q
    · obtain ⟨x, x1, x2⟩ := e j s v q
      exact ⟨x, by omega, by rw [hW x x1, hL x x1]; exact x2⟩
    · obtain ⟨rfl, rfl⟩ := wg_vp_code v hv q
      exact ⟨c, by omega, by rw [hWc, hLc]; exact wg_sm_r _ _ _ _⟩
theorem wg_G_skip {w : Nat → Nat} {n c : Nat} {W L : Nat → Nat} {p p' : Nat} (h : wg_G w n c W L p) (hp : p ≤ p') (hn : ∀ j s, wg_vp w n j s → 13 * j + s < p' → 13 * j + s < p) : wg_G w n c W L p' := by
  obtain ⟨a, b, d, e⟩ := h
  exact ⟨fun x q => ⟨(a x q).1, by have := (a x q).2; omega⟩, b, d, fun j s v q => e j s v (hn j s v q)⟩
/-- a node's pair is new at its word -/
theorem wg_G_nw {w : Nat → Nat} {n c : Nat} {W L : Nat → Nat} {p x : Nat} (hw : wg_SW w n) (h : wg_G w n c W L p) (hx : x < c) : wg_nw w (W x) (L x) := by
  obtain ⟨a, b, d, e⟩ := h
  have hv := (a x hx).1
  by_cases h0 : W x = 0
  · exact Or.inl h0
  · refine Or.inr (fun q => ?_)
    have hl := wg_len_le (w (W x))
    have h2 := hv.2
    have h1 := hv.1
    have k1 := hw.1 (W x) h1
    have k0 := hw.1 (W x - 1) (by omega)
    have hsh : wg_sh (w (W x - 1)) (w (W x)) (L x) := (wg_sh_px k0 k1 h2).mpr q
    have hlen := wg_sh_len hsh (by omega)
    exact d x hx (W x - 1) (L x) ⟨by omega, hlen⟩ (by omega) (wg_sm_px q)
/-- two nodes of the same endings are one -/
theorem wg_G_one {w : Nat → Nat} {n c : Nat} {W L : Nat → Nat} {p x y : Nat} (h : wg_G w n c W L p) (hx : x < c) (hy : y < c) (hs : wg_sm w n (W x) (L x) (W y) (L y)) : x = y := by
  obtain ⟨a, b, d, e⟩ := h
  rcases Nat.lt_trichotomy x y with q | q | q
  · exact absurd hs (d y hy _ _ (a x hx).1 (b x y q hy))
  · exact q
  · exact absurd (wg_sm_s hs) (d x hx _ _ (a y hy).1 (b y x q hx))
/-- all numbered: the numbering is determined -/
theorem wg_G_uniq {w : Nat → Nat} {n c c' : Nat} {W L W' L' : Nat → Nat} {p : Nat} (h : wg_G w n c W L p) (h' : wg_G w n c' W' L' p) : ∀ x, x < c → x < c' ∧ W x = W' x ∧ L x = L' x := by
  have key : ∀ {c c' : Nat} {W L W' L' : Nat → Nat}, wg_G w n c W L p → wg_G w n c' W' L' p → ∀ x, x < c → ∃ y, y < c' ∧ W x = W' y ∧ L x = L' y := by
    intro c c' W L W' L' h h' x hx
    obtain ⟨y, hy, hs⟩ := h'.2.2.2 (W x) (L x) (h.1 x hx).1 (h.1 x hx).2
    refine ⟨y, hy, ?_⟩
    have g1 : ¬ 13 * W x + L x < 13 * W' y + L' y := fun q => h'.2.2.1 y hy _ _ (h.1 x hx).1 q hs
    have g2 : ¬ 13 * W' y + L' y < 13 * W x + L x := fun q => h.2.2.1 x hx _ _ (h'.1 y hy).1 q (wg_sm_s hs)
    exact wg_vp_code (h.1 x hx).1 (h'.1 y hy).1 (by omega)
  intro x
  induction x using Nat.strongRecOn with
  | ind x ih =>
    intro hx
    obtain ⟨y, hy, e1, e2⟩ := key h h' x hx
    have hxy : x ≤ y := by
      apply Nat.not_lt.mp
      intro q
      obtain ⟨_, f1, f2⟩ := ih y q (by omega)
      have := h.2.1 y x q hx
      omega
    have hxc : x < c' := by omega
    obtain ⟨z, hz, f1, f2⟩ := key h' h x hxc
    have hxz : x ≤ z := by
      apply Nat.not_lt.mp
      intro q
      obtain ⟨_, g1, g2⟩ := ih z q (by omega)
      have := h'.2.1 z x q hxc
      omega
    have b1 : 13 * W x + L x ≤ 13 * W z + L z := by
      rcases Nat.eq_or_lt_of_le hxz with rfl | q
      · exact Nat.le_refl _
      · exact Nat.le_of_lt (h.2.1 x z q hz)
    have b2 : 13 * W' x + L' x ≤ 13 * W' y + L' y := by
      rcases Nat.eq_or_lt_of_le hxy with rfl | q
      · exact Nat.le_refl _
      · exact Nat.le_of_lt (h'.2.1 x y q hy)
    have e := wg_vp_code (h.1 x hx).1 (h'.1 x hxc).1 (by omega)
    exact ⟨hxc, e.1, e.2⟩
-- runs of words of one beginning
def wg_in (w : Nat → Nat) (n k t x : Nat) : Prop := k + x < n ∧ wg_px (w (k + x)) t = wg_px (w k) t
theorem wg_in_le {w : Nat → Nat} {n k t x y : Nat} (h : wg_SW w n) (hxy : x ≤ y) (hy : wg_in w n k t y) : wg_in w n k t x := by
  refine ⟨by have := hy.1; omega, ?_⟩
  exact (wg_between h (i := k) (j := k + x) (k := k + y) (by omega) (by omega) hy.1 hy.2.symm).trans hy.2
theorem wg_in_lt {w : Nat → Nat} {n k t x y : Nat} (h : wg_SW w n) (ht : t ≤ 12) (hxy : x < y) (hy : wg_in w n k t y) : wg_rs (w (k + x)) t < wg_rs (w (k + y)) t :=
  (wg_rs_mono ht ((wg_in_le h (Nat.le_of_lt hxy) hy).2.trans hy.2.symm)).mp (wg_SW_lt h (by omega) hy.1)
theorem wg_in_of {w : Nat → Nat} {n k t e : Nat} (h : wg_SW w n) (hk : k < n) (hn : wg_nw w k t) (he : wg_E w n k t e) : ∃ y, wg_in w n k t y ∧ wg_rs (w (k + y)) t = e := by
  obtain ⟨u, a, b, c⟩ := he
  have hku := wg_nw_ge h hk hn b
  refine ⟨u - k, ⟨by omega, ?_⟩, ?_⟩
  · rw [show k + (u - k) = u by omega]; exact b
  · rw [show k + (u - k) = u by omega]; exact c
theorem wg_in_E {w : Nat → Nat} {n k t y : Nat} (h : wg_in w n k t y) : wg_E w n k t (wg_rs (w (k + y)) t) := ⟨k + y, h.1, h.2, rfl⟩
def wg_eqr (w : Nat → Nat) (n k t j o x : Nat) : Prop := ∀ y, y < x → wg_in w n k t y ∧ wg_in w n j o y ∧ wg_rs (w (k + y)) t = wg_rs (w (j + y)) o
theorem wg_eqr_s {w : Nat → Nat} {n k t j o x : Nat} (h : wg_eqr w n k t j o x) : wg_eqr w n j o k t x := fun y hy => ⟨(h y hy).2.1, (h y hy).1, (h y hy).2.2.symm⟩
theorem wg_run_sub {w : Nat → Nat} {n k t j o x : Nat} (h : wg_SW w n) (hk : k < n) (nk : wg_nw w k t) (he : wg_eqr w n k t j o x) (h2 : ¬ wg_in w n k t x) : ∀ e, wg_E w n k t e → wg_E w n j o e := by
  intro e hE
  obtain ⟨y, hy, rfl⟩ := wg_in_of h hk nk hE
  have hyx : y < x := by
    apply Nat.not_le.mp
    intro q
    exact h2 (wg_in_le h q hy)
  rw [(he y hyx).2.2]
  exact wg_in_E (he y hyx).2.1
theorem wg_run_same {w : Nat → Nat} {n k t j o x : Nat} (h : wg_SW w n) (hk : k < n) (hj : j < n) (nk : wg_nw w k t) (nj : wg_nw w j o) (he : wg_eqr w n k t j o x) (h2 : ¬ wg_in w n k t x) (h3 : ¬ wg_in w n j o x) : wg_sm w n k t j o :=
  fun e => ⟨wg_run_sub h hk nk he h2 e, wg_run_sub h hj nj (wg_eqr_s he) h3 e⟩
theorem wg_run_at {w : Nat → Nat} {n k t j o x : Nat} (h : wg_SW w n) (hj : j < n) (ht : t ≤ 12) (nj : wg_nw w j o) (he : wg_eqr w n k t j o x) (hx : wg_in w n k t x) (hs : wg_sm w n k t j o) : ∃ z, x ≤ z ∧ wg_in w n j o z ∧ wg_rs (w (j + z)) o = wg_rs (w (k + x)) t := by
  obtain ⟨z, hz, e⟩ := wg_in_of h hj nj ((hs _).mp (wg_in_E hx))
  refine ⟨z, ?_, hz, e⟩
  apply Nat.not_lt.mp
  intro q
  have a := (he z q).2.2
  have b := wg_in_lt h ht q hx
  omega
theorem wg_run_diff {w : Nat → Nat} {n k t j o x : Nat} (h : wg_SW w n) (hk : k < n) (hj : j < n) (ht : t ≤ 12) (ho : o ≤ 12) (nk : wg_nw w k t) (nj : wg_nw w j o) (he : wg_eqr w n k t j o x)
    (hd : (wg_in w n k t x ∧ ¬ wg_in w n j o x) ∨ (¬ wg_in w n k t x ∧ wg_in w n j o x) ∨ (wg_in w n k t x ∧ wg_in w n j o x ∧ ¬ wg_rs (w (k + x)) t = wg_rs (w (j + x)) o)) : ¬ wg_sm w n k t j o := by
  intro hs
  rcases hd with ⟨a, b⟩ | ⟨a, b⟩ | ⟨a, b, c⟩
  · obtain ⟨z, z1, z2, _⟩ := wg_run_at h hj ht nj he a hs
    exact b (wg_in_le h z1 z2)
  · obtain ⟨z, z1, z2, _⟩ := wg_run_at h hk ho nk (wg_eqr_s he) b (wg_sm_s hs)
    exact a (wg_in_le h z1 z2)
  · obtain ⟨z, z1, z2, z3⟩ := wg_run_at h hj ht nj he a hs
    obtain ⟨y, y1, y2, y3⟩ := wg_run_at h hk ho nk (wg_eqr_s he) b (wg_sm_s hs)
    have b1 : wg_rs (w (j + x)) o ≤ wg_rs (w (j + z)) o := by
      rcases Nat.eq_or_lt_of_le z1 with rfl | q
      · exact Nat.le_refl _
      · exact Nat.le_of_lt (wg_in_lt h ho q z2)
    have b2 : wg_rs (w (k + x)) t ≤ wg_rs (w (k + y)) t := by
      rcases Nat.eq_or_lt_of_le y1 with rfl | q
      · exact Nat.le_refl _
      · exact Nat.le_of_lt (wg_in_lt h ht q y2)
    omega
theorem wg_xor0 {a b : Nat} (h : a ^^^ b = 0) : a = b := by
  apply Nat.eq_of_testBit_eq
  intro i
  have e := congrArg (fun z => z.testBit i) h
  simp only [Nat.testBit_xor, Nat.zero_testBit] at e
  cases ha : a.testBit i <;> cases hb : b.testBit i <;> simp [ha, hb] at e <;> rfl
theorem wg_xpx {a b s : Nat} : (a ^^^ b) / 2 ^ s = 0 ↔ a / 2 ^ s = b / 2 ^ s := by
  rw [← Nat.shiftRight_eq_div_pow, ← Nat.shiftRight_eq_div_pow, ← Nat.shiftRight_eq_div_pow, Nat.shiftRight_xor_distrib]
  constructor
  · exact wg_xor0
  · intro h; rw [h, Nat.xor_self]
-- the class's arrays
theorem wg_XF_SW {I : wg_S} (h : wg_XF I) : wg_SW (I 0) (I 3 0) := ⟨fun k hk => (h.1 k hk).1, fun k h0 hk => (h.2.2 k h0 hk).2⟩
theorem wg_fn {I : wg_S} (h : wg_XF I) {j o : Nat} (hj : j < I 3 0) (ho : o ≤ 12) : wg_nw (I 0) j o ↔ I 2 j ≤ o := by
  by_cases hz : j = 0
  · subst hz
    rw [h.2.1 hj]
    exact ⟨fun _ => Nat.zero_le _, fun _ => Or.inl rfl⟩
  · obtain ⟨g1, g2⟩ := h.2.2 j (by omega) hj
    rw [g1]
    have k1 := (h.1 j hj).1
    have k0 := (h.1 (j - 1) (by omega)).1
    have e := (wg_px_iff k0.1 k1.1 o ho).trans (wg_shd_iff ho)
    constructor
    · rintro (q | q)
      · exact absurd q hz
      · have : ¬ o ≤ wg_shd (I 0 (j - 1)) (I 0 j) := fun z => q (e.mpr z)
        omega
    · intro q
      exact Or.inr (fun z => by have := e.mp z; omega)
/-- the beginnings of word k that aren't new have their nodes -/
theorem wg_G_first {I : wg_S} {c : Nat} {W L : Nat → Nat} {k : Nat} (h : wg_XF I) (hk : k < I 3 0) (h13 : I 2 k ≤ 13) (hG : wg_G (I 0) (I 3 0) c W L (13 * k)) : wg_G (I 0) (I 3 0) c W L (13 * k + I 2 k) := by
  obtain ⟨a, b, d, e⟩ := hG
  refine ⟨fun x q => ⟨(a x q).1, by have := (a x q).2; omega⟩, b, d, fun j s v q => ?_⟩
  by_cases q1 : 13 * j + s < 13 * k
  · exact e j s v q1
  · have hl := wg_len_le (I 0 j)
    have hv2 := v.2
    have hjk : j = k := by omega
    subst hjk
    have hs : ¬ wg_nw (I 0) j s := fun z => by have := (wg_fn h hk (by omega)).mp z; omega
    have hj0 : ¬ j = 0 := fun z => hs (Or.inl z)
    have hp : wg_px (I 0 (j - 1)) s = wg_px (I 0 j) s := by
      apply Classical.byContradiction
      intro z
      exact hs (Or.inr z)
    have k1 := (h.1 j hk).1
    have k0 := (h.1 (j - 1) (by omega)).1
    have hsh := (wg_sh_px k0 k1 hv2).mpr hp
    obtain ⟨x, x1, x2⟩ := e (j - 1) s ⟨by omega, wg_sh_len hsh (by omega)⟩ (by omega)
    exact ⟨x, x1, wg_sm_t (wg_sm_s (wg_sm_px hp)) x2⟩
/-- nodes of the new beginnings, as the class keeps them -/
def wg_NX (w : Nat → Nat) (n c : Nat) (W L N : Nat → Nat) (p : Nat) : Prop := ∀ j s, wg_vp w n j s → wg_nw w j s → 13 * j + s < p → N (j * 13 + s) < c ∧ wg_sm w n j s (W (N (j * 13 + s))) (L (N (j * 13 + s)))
/-- .. of all, as the reference does -/
def wg_NM (w : Nat → Nat) (n c : Nat) (W L N : Nat → Nat) (p : Nat) : Prop := ∀ j s, wg_vp w n j s → 13 * j + s < p → N (13 * j + s) < c ∧ wg_sm w n j s (W (N (13 * j + s))) (L (N (13 * j + s)))
/-- no earlier beginning that was looked at has these endings: no node has them -/
theorem wg_none {I : wg_S} {c : Nat} {W L : Nat → Nat} {k t : Nat} (h : wg_XF I) (hk : k < I 3 0) (ht : t ≤ wg_len (I 0 k)) (hn : wg_nw (I 0) k t) (hG : wg_G (I 0) (I 3 0) c W L (13 * k + t))
    (hno : ∀ y, y < k → ∀ o, wg_nw (I 0) y o → o ≤ wg_len (I 0 y) → wg_len (I 0 y) + t = wg_len (I 0 k) + o → ¬ wg_sm (I 0) (I 3 0) k t y o) : ∀ x, x < c → ¬ wg_sm (I 0) (I 3 0) k t (W x) (L x) := by
  intro x hx hs
  have hSW := wg_XF_SW h
  have hv := (hG.1 x hx).1
  have hc := (hG.1 x hx).2
  have hnx := wg_G_nw hSW hG hx
  have l1 := wg_len_le (I 0 k)
  have l2 := wg_len_le (I 0 (W x))
  have h2 := hv.2
  have e := wg_sm_rs hSW hk hv.1 (by omega) (by omega) hn hnx hs
  have e2 := ((wg_rs_eq (h.1 k hk).1 (h.1 _ hv.1).1 ht h2).mp e).1
  by_cases q : W x < k
  · exact hno (W x) q (L x) hnx h2 (by omega) hs
  · have : W x = k := by omega
    rw [this] at e2 hc
    omega
theorem wg_NX_first {I : wg_S} {c : Nat} {W L N : Nat → Nat} {k : Nat} (h : wg_XF I) (hk : k < I 3 0) (hN : wg_NX (I 0) (I 3 0) c W L N (13 * k)) (h13 : I 2 k ≤ 13) : wg_NX (I 0) (I 3 0) c W L N (13 * k + I 2 k) := by
  intro j s v hn q
  have hl := wg_len_le (I 0 j)
  have hv2 := v.2
  refine hN j s v hn ?_
  apply Nat.not_le.mp
  intro q2
  have hjk : j = k := by omega
  subst hjk
  have := (wg_fn h hk (by omega)).mp hn
  omega
theorem wg_NX_skip {w : Nat → Nat} {n c : Nat} {W L N : Nat → Nat} {p p' : Nat} (hN : wg_NX w n c W L N p) (hn : ∀ j s, wg_vp w n j s → 13 * j + s < p' → 13 * j + s < p) : wg_NX w n c W L N p' := fun j s v nw q => hN j s v nw (hn j s v q)
theorem wg_NX_old {w : Nat → Nat} {n c : Nat} {W L N N' : Nat → Nat} {k t z : Nat} (hN : wg_NX w n c W L N (13 * k + t)) (hv : wg_vp w n k t) (hz : z < c) (hs : wg_sm w n k t (W z) (L z)) (h1 : ∀ i, ¬ i = k * 13 + t → N' i = N i) (h2 : N' (k * 13 + t) = z) : wg_NX w n c W L N' (13 * k + t + 1) := by
  intro j s v nw q
  rcases Nat.lt_succ_iff_lt_or_eq.mp q with q | q
  · rw [h1 _ (by omega)]; exact hN j s v nw q
  · obtain ⟨rfl, rfl⟩ := wg_vp_code v hv q
    rw [h2]; exact ⟨hz, hs⟩
theorem wg_NX_new {w : Nat → Nat} {n c : Nat} {W L W' L' N N' : Nat → Nat} {k t : Nat} (hN : wg_NX w n c W L N (13 * k + t)) (hv : wg_vp w n k t) (h1 : ∀ i, ¬ i = k * 13 + t → N' i = N i) (h2 : N' (k * 13 + t) = c) (hW : ∀ x, x < c → W' x = W x) (hL : ∀ x, x < c → L' x = L x) (hWc : W' c = k) (hLc : L' c = t) : wg_NX w n (c + 1) W' L' N' (13 * k + t + 1) := by
  intro j s v nw q
  rcases Nat.lt_succ_iff_lt_or_eq.mp q with q | q
  · rw [h1 _ (by omega)]
    obtain ⟨a, b⟩ := hN j s v nw q
    rw [hW _ a, hL _ a]
    exact ⟨by omega, b⟩
  · obtain ⟨rfl, rfl⟩ := wg_vp_code v hv q
    rw [h2, hWc, hLc]; exact ⟨by omega, wg_sm_r _ _ _ _⟩
theorem wg_NM_old {w : Nat → Nat} {n c : Nat} {W L N N' : Nat → Nat} {k t z : Nat} (hN : wg_NM w n c W L N (13 * k + t)) (hv : wg_vp w n k t) (hz : z < c) (hs : wg_sm w n k t (W z) (L z)) (h1 : ∀ i, ¬ i = 13 * k + t → N' i = N i) (h2 : N' (13 * k + t) = z) : wg_NM w n c W L N' (13 * k + t + 1) := by
  intro j s v q
  rcases Nat.lt_succ_iff_lt_or_eq.mp q with q | q
  · rw [h1 _ (by omega)]; exact hN j s v q
  · obtain ⟨rfl, rfl⟩ := wg_vp_code v hv q
    rw [h2]; exact ⟨hz, hs⟩
theorem wg_NM_new {w : Nat → Nat} {n c : Nat} {W L W' L' N N' : Nat → Nat} {k t : Nat} (hN : wg_NM w n c W L N (13 * k + t)) (hv : wg_vp w n k t) (h1 : ∀ i, ¬ i = 13 * k + t → N' i = N i) (h2 : N' (13 * k + t) = c) (hW : ∀ x, x < c → W' x = W x) (hL : ∀ x, x < c → L' x = L x) (hWc : W' c = k) (hLc : L' c = t) : wg_NM w n (c + 1) W' L' N' (13 * k + t + 1) := by
  intro j s v q
  rcases Nat.lt_succ_iff_lt_or_eq.mp q with q | q
  · rw [h1 _ (by omega)]
    obtain ⟨a, b⟩ := hN j s v q
    rw [hW _ a, hL _ a]
    exact ⟨by omega, b⟩
  · obtain ⟨rfl, rfl⟩ := wg_vp_code v hv q
    rw [h2, hWc, hLc]; exact ⟨by omega, wg_sm_r _ _ _ _⟩
theorem wg_NM_skip {w : Nat → Nat} {n c : Nat} {W L N : Nat → Nat} {p p' : Nat} (hN : wg_NM w n c W L N p) (hn : ∀ j s, wg_vp w n j s → 13 * j + s < p' → 13 * j + s < p) : wg_NM w n c W L N p' := fun j s v q => hN j s v (hn j s v q)
theorem wg_skip13 {w : Nat → Nat} {n k t : Nat} (hk : k < n) (ht : wg_len (w k) < t) : ∀ j s, wg_vp w n j s → 13 * j + s < 13 * (k + 1) → 13 * j + s < 13 * k + t := by
  intro j s v q
  have hl := wg_len_le (w j)
  have hv2 := v.2
  by_cases e : j = k
  · subst e; omega
  · omega
-- the reference's comparisons
def wg_al (w : Nat → Nat) (n t a v m : Nat) : Prop := ∃ u, u < n ∧ wg_sh (w u) (w v) m ∧ wg_ln (w u) + a = wg_ln (w t) + m ∧ ∀ i, i + a < wg_ln (w t) → wg_lt (w u) (m + i) = wg_lt (w t) (a + i)
def wg_wi (w : Nat → Nat) (n b a v m : Nat) : Prop := ∀ t, t < n → wg_sh (w t) (w b) a → wg_al w n t a v m
theorem wg_wi_iff {w : Nat → Nat} {n b a v m : Nat} (h : wg_SW w n) (hb : wg_vp w n b a) (hv : wg_vp w n v m) : wg_wi w n b a v m ↔ ∀ e, wg_E w n b a e → wg_E w n v m e := by
  have lb := wg_len_le (w b)
  have lv := wg_len_le (w v)
  have b2 := hb.2
  have v2 := hv.2
  constructor
  · rintro hw e ⟨t, ht, hp, rfl⟩
    have hs := (wg_sh_px (h.1 t ht) (h.1 b hb.1) hb.2).mpr hp
    obtain ⟨u, u1, u2, u3, u4⟩ := hw t ht hs
    have l1 := wg_sh_len hs (by omega)
    have l2 := wg_sh_len u2 (by omega)
    rw [wg_len_ln (h.1 u u1), wg_len_ln (h.1 t ht)] at u3
    rw [wg_len_ln (h.1 t ht)] at u4
    exact ⟨u, u1, (wg_sh_px (h.1 u u1) (h.1 v hv.1) hv.2).mp u2, (wg_rs_eq (h.1 u u1) (h.1 t ht) l2 l1).mpr ⟨u3, u4⟩⟩
  · intro hE t ht hs
    have l1 := wg_sh_len hs (by omega)
    obtain ⟨u, u1, u2, u3⟩ := hE _ ⟨t, ht, (wg_sh_px (h.1 t ht) (h.1 b hb.1) hb.2).mp hs, rfl⟩
    have hs2 := (wg_sh_px (h.1 u u1) (h.1 v hv.1) hv.2).mpr u2
    have l2 := wg_sh_len hs2 (by omega)
    obtain ⟨g1, g2⟩ := (wg_rs_eq (h.1 u u1) (h.1 t ht) l2 l1).mp u3
    exact ⟨u, u1, hs2, by rw [wg_len_ln (h.1 u u1), wg_len_ln (h.1 t ht)]; exact g1, by rw [wg_len_ln (h.1 t ht)]; exact g2⟩
theorem wg_wi_sm {w : Nat → Nat} {n b a v m : Nat} (h : wg_SW w n) (hb : wg_vp w n b a) (hv : wg_vp w n v m) : (wg_wi w n b a v m ∧ wg_wi w n v m b a) ↔ wg_sm w n b a v m := by
  rw [wg_wi_iff h hb hv, wg_wi_iff h hv hb]
  exact ⟨fun q e => ⟨q.1 e, q.2 e⟩, fun q => ⟨fun e => (q e).mp, fun e => (q e).mpr⟩⟩
-- what step, ends and endings answer
def wg_C (w : Nat → Nat) (n : Nat) (W L : Nat → Nat) (j : Nat) (ch : Int32) (k : Nat) : Prop := k < n ∧ wg_px (w k) (L j) = wg_px (w (W j)) (L j) ∧ nI (wg_la (w k) (L j)) = ch
def wg_rng (ch : Int32) : Prop := ¬ ch < nI 1 ∧ ch ≤ nI 26
def wg_SP (w : Nat → Nat) (n c : Nat) (W L : Nat → Nat) (j : Nat) (ch r : Int32) : Prop := (wg_rng ch ∧ ∃ k z, wg_C w n W L j ch k ∧ z < c ∧ r = nI z ∧ wg_sm w n k (L j + 1) (W z) (L z)) ∨ (¬ (wg_rng ch ∧ ∃ k, wg_C w n W L j ch k) ∧ r = -1)
theorem wg_noC {w : Nat → Nat} {n c : Nat} {W L : Nat → Nat} {p j k y : Nat} {ch : Int32} (hSW : wg_SW w n) (hG : 0 < n → wg_G w n c W L p) (hj : j < c) (hnone : ∀ y, W j ≤ y → y < k → wg_px (w y) (L j) = wg_px (w (W j)) (L j) ∧ ¬ nI (wg_la (w y) (L j)) = ch) (hend : n ≤ k ∨ ¬ wg_px (w k) (L j) = wg_px (w (W j)) (L j)) (hWk : W j ≤ k) (hC : wg_C w n W L j ch y) : False := by
  obtain ⟨y1, y2, y3⟩ := hC
  have G := hG (by omega)
  have hnw := wg_G_nw hSW G hj
  have hv := (G.1 j hj).1
  have hWy := wg_nw_ge hSW hv.1 hnw y2
  by_cases q : y < k
  · exact (hnone y hWy q).2 y3
  · rcases hend with h | h
    · omega
    · exact h ((wg_between hSW hWk (show k ≤ y by omega) y1 y2.symm).trans y2)
theorem wg_la_ne {m t : Nat} {ch : Int32} (h1 : ¬ ch < nI 1) (h2 : nI (wg_la m t) = ch) : t < 12 ∧ ¬ wg_lt m t = 0 := by
  have h12 := wg_step12 h1 h2
  refine ⟨h12, fun q => ?_⟩
  rw [wg_la_lt h12, q] at h2
  subst h2
  exact h1 (by decide +kernel)
theorem wg_len_gt {m t : Nat} (hm : wg_ok m) (ht : t < 12) (h : ¬ wg_lt m t = 0) : t < wg_len m := by
  apply Nat.not_le.mp
  intro q
  exact h (wg_ok_tail hm t q ht)
theorem wg_fnd {w : Nat → Nat} {n c : Nat} {W L : Nat → Nat} {p j k : Nat} {ch : Int32} (hSW : wg_SW w n) (G : wg_G w n c W L p) (hj : j < c) (hk : k < n) (hpx : wg_px (w k) (L j) = wg_px (w (W j)) (L j)) (hla : nI (wg_la (w k) (L j)) = ch) (hrng : ¬ ch < nI 1) (hnone : ∀ y, W j ≤ y → y < k → wg_px (w y) (L j) = wg_px (w (W j)) (L j) ∧ ¬ nI (wg_la (w y) (L j)) = ch) (hWk : W j ≤ k) : wg_vp w n k (L j + 1) ∧ wg_nw w k (L j + 1) := by
  obtain ⟨h12, hne⟩ := wg_la_ne hrng hla
  have hlen := wg_len_gt (hSW.1 k hk) h12 hne
  refine ⟨⟨hk, by omega⟩, ?_⟩
  by_cases hz : k = 0
  · exact Or.inl hz
  · refine Or.inr (fun q => ?_)
    have b0 := (hSW.1 (k - 1) (by omega)).1
    have b1 := (hSW.1 k hk).1
    by_cases e : k = W j
    · rcases wg_G_nw hSW G hj with h0 | h0
      · omega
      · rw [← e] at h0
        exact h0 (wg_px_le b0 b1 (Nat.le_succ _) (by omega) q)
    · have hl := (wg_px_iff b0 b1 (L j + 1) (by omega)).mp q (L j) (by omega)
      refine (hnone (k - 1) (by omega) (by omega)).2 ?_
      rw [wg_la_lt h12, hl, ← wg_la_lt h12]
      exact hla
theorem wg_SP_one {w : Nat → Nat} {n c : Nat} {W L : Nat → Nat} {p j : Nat} {ch r r' : Int32} (hSW : wg_SW w n) (hG : 0 < n → wg_G w n c W L p) (h : wg_SP w n c W L j ch r) (h' : wg_SP w n c W L j ch r') : r = r' := by
  rcases h with ⟨a1, k, z, ⟨a2, a3, a4⟩, a5, rfl, a7⟩ | ⟨a1, rfl⟩ <;> rcases h' with ⟨b1, k', z', ⟨b2, b3, b4⟩, b5, rfl, b7⟩ | ⟨b1, rfl⟩
  · have G := hG (by omega)
    obtain ⟨h12, hne⟩ := wg_la_ne a1.1 a4
    have k1 := hSW.1 k a2
    have k2 := hSW.1 k' b2
    have hp : wg_px (w k) (L j + 1) = wg_px (w k') (L j + 1) := by
      rw [wg_px_s h12, wg_px_s h12, a3, b3]
      have e : nI (wg_la (w k) (L j)) = nI (wg_la (w k') (L j)) := a4.trans b4.symm
      have l1 := wg_la_le (w k) (L j)
      have l2 := wg_la_le (w k') (L j)
      rw [nI_eq (by omega) (by omega), wg_la_lt h12, wg_la_lt h12] at e
      rw [e]
    have hs := wg_sm_t (wg_sm_s a7) (wg_sm_t (wg_sm_px hp) b7)
    rw [wg_G_one G a5 b5 hs]
  · exact absurd ⟨a1, k, a2, a3, a4⟩ b1
  · exact absurd ⟨b1, k', b2, b3, b4⟩ a1
  · rfl
theorem wg_SP_eq {w : Nat → Nat} {n c : Nat} {W L W' L' : Nat → Nat} {j : Nat} {ch r : Int32} (hj : j < c) (he : ∀ x, x < c → W x = W' x ∧ L x = L' x) (h : wg_SP w n c W' L' j ch r) : wg_SP w n c W L j ch r := by
  have e : ∀ k, wg_C w n W L j ch k ↔ wg_C w n W' L' j ch k := fun k => by unfold wg_C; rw [(he j hj).1, (he j hj).2]
  rcases h with ⟨a1, k, z, a2, a5, rfl, a7⟩ | ⟨a1, rfl⟩
  · exact Or.inl ⟨a1, k, z, (e k).mpr a2, a5, rfl, by rw [(he j hj).2, (he z a5).1, (he z a5).2]; exact a7⟩
  · exact Or.inr ⟨fun q => a1 ⟨q.1, by obtain ⟨k, hk⟩ := q.2; exact ⟨k, (e k).mp hk⟩⟩, rfl⟩
def wg_EP (w : Nat → Nat) (n : Nat) (a t : Nat) : Prop := ∃ k, k < n ∧ wg_px (w k) t = wg_px a t ∧ wg_len (w k) = t
theorem wg_rs_full {a : Nat} (h : wg_ok a) : wg_rs a (wg_len a) = 0 := (wg_rest0 (wg_len_le a)).mpr (wg_ok_tail h)
theorem wg_endW {w : Nat → Nat} {n c : Nat} {W L : Nat → Nat} {p j : Nat} (hSW : wg_SW w n) (G : wg_G w n c W L p) (hj : j < c) (hE : wg_EP w n (w (W j)) (L j)) : wg_len (w (W j)) = L j := by
  obtain ⟨k, k1, k2, k3⟩ := hE
  have hv := (G.1 j hj).1
  have hWk := wg_nw_ge hSW hv.1 (wg_G_nw hSW G hj) k2
  rcases Nat.eq_or_lt_of_le hWk with e | q
  · rw [e]; exact k3
  · have hl := wg_len_le (w (W j))
    have h2 := hv.2
    have a := (wg_rs_mono (by omega) k2.symm).mp (wg_SW_lt hSW q k1)
    rw [← k3, wg_rs_full (hSW.1 k k1)] at a
    omega
def wg_cp (w : Nat → Nat) (q t : Nat) : Nat → Nat
  | 0 => 0
  | k + 1 => if wg_px (w k) t = q then wg_cp w q t k + 1 else wg_cp w q t k
theorem wg_cp_t {w : Nat → Nat} {q t k : Nat} (h : wg_px (w k) t = q) : wg_cp w q t (k + 1) = wg_cp w q t k + 1 := by rw [wg_cp, if_pos h]
theorem wg_cp_f {w : Nat → Nat} {q t k : Nat} (h : ¬ wg_px (w k) t = q) : wg_cp w q t (k + 1) = wg_cp w q t k := by rw [wg_cp, if_neg h]
theorem wg_cp_eq {w : Nat → Nat} {n c : Nat} {W L : Nat → Nat} {p j k : Nat} (hSW : wg_SW w n) (G : wg_G w n c W L p) (hj : j < c) (hall : ∀ y, W j ≤ y → y < k → wg_px (w y) (L j) = wg_px (w (W j)) (L j)) (hend : k = n ∨ ¬ wg_px (w k) (L j) = wg_px (w (W j)) (L j)) (hWk : W j ≤ k) : ∀ m, m ≤ n → wg_cp w (wg_px (w (W j)) (L j)) (L j) m = min m k - W j := by
  have hv := (G.1 j hj).1
  have hnw := wg_G_nw hSW G hj
  intro m
  induction m with
  | zero => intro _; rw [wg_cp]; omega
  | succ m ih =>
    intro hm
    have ih := ih (by omega)
    by_cases q1 : m < W j
    · rw [wg_cp_f (fun z => by have := wg_nw_ge hSW hv.1 hnw z; omega), ih]; omega
    · by_cases q2 : m < k
      · rw [wg_cp_t (hall m (by omega) q2), ih]; omega
      · rw [wg_cp_f (fun z => by
          rcases hend with h | h
          · omega
          · exact h ((wg_between hSW hWk (show k ≤ m by omega) (by omega) z.symm).trans z)), ih]
        omega
theorem wg_cp_z {w : Nat → Nat} {q t : Nat} : wg_cp w q t 0 = 0 := rfl
