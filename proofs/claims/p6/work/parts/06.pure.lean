theorem wb_tb (n : Nat) : (lN n).toBitVec = BitVec.ofNat 64 n := rfl
theorem wb_inj {a b : Int64} (h : a.toBitVec = b.toBitVec) : a = b := Int64.toBitVec_inj.mp h
theorem wb_tn {n : Nat} (h : n < 2 ^ 64) : (lN n).toBitVec.toNat = n := by rw [wb_tb, BitVec.toNat_ofNat, Nat.mod_eq_of_lt h]
theorem wb_of (x : Int64) : ∃ n, n < 2 ^ 64 ∧ x = lN n := ⟨x.toBitVec.toNat, x.toBitVec.isLt, wb_inj (by rw [wb_tb]; simp)⟩
theorem wb_of32 (x : Int32) : ∃ n, n < 2 ^ 32 ∧ x = nI n := ⟨x.toBitVec.toNat, x.toBitVec.isLt, Int32.toBitVec_inj.mp (by show _ = BitVec.ofNat 32 _; simp)⟩
theorem wb_c : ∀ k, k < 64 → ((nI k).toInt64 &&& 63) = lN k := by decide +kernel
theorem wb_cu : ∀ k, k < 64 → ((nI k).toInt64.toUInt64 &&& Int64.toUInt64 63) = UInt64.ofNat k := by decide +kernel
theorem wb_sm : ∀ k, k < 64 → (BitVec.ofNat 64 k).smod 64 = BitVec.ofNat 64 k := by decide +kernel
theorem wb_pw {a b : Nat} (h : a ≤ b) : 2 ^ b = 2 ^ a * 2 ^ (b - a) := by rw [← Nat.pow_add]; congr 1; omega
theorem wb_lt2 {a b : Nat} (h : a < b) : 2 ^ a < 2 ^ b := Nat.pow_lt_pow_right (by decide) h
theorem wb_mod (n : Nat) : lN n = lN (n % 2 ^ 64) := wb_inj (by rw [wb_tb, wb_tb]; apply BitVec.eq_of_toNat_eq; rw [BitVec.toNat_ofNat, BitVec.toNat_ofNat, Nat.mod_mod])
theorem wb_shr {n k : Nat} (hn : n < 2 ^ 64) (hk : k < 64) : ((lN n).toUInt64 >>> ((nI k).toInt64.toUInt64 &&& Int64.toUInt64 63)).toInt64 = lN (n / 2 ^ k) := by
  rw [wb_cu k hk]
  apply wb_inj
  apply BitVec.eq_of_toNat_eq
  show ((lN n).toUInt64 >>> UInt64.ofNat k).toNat = (BitVec.ofNat 64 _).toNat
  have h1 : (UInt64.ofNat k).toNat = k := by
    show (BitVec.ofNat 64 k).toNat = k
    rw [BitVec.toNat_ofNat, Nat.mod_eq_of_lt (by omega)]
  have h2 : (lN n).toUInt64.toNat = n := wb_tn hn
  rw [UInt64.toNat_shiftRight, h1, h2, Nat.mod_eq_of_lt hk, Nat.shiftRight_eq_div_pow, BitVec.toNat_ofNat, Nat.mod_eq_of_lt (Nat.lt_of_le_of_lt (Nat.div_le_self _ _) hn)]
theorem wb_shl (n : Nat) {k : Nat} (hk : k < 64) : lN n <<< ((nI k).toInt64 &&& 63) = lN (n * 2 ^ k) := by
  rw [wb_c k hk]
  apply wb_inj
  rw [Int64.toBitVec_shiftLeft, wb_tb, wb_tb, wb_tb, wb_sm k hk]
  apply BitVec.eq_of_toNat_eq
  rw [BitVec.shiftLeft_eq', BitVec.toNat_shiftLeft, BitVec.toNat_ofNat, BitVec.toNat_ofNat, BitVec.toNat_ofNat, Nat.mod_eq_of_lt (show k < 2 ^ 64 by omega), Nat.shiftLeft_eq, Nat.mul_mod, Nat.mod_mod, ← Nat.mul_mod]
theorem wb_and {a b : Nat} (ha : a < 2 ^ 64) (hb : b < 2 ^ 64) : lN a &&& lN b = lN (a &&& b) := by
  apply wb_inj
  rw [Int64.toBitVec_and, wb_tb, wb_tb, wb_tb]
  apply BitVec.eq_of_toNat_eq
  rw [BitVec.toNat_and, BitVec.toNat_ofNat, BitVec.toNat_ofNat, BitVec.toNat_ofNat, Nat.mod_eq_of_lt ha, Nat.mod_eq_of_lt hb, Nat.mod_eq_of_lt (Nat.and_lt_two_pow _ hb)]
theorem wb_or {a b : Nat} (ha : a < 2 ^ 64) (hb : b < 2 ^ 64) : lN a ||| lN b = lN (a ||| b) := by
  apply wb_inj
  rw [Int64.toBitVec_or, wb_tb, wb_tb, wb_tb]
  apply BitVec.eq_of_toNat_eq
  rw [BitVec.toNat_or, BitVec.toNat_ofNat, BitVec.toNat_ofNat, BitVec.toNat_ofNat, Nat.mod_eq_of_lt ha, Nat.mod_eq_of_lt hb, Nat.mod_eq_of_lt (Nat.or_lt_two_pow ha hb)]
theorem wb_mask {n k : Nat} (hn : n < 2 ^ 64) (hk : k < 64) : lN n &&& lN (2 ^ k - 1) = lN (n % 2 ^ k) := by
  rw [wb_and hn (by have := wb_lt2 hk; omega), Nat.and_two_pow_sub_one_eq_mod]
/-! Numbers, letters, words, distances: nothing of the machine. -/
theorem wg_z0 {a : Nat} (h : a < 2 ^ 31) : nI a = 0 ↔ a = 0 := by rw [← nI_0, nI_eq h (by decide)]
theorem wg_le0 {a : Nat} (h : a < 2 ^ 31) : nI a ≤ 0 ↔ a = 0 := by rw [← nI_0, nI_leI h (by decide)]; omega
theorem wg_gt0 {a : Nat} (h : a < 2 ^ 31) : 0 < nI a ↔ 0 < a := by rw [← nI_0, nI_ltI (by decide) h]
theorem wg_DleN {a b i : Nat} (ha : a < 2 ^ 30) (hb : b < 2 ^ 30) (hi : i < 2 ^ 30) : nI a - nI b ≤ nI i ↔ a ≤ i + b := by
  rw [Int32.le_iff_toInt_le, pk_sub_toInt ha hb, nI_toInt (by omega)]; omega
theorem wg_DltN {a b i : Nat} (ha : a < 2 ^ 30) (hb : b < 2 ^ 30) (hi : i < 2 ^ 30) : nI a - nI b < nI i ↔ a < i + b := by
  rw [Int32.lt_iff_toInt_lt, pk_sub_toInt ha hb, nI_toInt (by omega)]; omega
theorem wg_Deq {a m b n : Nat} (ha : a < 2 ^ 30) (hm : m < 2 ^ 30) (hb : b < 2 ^ 30) (hn : n < 2 ^ 30) : nI a - nI m = nI b - nI n ↔ a + n = b + m := by
  rw [← Int32.toInt_inj, pk_sub_toInt ha hm, pk_sub_toInt hb hn]; omega
theorem wg_min {a b : Nat} (ha : a < 2 ^ 31) (hb : b < 2 ^ 31) : (if nI b < nI a then nI b else nI a) = nI (min a b) := by
  by_cases h : b < a
  · rw [if_pos ((nI_ltI hb ha).mpr h), Nat.min_eq_right (Nat.le_of_lt h)]
  · rw [if_neg (fun q => h ((nI_ltI hb ha).mp q)), Nat.min_eq_left (Nat.not_lt.mp h)]
theorem wg_and31 (x : Nat) : nI x &&& nI 31 = nI (x % 32) := by
  rw [pk_and _ 5 (by decide)]
  show nI ((BitVec.ofNat 32 x).toNat % 2 ^ 5) = _
  rw [BitVec.toNat_ofNat]
  congr 1
  omega
theorem wg_land60 (x : Nat) : lN x &&& lN 1152921504606846975 = lN (x % 2 ^ 60) := by
  rw [wb_mod x, show (1152921504606846975 : Nat) = 2 ^ 60 - 1 from rfl, wb_mask (k := 60) (Nat.mod_lt _ (by decide)) (by decide)]
  congr 1
  omega
theorem wg_lxor {a b : Nat} (ha : a < 2 ^ 64) (hb : b < 2 ^ 64) : lN a ^^^ lN b = lN (a ^^^ b) := by
  apply wb_inj
  rw [Int64.toBitVec_xor, wb_tb, wb_tb, wb_tb]
  apply BitVec.eq_of_toNat_eq
  rw [BitVec.toNat_xor, BitVec.toNat_ofNat, BitVec.toNat_ofNat, BitVec.toNat_ofNat, Nat.mod_eq_of_lt ha, Nat.mod_eq_of_lt hb, Nat.mod_eq_of_lt (Nat.xor_lt_two_pow ha hb)]
theorem wg_lshr {n k : Nat} (hn : n < 2 ^ 63) (hk : k < 64) : lN n >>> ((nI k).toInt64 &&& 63) = lN (n / 2 ^ k) := by
  rw [wb_c k hk]
  have hd : n / 2 ^ k ≤ n := Nat.div_le_self _ _
  apply Int64.toInt_inj.mp
  have h1 : ((lN k).toBitVec.smod 64).toNat = k := by
    rw [wb_tb, wb_sm k hk, BitVec.toNat_ofNat, Nat.mod_eq_of_lt (by omega)]
  have e : ∀ (D : Int64) (d : Nat), (D.toBitVec.smod 64).toNat = d → (lN n >>> D).toInt = (lN n).toInt >>> d := by
    intro D d hD
    rw [← hD]
    exact BitVec.toInt_sshiftRight ..
  rw [e (lN k) k h1, Int.shiftRight_eq_div_pow, pk_lT hn, pk_lT (by omega)]
  rfl
theorem wg_lneg {n : Nat} (hn : n < 2 ^ 64) : lN n < lN 0 ↔ 2 ^ 63 ≤ n := by
  constructor
  · intro h
    apply Nat.not_lt.mp
    intro q
    rw [pk_lLT q (by decide)] at h
    omega
  · intro h
    rw [Int64.lt_iff_toInt_lt]
    show (BitVec.ofNat 64 n).toInt < (lN 0).toInt
    rw [pk_lT (by decide), BitVec.toInt_eq_toNat_cond, BitVec.toNat_ofNat, Nat.mod_eq_of_lt hn, if_neg (by omega)]
    omega
theorem wg_xor64 {a b : Nat} (ha : a < 2 ^ 60) (hb : b < 2 ^ 60) : a ^^^ b < 2 ^ 60 := Nat.xor_lt_two_pow ha hb
-- letters
def wg_lt (n i : Nat) : Nat := n / 2 ^ (55 - 5 * i) % 32
def wg_la (n i : Nat) : Nat := if i < 12 then wg_lt n i else 0
theorem wg_lt_le (n i : Nat) : wg_lt n i ≤ 31 := by unfold wg_lt; omega
theorem wg_la_le (n i : Nat) : wg_la n i ≤ 31 := by
  unfold wg_la
  split
  · exact wg_lt_le n i
  · omega
theorem wg_la_lt {n i : Nat} (h : i < 12) : wg_la n i = wg_lt n i := by unfold wg_la; rw [if_pos h]
theorem wg_la_12 {n i : Nat} (h : ¬ i < 12) : wg_la n i = 0 := by unfold wg_la; rw [if_neg h]
theorem wg_step12 {n t : Nat} {c : Int32} (h1 : ¬ c < nI 1) (h2 : nI (wg_la n t) = c) : t < 12 := by
  apply Nat.not_le.mp
  intro h
  rw [wg_la_12 (Nat.not_lt.mpr h)] at h2
  subst h2
  exact h1 (by decide +kernel)
/-- how far a property holds from i on, at most f steps -/
def wg_run (q : Nat → Bool) : Nat → Nat → Nat
  | 0, i => i
  | f + 1, i => if q i = true then wg_run q f (i + 1) else i
theorem wg_run_t {q : Nat → Bool} {N i : Nat} (h : i < N) (hq : q i = true) : wg_run q (N - i) i = wg_run q (N - (i + 1)) (i + 1) := by
  rw [show N - i = (N - (i + 1)) + 1 by omega, wg_run, if_pos hq]
theorem wg_run_f {q : Nat → Bool} {N i : Nat} (hq : ¬ q i = true) : wg_run q (N - i) i = i := by
  cases h : N - i with
  | zero => rfl
  | succ k => rw [wg_run, if_neg hq]
theorem wg_run_e {q : Nat → Bool} {N i : Nat} (h : N ≤ i) : wg_run q (N - i) i = i := by
  rw [show N - i = 0 by omega, wg_run]
theorem wg_run_le (q : Nat → Bool) : ∀ f i, wg_run q f i ≤ i + f := by
  intro f
  induction f with
  | zero => intro i; rw [wg_run]; omega
  | succ f ih =>
    intro i
    rw [wg_run]
    split
    · have := ih (i + 1); omega
    · omega
theorem wg_run_all (q : Nat → Bool) : ∀ f i j, i ≤ j → j < wg_run q f i → q j = true := by
  intro f
  induction f with
  | zero => intro i j h1 h2; rw [wg_run] at h2; omega
  | succ f ih =>
    intro i j h1 h2
    rw [wg_run] at h2
    split at h2
    · next hq =>
      rcases Nat.eq_or_lt_of_le h1 with rfl | h
      · exact hq
      · exact ih (i + 1) j h h2
    · omega
theorem wg_run_stop (q : Nat → Bool) : ∀ f i, wg_run q f i < i + f → ¬ q (wg_run q f i) = true := by
  intro f
  induction f with
  | zero => intro i h; rw [wg_run] at h; omega
  | succ f ih =>
    intro i h
    rw [wg_run] at h ⊢
    split
    · next hq => rw [if_pos hq] at h; exact ih (i + 1) (by omega)
    · next hq => exact hq
def wg_len (n : Nat) : Nat := wg_run (fun i => !(wg_lt n i == 0)) 12 0
theorem wg_len_le (n : Nat) : wg_len n ≤ 12 := by have := wg_run_le (fun i => !(wg_lt n i == 0)) 12 0; unfold wg_len; omega
def wg_shd (a b : Nat) : Nat := wg_run (fun i => wg_lt a i == wg_lt b i) 12 0
theorem wg_shd_le (a b : Nat) : wg_shd a b ≤ 12 := by have := wg_run_le (fun i => wg_lt a i == wg_lt b i) 12 0; unfold wg_shd; omega
/-- a word: at most 60 bits, letters up to 26, none behind a gap -/
def wg_ok (n : Nat) : Prop := n < 2 ^ 60 ∧ ∀ i, i < 12 → wg_lt n i ≤ 26 ∧ (0 < i → ¬ wg_lt n i = 0 → ¬ wg_lt n (i - 1) = 0)
theorem wg_low (n : Nat) : ∀ k, k ≤ 12 → (n % 2 ^ (5 * k) = 0 ↔ ∀ i, 12 - k ≤ i → i < 12 → wg_lt n i = 0) := by
  intro k
  induction k with
  | zero => intro _; constructor
            · intro _ i h1 h2; omega
            · intro _; simp [Nat.mod_one]
  | succ k ih =>
    intro hk
    have ih := ih (by omega)
    have e : n % 2 ^ (5 * (k + 1)) = n % 2 ^ (5 * k) + 2 ^ (5 * k) * (n / 2 ^ (5 * k) % 32) := by
      rw [show 5 * (k + 1) = 5 * k + 5 by omega, Nat.pow_add, Nat.mod_mul]
    have el : wg_lt n (12 - (k + 1)) = n / 2 ^ (5 * k) % 32 := by
      unfold wg_lt
      rw [show 55 - 5 * (12 - (k + 1)) = 5 * k by omega]
    have hp : 0 < 2 ^ (5 * k) := Nat.two_pow_pos _
    constructor
    · intro h i h1 h2
      rw [e] at h
      have ha : n % 2 ^ (5 * k) = 0 := by omega
      have hb : 2 ^ (5 * k) * (n / 2 ^ (5 * k) % 32) = 0 := by omega
      rcases Nat.eq_or_lt_of_le h1 with rfl | hlt
      · rw [el]
        rcases Nat.mul_eq_zero.mp hb with hz | hz
        · omega
        · exact hz
      · exact (ih.mp ha) i (by omega) h2
    · intro h
      rw [e, ih.mpr (fun i h1 h2 => h i (by omega) h2), ← el, h (12 - (k + 1)) (Nat.le_refl _) (by omega)]
      omega
theorem wg_rest0 {n L : Nat} (hL : L ≤ 12) : n * 2 ^ (5 * L) % 2 ^ 60 = 0 ↔ ∀ i, L ≤ i → i < 12 → wg_lt n i = 0 := by
  have e : n * 2 ^ (5 * L) % 2 ^ 60 = 2 ^ (5 * L) * (n % 2 ^ (5 * (12 - L))) := by
    rw [show (2 : Nat) ^ 60 = 2 ^ (5 * L) * 2 ^ (5 * (12 - L)) by rw [← Nat.pow_add]; congr 1; omega, Nat.mul_comm n, Nat.mul_mod_mul_left]
  have hp : 0 < 2 ^ (5 * L) := Nat.two_pow_pos _
  have h := wg_low n (12 - L) (by omega)
  rw [show 12 - (12 - L) = L by omega] at h
  rw [← h, e]
  constructor
  · intro q
    rcases Nat.mul_eq_zero.mp q with hz | hz
    · omega
    · exact hz
  · intro q
    rw [q, Nat.mul_zero]
theorem wg_len_ne {n i : Nat} (h : i < wg_len n) : ¬ wg_lt n i = 0 := by
  have := wg_run_all (fun i => !(wg_lt n i == 0)) 12 0 i (Nat.zero_le _) h
  simpa using this
theorem wg_len_z {n : Nat} (h : wg_len n < 12) : wg_lt n (wg_len n) = 0 := by
  have := wg_run_stop (fun i => !(wg_lt n i == 0)) 12 0 (by have h' : wg_len n < 12 := h; unfold wg_len at h'; omega)
  simpa [wg_len] using this
theorem wg_ok_tail {n : Nat} (h : wg_ok n) : ∀ i, wg_len n ≤ i → i < 12 → wg_lt n i = 0 := by
  intro i
  induction i with
  | zero => intro h1 h2
            have e : wg_len n = 0 := by omega
            have := wg_len_z (n := n) (by omega)
            rw [e] at this
            exact this
  | succ i ih =>
    intro h1 h2
    rcases Nat.eq_or_lt_of_le h1 with e | hlt
    · have := wg_len_z (n := n) (by omega)
      rw [e] at this
      exact this
    · have hz := ih (by omega) (by omega)
      apply Classical.byContradiction
      intro q
      have := (h.2 (i + 1) h2).2 (by omega) q
      exact this hz
theorem wg_ok_of {n : Nat} (hn : n < 2 ^ 60) (h1 : ∀ i, i < wg_len n → wg_lt n i ≤ 26) (h2 : n * 2 ^ (5 * wg_len n) % 2 ^ 60 = 0) : wg_ok n := by
  have hz := (wg_rest0 (wg_len_le n)).mp h2
  refine ⟨hn, fun i hi => ⟨?_, fun h0 hne => ?_⟩⟩
  · by_cases h : i < wg_len n
    · exact h1 i h
    · rw [hz i (by omega) hi]; omega
  · have hlt : i < wg_len n := by
      apply Nat.not_le.mp
      intro h
      exact hne (hz i h hi)
    exact wg_len_ne (by omega)
theorem wg_ok_no {n : Nat} (h2 : ¬ n * 2 ^ (5 * wg_len n) % 2 ^ 60 = 0) : ¬ wg_ok n := fun h => h2 ((wg_rest0 (wg_len_le n)).mpr (wg_ok_tail h))
theorem wg_ok_big {n i : Nat} (hi : i < 12) (h : ¬ wg_lt n i ≤ 26) : ¬ wg_ok n := fun q => h (q.2 i hi).1
-- the reference's length: how many letters aren't 0
def wg_cn (n : Nat) : Nat → Nat
  | 0 => 0
  | i + 1 => if wg_lt n i = 0 then wg_cn n i else wg_cn n i + 1
theorem wg_cn_s (n i : Nat) : (wg_lt n i = 0 → wg_cn n (i + 1) = wg_cn n i) ∧ (¬ wg_lt n i = 0 → wg_cn n (i + 1) = wg_cn n i + 1) := ⟨fun h => by rw [wg_cn, if_pos h], fun h => by rw [wg_cn, if_neg h]⟩
theorem wg_cn_le (n : Nat) : ∀ i, wg_cn n i ≤ i := by
  intro i
  induction i with
  | zero => exact Nat.le_refl _
  | succ i ih => have := wg_cn_s n i; by_cases h : wg_lt n i = 0 <;> simp only [h, true_implies, not_true, not_false_iff, false_implies, and_true, true_and] at this <;> omega
def wg_ln (n : Nat) : Nat := wg_cn n 12
theorem wg_ln_le (n : Nat) : wg_ln n ≤ 12 := wg_cn_le n 12
-- the distance's table
def wg_bt (u v : Nat) : Nat → Nat → Nat
  | 0, j => j
  | i + 1, 0 => i + 1
  | i + 1, j + 1 => min (wg_bt u v i j + (if wg_lt u i = wg_lt v j then 0 else 1)) (min (wg_bt u v i (j + 1) + 1) (wg_bt u v (i + 1) j + 1))
theorem wg_bt_0 (u v j : Nat) : wg_bt u v 0 j = j := by rw [wg_bt]
theorem wg_bt_i (u v i : Nat) : wg_bt u v i 0 = i := by cases i <;> rw [wg_bt]
theorem wg_bt_s (u v i j : Nat) : wg_bt u v (i + 1) (j + 1) = min (wg_bt u v i j + (if wg_lt u i = wg_lt v j then 0 else 1)) (min (wg_bt u v i (j + 1) + 1) (wg_bt u v (i + 1) j + 1)) := by rw [wg_bt]
theorem wg_bt_le (u v : Nat) : ∀ i j, wg_bt u v i j ≤ i + j := by
  intro i
  induction i with
  | zero => intro j; rw [wg_bt_0]; omega
  | succ i ih =>
    intro j
    induction j with
    | zero => rw [wg_bt_i]; omega
    | succ j ihj => rw [wg_bt_s]; have := ih (j + 1); omega
-- counting
def wg_cq (f : Nat → Nat) (e : Nat) : Nat → Nat
  | 0 => 0
  | k + 1 => wg_cq f e k + (if f k = e then 1 else 0)
def wg_ct (f : Nat → Nat) (e : Nat) : Nat → Nat
  | 0 => 0
  | k + 1 => wg_ct f e k + (if f k < e then 1 else 0)
theorem wg_ct_0 (f : Nat → Nat) : ∀ k, wg_ct f 0 k = 0 := by
  intro k
  induction k with
  | zero => rfl
  | succ k ih => rw [wg_ct, ih, if_neg (by omega)]
theorem wg_ct_s (f : Nat → Nat) (e : Nat) : ∀ k, wg_ct f (e + 1) k = wg_ct f e k + wg_cq f e k := by
  intro k
  induction k with
  | zero => rfl
  | succ k ih =>
    rw [wg_ct, wg_ct, wg_cq, ih]
    by_cases h1 : f k < e
    · rw [if_pos (show f k < e + 1 by omega), if_pos h1, if_neg (show ¬ f k = e by omega)]; omega
    · by_cases h2 : f k = e
      · rw [if_pos (show f k < e + 1 by omega), if_neg h1, if_pos h2]; omega
      · rw [if_neg (show ¬ f k < e + 1 by omega), if_neg h1, if_neg h2]; omega
theorem wg_cc_le (f : Nat → Nat) (e : Nat) : ∀ k, wg_ct f e k + wg_cq f e k ≤ k := by
  intro k
  induction k with
  | zero => exact Nat.le_refl _
  | succ k ih =>
    rw [wg_ct, wg_cq]
    by_cases h1 : f k < e
    · rw [if_pos h1, if_neg (show ¬ f k = e by omega)]; omega
    · rw [if_neg h1]
      split <;> omega
theorem wg_cq_mono (f : Nat → Nat) (e : Nat) {a b : Nat} (h : a ≤ b) : wg_cq f e a ≤ wg_cq f e b := by
  induction b with
  | zero => rw [show a = 0 by omega]; exact Nat.le_refl _
  | succ b ih =>
    rcases Nat.eq_or_lt_of_le h with rfl | q
    · exact Nat.le_refl _
    · rw [wg_cq]
      have := ih (by omega)
      omega
theorem wg_cc_lt {f : Nat → Nat} {e k n : Nat} (hk : k < n) (h : f k = e) : wg_ct f e n + wg_cq f e k < n := by
  have h1 := wg_cc_le f e n
  have h2 := wg_cq_mono f e (show k + 1 ≤ n by omega)
  rw [wg_cq, if_pos h] at h2
  omega
theorem wg_cq_t {f : Nat → Nat} {e k : Nat} (h : f k = e) : wg_cq f e (k + 1) = wg_cq f e k + 1 := by rw [wg_cq, if_pos h]
theorem wg_cq_f {f : Nat → Nat} {e k : Nat} (h : ¬ f k = e) : wg_cq f e (k + 1) = wg_cq f e k := by rw [wg_cq, if_neg h]; rfl
