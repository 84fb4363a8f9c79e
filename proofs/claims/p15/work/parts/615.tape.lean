/-! ===== the tape, as it is read: where a reader's cursor comes to stand, and what it has read ===== -/
def zt_rnF (p : Int → Bool) (n : Int) : Nat → Int → Int
  | 0, a => a
  | k + 1, a => if a < n ∧ p a = true then zt_rnF p n k (a + 1) else a
/-- behind a run of places that are so -/
def zt_rn (p : Int → Bool) (n a : Int) : Int := zt_rnF p n (n - a).toNat a
theorem zt_rn_y {p : Int → Bool} {n a : Int} (h : a < n ∧ p a = true) : zt_rn p n a = zt_rn p n (a + 1) := by
  unfold zt_rn
  have e : (n - a).toNat = (n - (a + 1)).toNat + 1 := by omega
  rw [e]
  show (if a < n ∧ p a = true then zt_rnF p n (n - (a + 1)).toNat (a + 1) else a) = _
  rw [if_pos h]
theorem zt_rn_n {p : Int → Bool} {n a : Int} (h : ¬ (a < n ∧ p a = true)) : zt_rn p n a = a := by
  unfold zt_rn
  cases (n - a).toNat with
  | zero => rfl
  | succ k =>
    show (if a < n ∧ p a = true then zt_rnF p n k (a + 1) else a) = _
    rw [if_neg h]
theorem zt_rn_bF (p : Int → Bool) (n : Int) : ∀ (k : Nat) (a : Int), a ≤ n → a ≤ zt_rnF p n k a ∧ zt_rnF p n k a ≤ n := by
  intro k
  induction k with
  | zero => intro a h; exact ⟨Int.le_refl a, h⟩
  | succ k ih =>
    intro a h
    show a ≤ (if a < n ∧ p a = true then zt_rnF p n k (a + 1) else a) ∧ (if a < n ∧ p a = true then zt_rnF p n k (a + 1) else a) ≤ n
    by_cases c : a < n ∧ p a = true
    · rw [if_pos c]
      have := ih (a + 1) (by omega)
      omega
    · rw [if_neg c]
      exact ⟨Int.le_refl a, h⟩
theorem zt_rn_b {p : Int → Bool} {n a : Int} (h : a ≤ n) : a ≤ zt_rn p n a ∧ zt_rn p n a ≤ n := zt_rn_bF p n _ a h
theorem zt_rn_sF {p : Int → Bool} {n : Int} : ∀ (k : Nat) (a : Int), n - a ≤ (k : Int) → ¬ (zt_rn p n a < n ∧ p (zt_rn p n a) = true) := by
  intro k
  induction k with
  | zero =>
    intro a h1
    have hn : ¬ (a < n ∧ p a = true) := by omega
    rw [zt_rn_n hn]
    exact hn
  | succ k ih =>
    intro a h1
    by_cases c : a < n ∧ p a = true
    · rw [zt_rn_y c]
      exact ih (a + 1) (by omega)
    · rw [zt_rn_n c]
      exact c
theorem zt_rn_s (p : Int → Bool) (n a : Int) : ¬ (zt_rn p n a < n ∧ p (zt_rn p n a) = true) := zt_rn_sF (n - a).toNat a (by omega)
theorem zt_rn_i (p : Int → Bool) (n a : Int) : zt_rn p n (zt_rn p n a) = zt_rn p n a := zt_rn_n (zt_rn_s p n a)
/-- behind blanks -/
def zt_sk (t : Int → Int) (n a : Int) : Int := zt_rn (fun i => decide (t i = 32)) n a
theorem zt_sk_y {t : Int → Int} {n a : Int} (h : a < n ∧ t a = 32) : zt_sk t n a = zt_sk t n (a + 1) := zt_rn_y ⟨h.1, decide_eq_true h.2⟩
theorem zt_sk_n {t : Int → Int} {n a : Int} (h : ¬ (a < n ∧ t a = 32)) : zt_sk t n a = a := zt_rn_n (fun q => h ⟨q.1, of_decide_eq_true q.2⟩)
theorem zt_sk_b {t : Int → Int} {n a : Int} (h : a ≤ n) : a ≤ zt_sk t n a ∧ zt_sk t n a ≤ n := zt_rn_b h
theorem zt_sk_i (t : Int → Int) (n a : Int) : zt_sk t n (zt_sk t n a) = zt_sk t n a := zt_rn_i _ n a
/-- the byte behind blanks; -1: the end -/
def zt_nx (t : Int → Int) (n a : Int) : Int := if zt_sk t n a < n then t (zt_sk t n a) else -1
theorem zt_nx_i (t : Int → Int) (n a : Int) : zt_nx t n (zt_sk t n a) = zt_nx t n a := by unfold zt_nx; rw [zt_sk_i]
theorem zt_nx_in {t : Int → Int} {n a : Int} (h : 0 ≤ zt_nx t n a) : zt_sk t n a < n ∧ zt_nx t n a = t (zt_sk t n a) := by
  unfold zt_nx at h ⊢
  by_cases c : zt_sk t n a < n
  · rw [if_pos c]; exact ⟨c, rfl⟩
  · rw [if_neg c] at h; omega
theorem zt_nx_y {t : Int → Int} {n a : Int} (h : zt_sk t n a < n) : zt_nx t n a = t (zt_sk t n a) := by unfold zt_nx; rw [if_pos h]
theorem zt_nx_n {t : Int → Int} {n a : Int} (h : ¬ zt_sk t n a < n) : zt_nx t n a = -1 := by unfold zt_nx; rw [if_neg h]
/-- takes: whether, and where the cursor is then -/
def zt_tkR (t : Int → Int) (n c a : Int) : Int := if zt_nx t n a = c then 1 else 0
def zt_tkA (t : Int → Int) (n c a : Int) : Int := if zt_nx t n a = c then zt_sk t n a + 1 else zt_sk t n a
theorem zt_tk_y {t : Int → Int} {n c a : Int} (h : zt_tkR t n c a ≠ 0) : zt_nx t n a = c ∧ zt_tkA t n c a = zt_sk t n a + 1 := by
  unfold zt_tkR at h
  unfold zt_tkA
  by_cases e : zt_nx t n a = c
  · rw [if_pos e]; exact ⟨e, rfl⟩
  · rw [if_neg e] at h; omega
theorem zt_tk_n {t : Int → Int} {n c a : Int} (h : zt_tkR t n c a = 0) : zt_nx t n a ≠ c ∧ zt_tkA t n c a = zt_sk t n a := by
  unfold zt_tkR at h
  unfold zt_tkA
  by_cases e : zt_nx t n a = c
  · rw [if_pos e] at h; omega
  · rw [if_neg e]; exact ⟨e, rfl⟩
theorem zt_tkR_y {t : Int → Int} {n c a : Int} (h : zt_nx t n a = c) : zt_tkR t n c a = 1 := by unfold zt_tkR; rw [if_pos h]
theorem zt_tkR_n {t : Int → Int} {n c a : Int} (h : zt_nx t n a ≠ c) : zt_tkR t n c a = 0 := by unfold zt_tkR; rw [if_neg h]
theorem zt_tkA_y {t : Int → Int} {n c a : Int} (h : zt_nx t n a = c) : zt_tkA t n c a = zt_sk t n a + 1 := by unfold zt_tkA; rw [if_pos h]
theorem zt_tkA_n {t : Int → Int} {n c a : Int} (h : zt_nx t n a ≠ c) : zt_tkA t n c a = zt_sk t n a := by unfold zt_tkA; rw [if_neg h]
/-- a NAME: how many letters; as the class holds it; as the reference holds it -/
def zt_nl (t : Int → Int) (n s : Int) : Int := if s < n ∧ 97 ≤ t s ∧ t s ≤ 122 then (if s + 1 < n ∧ 97 ≤ t (s + 1) ∧ t (s + 1) ≤ 122 then (if s + 2 < n ∧ 97 ≤ t (s + 2) ∧ t (s + 2) ≤ 122 then 3 else 2) else 1) else 0
def zt_na (t : Int → Int) (s k : Int) : Int := if k = 0 then 0 else if k = 1 then t s else if k = 2 then t s * 256 + t (s + 1) else (t s * 256 + t (s + 1)) * 256 + t (s + 2)
def zt_nb (t : Int → Int) (s k : Int) : Int := if k = 0 then 0 else if k = 1 then t s - 96 else if k = 2 then 27 * (t s - 96) + (t (s + 1) - 96) else 27 * (27 * (t s - 96) + (t (s + 1) - 96)) + (t (s + 2) - 96)
theorem zt_nl_b (t : Int → Int) (n s : Int) : 0 ≤ zt_nl t n s ∧ zt_nl t n s ≤ 3 := by
  unfold zt_nl
  repeat' split
  all_goals omega
theorem zt_nl_s {t : Int → Int} {n s : Int} (k : Int) (h0 : 0 ≤ k) (h1 : k < zt_nl t n s) : s + k < n ∧ 97 ≤ t (s + k) ∧ t (s + k) ≤ 122 := by
  have hb := zt_nl_b t n s
  unfold zt_nl at h1
  have hk : k = 0 ∨ k = 1 ∨ k = 2 := by omega
  rcases hk with rfl | rfl | rfl
  · rw [Int.add_zero]
    split at h1
    · assumption
    · omega
  · split at h1
    · split at h1
      · assumption
      · omega
    · omega
  · split at h1
    · split at h1
      · split at h1
        · assumption
        · omega
      · omega
    · omega
theorem zt_nl_ge {t : Int → Int} {n s a : Int} (h0 : s ≤ a) (h1 : a < s + 3) (h2 : a < n ∧ 97 ≤ t a ∧ t a ≤ 122) (h3 : a - s ≤ zt_nl t n s) : a + 1 - s ≤ zt_nl t n s := by
  by_cases hc : a - s < zt_nl t n s
  · omega
  exfalso
  have he : zt_nl t n s = a - s := by omega
  have hk : a = s ∨ a = s + 1 ∨ a = s + 2 := by omega
  unfold zt_nl at he
  rcases hk with rfl | rfl | rfl <;> (repeat' split at he) <;> omega
theorem zt_nl_le {t : Int → Int} {n s a : Int} (h0 : s ≤ a) (h1 : ¬ (a < n ∧ a < s + 3 ∧ 97 ≤ t a ∧ t a ≤ 122)) : zt_nl t n s ≤ a - s := by
  have hb := zt_nl_b t n s
  by_cases hc : zt_nl t n s ≤ a - s
  · exact hc
  exfalso
  have h2 := zt_nl_s (t := t) (n := n) (s := s) (a - s) (by omega) (by omega)
  rw [show s + (a - s) = a by omega] at h2
  omega
theorem zt_na_0 (t : Int → Int) (s : Int) : zt_na t s 0 = 0 := by unfold zt_na; rw [if_pos rfl]
theorem zt_nb_0 (t : Int → Int) (s : Int) : zt_nb t s 0 = 0 := by unfold zt_nb; rw [if_pos rfl]
theorem zt_na_s {t : Int → Int} {s a : Int} (h0 : s ≤ a) (h1 : a < s + 3) : zt_na t s (a + 1 - s) = zt_na t s (a - s) * 256 + t a := by
  have hk : a = s ∨ a = s + 1 ∨ a = s + 2 := by omega
  rcases hk with rfl | rfl | rfl
  · rw [show a + 1 - a = 1 by omega, show a - a = 0 by omega]; unfold zt_na; simp
  · rw [show s + 1 + 1 - s = 2 by omega, show s + 1 - s = 1 by omega]; unfold zt_na; simp
  · rw [show s + 2 + 1 - s = 3 by omega, show s + 2 - s = 2 by omega]; unfold zt_na; simp
theorem zt_nb_s {t : Int → Int} {s a : Int} (h0 : s ≤ a) (h1 : a < s + 3) : zt_nb t s (a + 1 - s) = 27 * zt_nb t s (a - s) + (t a - 96) := by
  have hk : a = s ∨ a = s + 1 ∨ a = s + 2 := by omega
  rcases hk with rfl | rfl | rfl
  · rw [show a + 1 - a = 1 by omega, show a - a = 0 by omega]; unfold zt_nb; simp
  · rw [show s + 1 + 1 - s = 2 by omega, show s + 1 - s = 1 by omega]; unfold zt_nb; simp
  · rw [show s + 2 + 1 - s = 3 by omega, show s + 2 - s = 2 by omega]; unfold zt_nb; simp
/-- a run of digits: where it ends, what it tells -/
def zt_de (t : Int → Int) (n a : Int) : Int := zt_rn (fun i => decide (48 ≤ t i ∧ t i ≤ 57)) n a
theorem zt_de_y {t : Int → Int} {n a : Int} (h : a < n ∧ 48 ≤ t a ∧ t a ≤ 57) : zt_de t n a = zt_de t n (a + 1) := zt_rn_y ⟨h.1, decide_eq_true h.2⟩
theorem zt_de_n {t : Int → Int} {n a : Int} (h : ¬ (a < n ∧ 48 ≤ t a ∧ t a ≤ 57)) : zt_de t n a = a := zt_rn_n (fun q => h ⟨q.1, of_decide_eq_true q.2⟩)
def zt_dvF (t : Int → Int) (s : Int) : Nat → Int
  | 0 => 0
  | k + 1 => 10 * zt_dvF t s k + (t (s + k) - 48)
def zt_dv (t : Int → Int) (s e : Int) : Int := zt_dvF t s (e - s).toNat
theorem zt_dv_0 (t : Int → Int) (s : Int) : zt_dv t s s = 0 := by unfold zt_dv; rw [show (s - s).toNat = 0 by omega]; rfl
theorem zt_dv_s {t : Int → Int} {s a : Int} (h : s ≤ a) : zt_dv t s (a + 1) = 10 * zt_dv t s a + (t a - 48) := by
  unfold zt_dv
  rw [show (a + 1 - s).toNat = (a - s).toNat + 1 by omega]
  show 10 * zt_dvF t s (a - s).toNat + (t (s + ((a - s).toNat : Int)) - 48) = _
  rw [show s + ((a - s).toNat : Int) = a by omega]
/-- a number up to most: what it is (-1: none), where the cursor is then -/
def zt_nuR (t : Int → Int) (n m a : Int) : Int := if 48 ≤ zt_nx t n a ∧ zt_nx t n a ≤ 57 ∧ zt_dv t (zt_sk t n a) (zt_de t n (zt_sk t n a)) ≤ m then zt_dv t (zt_sk t n a) (zt_de t n (zt_sk t n a)) else -1
def zt_nuA (t : Int → Int) (n m a : Int) : Int := if 48 ≤ zt_nx t n a ∧ zt_nx t n a ≤ 57 ∧ zt_dv t (zt_sk t n a) (zt_de t n (zt_sk t n a)) ≤ m then zt_de t n (zt_sk t n a) else zt_sk t n a
theorem zt_nu_y {t : Int → Int} {n m a : Int} (h : 48 ≤ zt_nx t n a ∧ zt_nx t n a ≤ 57 ∧ zt_dv t (zt_sk t n a) (zt_de t n (zt_sk t n a)) ≤ m) : zt_nuR t n m a = zt_dv t (zt_sk t n a) (zt_de t n (zt_sk t n a)) ∧ zt_nuA t n m a = zt_de t n (zt_sk t n a) := by
  unfold zt_nuR zt_nuA
  rw [if_pos h, if_pos h]
  exact ⟨rfl, rfl⟩
theorem zt_nu_n {t : Int → Int} {n m a : Int} (h : ¬ (48 ≤ zt_nx t n a ∧ zt_nx t n a ≤ 57 ∧ zt_dv t (zt_sk t n a) (zt_de t n (zt_sk t n a)) ≤ m)) : zt_nuR t n m a = -1 ∧ zt_nuA t n m a = zt_sk t n a := by
  unfold zt_nuR zt_nuA
  rw [if_neg h, if_neg h]
  exact ⟨rfl, rfl⟩
theorem zt_nu_i (t : Int → Int) (n m a : Int) : zt_nuR t n m (zt_sk t n a) = zt_nuR t n m a ∧ zt_nuA t n m (zt_sk t n a) = zt_nuA t n m a := by
  unfold zt_nuR zt_nuA
  rw [zt_nx_i, zt_sk_i]
  exact ⟨rfl, rfl⟩

