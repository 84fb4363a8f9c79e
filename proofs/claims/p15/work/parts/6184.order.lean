/-! ===== a whole ORDER, as it is read ===== -/
section ZTOrder
variable (t : Int → Int) (n b k w : Int)
def zt_z0 : Int := zt_sk t n 0
def zt_n0 : Int := zt_nl t n (zt_z0 t n)
def zt_p0 : Int := zt_z0 t n + zt_n0 t n
def zt_oL : Int := zt_tkA t n 58 (zt_p0 t n)
def zt_oV (i : Int) : Int := zt_lv t n (zt_oL t n) i
def zt_oR : Int := zt_lr t n (zt_oL t n) b 0
def zt_oM : Int → Int := fun f => zt_mk (fun i => decide (zt_oV t n i = 2 + f)) b
def zt_oE : Int := zt_sk t n (zt_lp t n (zt_oL t n) (zt_oR t n b))
def zt_oG : Int := zt_tkA t n 58 (zt_oE t n b)
def zt_oH : Int → Bool := zt_H (zt_oM t n b)
def zt_oS : Int := zt_gA (zt_oH t n b) t n (zt_oG t n b)
def zt_oA : Int := zt_sA (zt_oH t n b) t n (zt_oS t n b)
def zt_oT : Int := zt_tkA t n 58 (zt_oA t n b)
def zt_oN : Int := zt_sN (zt_oH t n b) t n (zt_oS t n b)
def zt_oB : Int → Int := fun i => zt_as (zt_oH t n b) t n (zt_oS t n b) i
/-- it can stand -/
def zt_oK : Prop := zt_n0 t n ≠ 0 ∧ zt_tkR t n 58 (zt_p0 t n) ≠ 0 ∧ (zt_oR t n b = b ∧ zt_fok (zt_oM t n b) k w) ∧ zt_tkR t n 58 (zt_oE t n b) ≠ 0 ∧ zt_gR (zt_oH t n b) t n (zt_oG t n b) ≠ 0 ∧ zt_sR (zt_oH t n b) t n (zt_oS t n b) ≠ 0 ∧ zt_tkR t n 58 (zt_oA t n b) ≠ 0 ∧ (49 ≤ zt_nx t n (zt_oT t n b) ∧ zt_nx t n (zt_oT t n b) ≤ 57) ∧ zt_nx t n (zt_sk t n (zt_oT t n b) + 1) = -1
/-- else: the place of the byte that can't -/
noncomputable def zt_oF : Int := if zt_n0 t n = 0 then zt_z0 t n else if zt_tkR t n 58 (zt_p0 t n) = 0 then zt_tkA t n 58 (zt_p0 t n) else @ite Int (¬ (zt_oR t n b = b ∧ zt_fok (zt_oM t n b) k w)) (Classical.propDecidable _) (zt_oE t n b) (if zt_tkR t n 58 (zt_oE t n b) = 0 then zt_tkA t n 58 (zt_oE t n b) else if zt_gR (zt_oH t n b) t n (zt_oG t n b) = 0 then zt_gA (zt_oH t n b) t n (zt_oG t n b) else if zt_sR (zt_oH t n b) t n (zt_oS t n b) = 0 then zt_oA t n b else if zt_tkR t n 58 (zt_oA t n b) = 0 then zt_tkA t n 58 (zt_oA t n b) else if ¬ (49 ≤ zt_nx t n (zt_oT t n b) ∧ zt_nx t n (zt_oT t n b) ≤ 57) then zt_sk t n (zt_oT t n b) else zt_sk t n (zt_sk t n (zt_oT t n b) + 1))
end ZTOrder
section ZTOrder2
variable {t : Int → Int} {n b k w : Int}
theorem zt_o1 (h : zt_n0 t n = 0) : ¬ zt_oK t n b k w ∧ zt_oF t n b k w = zt_z0 t n := ⟨fun q => q.1 h, by unfold zt_oF; rw [if_pos h]⟩
theorem zt_o2 (h1 : zt_n0 t n ≠ 0) (h : zt_tkR t n 58 (zt_p0 t n) = 0) : ¬ zt_oK t n b k w ∧ zt_oF t n b k w = zt_tkA t n 58 (zt_p0 t n) := ⟨fun q => q.2.1 h, by unfold zt_oF; rw [if_neg h1, if_pos h]⟩
theorem zt_o3 (h1 : zt_n0 t n ≠ 0) (h2 : zt_tkR t n 58 (zt_p0 t n) ≠ 0) (h : ¬ (zt_oR t n b = b ∧ zt_fok (zt_oM t n b) k w)) : ¬ zt_oK t n b k w ∧ zt_oF t n b k w = zt_oE t n b := ⟨fun q => h q.2.2.1, by unfold zt_oF; rw [if_neg h1, if_neg h2, if_pos h]⟩
theorem zt_o4 (h1 : zt_n0 t n ≠ 0) (h2 : zt_tkR t n 58 (zt_p0 t n) ≠ 0) (h3 : zt_oR t n b = b ∧ zt_fok (zt_oM t n b) k w) (h : zt_tkR t n 58 (zt_oE t n b) = 0) : ¬ zt_oK t n b k w ∧ zt_oF t n b k w = zt_tkA t n 58 (zt_oE t n b) := ⟨fun q => q.2.2.2.1 h, by unfold zt_oF; rw [if_neg h1, if_neg h2, if_neg (fun q => q h3), if_pos h]⟩
theorem zt_o5 (h1 : zt_n0 t n ≠ 0) (h2 : zt_tkR t n 58 (zt_p0 t n) ≠ 0) (h3 : zt_oR t n b = b ∧ zt_fok (zt_oM t n b) k w) (h4 : zt_tkR t n 58 (zt_oE t n b) ≠ 0) (h : zt_gR (zt_oH t n b) t n (zt_oG t n b) = 0) : ¬ zt_oK t n b k w ∧ zt_oF t n b k w = zt_gA (zt_oH t n b) t n (zt_oG t n b) := ⟨fun q => q.2.2.2.2.1 h, by unfold zt_oF; rw [if_neg h1, if_neg h2, if_neg (fun q => q h3), if_neg h4, if_pos h]⟩
theorem zt_o6 (h1 : zt_n0 t n ≠ 0) (h2 : zt_tkR t n 58 (zt_p0 t n) ≠ 0) (h3 : zt_oR t n b = b ∧ zt_fok (zt_oM t n b) k w) (h4 : zt_tkR t n 58 (zt_oE t n b) ≠ 0) (h5 : zt_gR (zt_oH t n b) t n (zt_oG t n b) ≠ 0) (h : zt_sR (zt_oH t n b) t n (zt_oS t n b) = 0) : ¬ zt_oK t n b k w ∧ zt_oF t n b k w = zt_oA t n b := ⟨fun q => q.2.2.2.2.2.1 h, by unfold zt_oF; rw [if_neg h1, if_neg h2, if_neg (fun q => q h3), if_neg h4, if_neg h5, if_pos h]⟩
theorem zt_o7 (h1 : zt_n0 t n ≠ 0) (h2 : zt_tkR t n 58 (zt_p0 t n) ≠ 0) (h3 : zt_oR t n b = b ∧ zt_fok (zt_oM t n b) k w) (h4 : zt_tkR t n 58 (zt_oE t n b) ≠ 0) (h5 : zt_gR (zt_oH t n b) t n (zt_oG t n b) ≠ 0) (h6 : zt_sR (zt_oH t n b) t n (zt_oS t n b) ≠ 0) (h : zt_tkR t n 58 (zt_oA t n b) = 0) : ¬ zt_oK t n b k w ∧ zt_oF t n b k w = zt_tkA t n 58 (zt_oA t n b) := ⟨fun q => q.2.2.2.2.2.2.1 h, by unfold zt_oF; rw [if_neg h1, if_neg h2, if_neg (fun q => q h3), if_neg h4, if_neg h5, if_neg h6, if_pos h]⟩
theorem zt_o8 (h1 : zt_n0 t n ≠ 0) (h2 : zt_tkR t n 58 (zt_p0 t n) ≠ 0) (h3 : zt_oR t n b = b ∧ zt_fok (zt_oM t n b) k w) (h4 : zt_tkR t n 58 (zt_oE t n b) ≠ 0) (h5 : zt_gR (zt_oH t n b) t n (zt_oG t n b) ≠ 0) (h6 : zt_sR (zt_oH t n b) t n (zt_oS t n b) ≠ 0) (h7 : zt_tkR t n 58 (zt_oA t n b) ≠ 0) (h : ¬ (49 ≤ zt_nx t n (zt_oT t n b) ∧ zt_nx t n (zt_oT t n b) ≤ 57)) : ¬ zt_oK t n b k w ∧ zt_oF t n b k w = zt_sk t n (zt_oT t n b) := ⟨fun q => h q.2.2.2.2.2.2.2.1, by unfold zt_oF; rw [if_neg h1, if_neg h2, if_neg (fun q => q h3), if_neg h4, if_neg h5, if_neg h6, if_neg h7, if_pos h]⟩
theorem zt_o9 (h1 : zt_n0 t n ≠ 0) (h2 : zt_tkR t n 58 (zt_p0 t n) ≠ 0) (h3 : zt_oR t n b = b ∧ zt_fok (zt_oM t n b) k w) (h4 : zt_tkR t n 58 (zt_oE t n b) ≠ 0) (h5 : zt_gR (zt_oH t n b) t n (zt_oG t n b) ≠ 0) (h6 : zt_sR (zt_oH t n b) t n (zt_oS t n b) ≠ 0) (h7 : zt_tkR t n 58 (zt_oA t n b) ≠ 0) (h8 : 49 ≤ zt_nx t n (zt_oT t n b) ∧ zt_nx t n (zt_oT t n b) ≤ 57) (h : zt_nx t n (zt_sk t n (zt_oT t n b) + 1) ≠ -1) : ¬ zt_oK t n b k w ∧ zt_oF t n b k w = zt_sk t n (zt_sk t n (zt_oT t n b) + 1) := ⟨fun q => h q.2.2.2.2.2.2.2.2, by unfold zt_oF; rw [if_neg h1, if_neg h2, if_neg (fun q => q h3), if_neg h4, if_neg h5, if_neg h6, if_neg h7, if_neg (fun q => q h8)]⟩
end ZTOrder2
theorem zt_H_ext {m p : Int → Int} (h : ∀ f, 0 ≤ f → f ≤ 3 → m f = p f) : zt_H m = zt_H p := by
  funext f
  unfold zt_H
  by_cases c : 0 ≤ f ∧ f ≤ 3
  · rw [h f c.1 c.2]
  · exact (decide_eq_false (fun q => c ⟨q.1, q.2.1⟩)).trans (decide_eq_false (fun q => c ⟨q.1, q.2.1⟩)).symm
theorem zt_fok_ext {m p : Int → Int} {k w : Int} (h : ∀ f, 0 ≤ f → f ≤ 3 → m f = p f) : zt_fok m k w ↔ zt_fok p k w := by
  unfold zt_fok
  rw [h 3 (by decide) (by decide)]
  constructor
  · intro ⟨a, c⟩
    exact ⟨fun f h0 h2 => by rw [← h f h0 (by omega)]; exact a f h0 h2, c⟩
  · intro ⟨a, c⟩
    exact ⟨fun f h0 h2 => by rw [h f h0 (by omega)]; exact a f h0 h2, c⟩
/-- an ORDER's cells, as the class has read them -/
def zt_cC (τ : zq_S) (s : Int) (t : Int → Int) (n b : Int) : Prop :=
  τ s 0 = zt_na t (zt_z0 t n) (zt_n0 t n) ∧ τ s 1 = zt_mk (fun i => decide (zt_oV t n i ≤ 1)) b ∧ τ s 2 = zt_mk (fun i => decide (zt_oV t n i = 1)) b ∧ (∀ f, 0 ≤ f → f ≤ 3 → τ (s + 1) f = zt_oM t n b f) ∧
  τ s 4 = zt_gK t n (zt_oG t n b) ∧ τ s 5 = zt_gO (zt_oH t n b) t n (zt_oG t n b) ∧ τ s 6 = zt_oN t n b ∧ zt_acts τ s (zt_oH t n b) t n (zt_oS t n b) (zt_oN t n b) ∧ τ s 11 = zt_nx t n (zt_oT t n b) - 48 ∧
  τ s 12 = zt_nmK (fun i => zt_tgR (zt_oH t n b) t n (zt_oB t n b i)) (fun i => zt_acL (zt_oH t n b) t n (zt_oB t n b i)) (fun i => zt_acS (zt_oH t n b) t n (zt_oB t n b i)) (fun i => zt_acV (zt_oH t n b) t n (zt_oB t n b i)) (if zt_gK t n (zt_oG t n b) = 0 then 0 else zq_or 0 (zt_nmb (zt_gO (zt_oH t n b) t n (zt_oG t n b)))) (zt_oN t n b) ∧
  τ s 13 = zt_amK (fun i => zt_tgR (zt_oH t n b) t n (zt_oB t n b i)) 0 (zt_oN t n b) ∧ τ s 15 = -1 ∧ τ s 16 = -1
/-- which FIELDS a LOOK of the reference has -/
def zt_Hr (ρ : zq_S) (o : Int) : Int → Bool := fun f => decide (0 ≤ f ∧ f ≤ 3 ∧ 0 < zx_cnt ρ o f (ρ 0 2))
theorem zt_Hr_y {ρ : zq_S} {o f : Int} (h0 : 0 ≤ f) (h3 : f ≤ 3) (h : 0 < zx_cnt ρ o f (ρ 0 2)) : zt_Hr ρ o f = true := decide_eq_true ⟨h0, h3, h⟩
theorem zt_Hr_n {ρ : zq_S} {o f : Int} (h : ¬ 0 < zx_cnt ρ o f (ρ 0 2)) : ¬ zt_Hr ρ o f = true := fun q => h (of_decide_eq_true q).2.2
theorem zt_Hr_fr {σ τ : zq_S} {o : Int} (h2 : ∀ i, τ 2 i = σ 2 i) (hb : τ 0 2 = σ 0 2) : zt_Hr τ o = zt_Hr σ o := by
  funext f
  unfold zt_Hr
  rw [hb, zx_cnt_fr h2]
/-- OPERANDS, as the reference tells them: which, and the number -/
def zt_rc (x : Int) : Int := if 16 ≤ x then 10 else x
def zt_ru (x : Int) : Int := if 16 ≤ x then x - 16 else 0
theorem zt_sn_0 : zt_sn 0 = 0 := by decide
theorem zt_rc_b (x : Int) : (16 ≤ x → zt_rc x = 10) ∧ (¬ 16 ≤ x → zt_rc x = x) := ⟨fun h => by unfold zt_rc; rw [if_pos h], fun h => by unfold zt_rc; rw [if_neg h]⟩
theorem zt_nuR_b (t : Int → Int) (n m a : Int) : zt_nuR t n m a ≤ m ∨ zt_nuR t n m a = -1 := by
  unfold zt_nuR
  split
  · omega
  · omega
theorem zt_dv_nnF {t : Int → Int} {s : Int} : ∀ (k : Nat), (∀ i : Int, s ≤ i → i < s + k → 48 ≤ t i) → 0 ≤ zt_dvF t s k := by
  intro k
  induction k with
  | zero => intro _; exact Int.le_refl 0
  | succ k ih =>
    intro h
    have h1 := ih (fun i a b => h i a (by omega))
    have h2 := h (s + k) (by omega) (by omega)
    show 0 ≤ 10 * zt_dvF t s k + (t (s + k) - 48)
    omega
theorem zt_rn_allF {p : Int → Bool} {n : Int} : ∀ (k : Nat) (a i : Int), n - a ≤ (k : Int) → a ≤ i → i < zt_rn p n a → p i = true := by
  intro k
  induction k with
  | zero =>
    intro a i h1 h2 h3
    rw [zt_rn_n (by omega)] at h3
    omega
  | succ k ih =>
    intro a i h1 h2 h3
    by_cases c : a < n ∧ p a = true
    · rw [zt_rn_y c] at h3
      by_cases hi : i = a
      · rw [hi]; exact c.2
      · exact ih (a + 1) i (by omega) (by omega) h3
    · rw [zt_rn_n c] at h3
      omega
theorem zt_rn_all {p : Int → Bool} {n a i : Int} (h2 : a ≤ i) (h3 : i < zt_rn p n a) : p i = true := zt_rn_allF (n - a).toNat a i (by omega) h2 h3
theorem zt_nuR_nn (t : Int → Int) (n m a : Int) : -1 ≤ zt_nuR t n m a := by
  unfold zt_nuR
  split
  · have h : 0 ≤ zt_dv t (zt_sk t n a) (zt_de t n (zt_sk t n a)) := by
      unfold zt_dv
      refine zt_dv_nnF _ (fun i h1 h2 => ?_)
      have h3 : i < zt_de t n (zt_sk t n a) := by omega
      have h4 := of_decide_eq_true (zt_rn_all (p := fun i => decide (48 ≤ t i ∧ t i ≤ 57)) h1 h3)
      exact h4.1
    omega
  · omega
theorem zt_opR_b (H : Int → Bool) (t : Int → Int) (n a : Int) : -1 ≤ zt_opR H t n a ∧ zt_opR H t n a ≤ 271 := by
  have hb := zt_ns_b H (zt_nx t n a)
  have hm := zt_meR_b H t n (zt_sk t n a + 1)
  have hu := zt_nuR_b t n 255 a
  have hn := zt_nuR_nn t n 255 a
  unfold zt_opR
  repeat' split
  all_goals omega
theorem zt_acS_sn (H : Int → Bool) (t : Int → Int) (n a : Int) : zt_sn (zt_acS H t n a) = zt_sn (zt_nx t n (zt_a3 H t n a)) := by
  unfold zt_acS
  split
  · rename_i h; rw [h]; exact zt_sn_0
  · rfl
/-- an ACT's row, as the reference holds it -/
def zt_rac (τ : zq_S) (p : Int) (H : Int → Bool) (t : Int → Int) (n a : Int) : Prop := τ 6 p = zt_tgR H t n a ∧ τ 6 (p + 1) = zt_rc (zt_acL H t n a) ∧ τ 6 (p + 2) = zt_ru (zt_acL H t n a) ∧ τ 6 (p + 3) = zt_sn (zt_acS H t n a) ∧ τ 6 (p + 4) = zt_rc (zt_acV H t n a) ∧ τ 6 (p + 5) = zt_ru (zt_acV H t n a)
def zt_fokr (ρ : zq_S) (o k w : Int) : Prop := zx_cnt ρ o 3 (ρ 0 2) ≤ w ∧ ∀ f, 0 ≤ f → f < 3 → zx_cnt ρ o f (ρ 0 2) = 0 ∨ zx_cnt ρ o f (ρ 0 2) = k
theorem zt_fokr_fr {σ τ : zq_S} {o k w : Int} (h2 : ∀ i, τ 2 i = σ 2 i) (hb : τ 0 2 = σ 0 2) : zt_fokr τ o k w ↔ zt_fokr σ o k w := by
  unfold zt_fokr
  rw [hb, zx_cnt_fr h2]
  constructor
  · intro ⟨a, c⟩
    exact ⟨a, fun f h0 h1 => by rw [← zx_cnt_fr h2]; exact c f h0 h1⟩
  · intro ⟨a, c⟩
    exact ⟨a, fun f h0 h1 => by rw [zx_cnt_fr h2]; exact c f h0 h1⟩
theorem zt_fokr_B {ρ : zq_S} {o k w : Int} (h : zt_fokr ρ o k w) (hk : 0 ≤ k ∧ k ≤ 3) (hw : w ≤ 8) : zx_B ρ o := by
  obtain ⟨a, c⟩ := h
  have c0 := c 0 (by omega) (by omega)
  have c1 := c 1 (by omega) (by omega)
  have c2 := c 2 (by omega) (by omega)
  exact ⟨by omega, by omega, by omega, by omega⟩
