/-! ===== make: as the class does it ===== -/
def zm_cst (σ : zq_S) (t node form i : Int) : Int := if i = σ (t + 4) node ∧ (form = 3 ∨ form = 5) ∧ σ (t + 1) (σ (t + 4) node) ≠ 1 then (if σ (t + 1) (σ (t + 3) node) = 1 ∧ ¬ (form = 5 ∨ form = 6) then σ 274 node else σ 274 node + 1) else if i = σ (t + 3) node ∧ ¬ (σ (t + 1) (σ (t + 3) node) = 1 ∧ ¬ (form = 5 ∨ form = 6)) then σ 274 node else σ 274 i
def zm_ro (σ : zq_S) (t n : Int) : Int := if σ 274 n = -1 then σ (t + 2) n else σ 274 n
/-- the bits of a node by the ORDER at a -/
def zm_cw (σ : zq_S) (t node a : Int) : Int :=
  if σ a 14 = 2 then (zu_wf (σ (a + 1) 1) (zu_wf (σ (a + 1) 0) (σ a 2) (σ 274 node) 12).1 (σ (t + 2) node) 12).1
  else if σ a 14 = 1 then (zu_wf (σ (a + 1) 3) (zu_wf (σ (a + 1) 0) (σ a 2) (σ 274 node) 12).1 (σ (t + 2) node) 12).1
  else (zu_wf (σ (a + 1) 3) (zu_wf (σ (a + 1) 2) (zu_wf (σ (a + 1) 1) (zu_wf (σ (a + 1) 0) (σ a 2) (σ 274 node) 12).1 (zm_ro σ t (if σ a 14 = 5 then σ (t + 4) node else σ (t + 3) node)) 12).1 (zm_ro σ t (σ (t + 4) node)) 12).1 (σ (t + 2) (σ (t + 4) node)) 12).1
section ZMcw
variable {σ : zq_S} {t node a : Int}
theorem zm_cw_2 (h : σ a 14 = 2) : zm_cw σ t node a = (zu_wf (σ (a + 1) 1) (zu_wf (σ (a + 1) 0) (σ a 2) (σ 274 node) 12).1 (σ (t + 2) node) 12).1 := by unfold zm_cw; rw [if_pos h]
theorem zm_cw_1 (h : σ a 14 = 1) : zm_cw σ t node a = (zu_wf (σ (a + 1) 3) (zu_wf (σ (a + 1) 0) (σ a 2) (σ 274 node) 12).1 (σ (t + 2) node) 12).1 := by unfold zm_cw; rw [if_neg (by omega), if_pos h]
theorem zm_cw_5 (h : σ a 14 = 5) : zm_cw σ t node a = (zu_wf (σ (a + 1) 3) (zu_wf (σ (a + 1) 2) (zu_wf (σ (a + 1) 1) (zu_wf (σ (a + 1) 0) (σ a 2) (σ 274 node) 12).1 (zm_ro σ t (σ (t + 4) node)) 12).1 (zm_ro σ t (σ (t + 4) node)) 12).1 (σ (t + 2) (σ (t + 4) node)) 12).1 := by unfold zm_cw; rw [if_neg (by omega), if_neg (by omega), if_pos h]
theorem zm_cw_o (h : σ a 14 ≠ 1 ∧ σ a 14 ≠ 2 ∧ σ a 14 ≠ 5) : zm_cw σ t node a = (zu_wf (σ (a + 1) 3) (zu_wf (σ (a + 1) 2) (zu_wf (σ (a + 1) 1) (zu_wf (σ (a + 1) 0) (σ a 2) (σ 274 node) 12).1 (zm_ro σ t (σ (t + 3) node)) 12).1 (zm_ro σ t (σ (t + 4) node)) 12).1 (σ (t + 2) (σ (t + 4) node)) 12).1 := by unfold zm_cw; rw [if_neg h.2.1, if_neg h.1, if_neg h.2.2]
end ZMcw
theorem zu_wf_z {b r : Int} : ∀ k : Nat, zu_wfF 0 b r k = (b, r) := by
  intro k
  induction k with
  | zero => rfl
  | succ k ih =>
    show (if zq_and 0 (zx_p2 k) ≠ 0 then (zq_or (zu_wfF 0 b r k).1 (if zq_and (zu_wfF 0 b r k).2 1 = 0 then 0 else zx_p2 k), zq_shr (zu_wfF 0 b r k).2 1) else zu_wfF 0 b r k) = _
    have e : zq_and 0 (zx_p2 k) = 0 := by
      have q := zq_and_nnL (x := 0) (y := zx_p2 k) (by omega)
      omega
    rw [if_neg (fun q => q e)]
    exact ih
/-- a FIELD that is not there takes no number -/
theorem zu_wf_m {m b r : Int} (h : m = 0) : (zu_wf m b r 12).1 = b := by
  rw [h]
  show (zu_wfF 0 b r 12).1 = b
  rw [zu_wf_z]
theorem zu_bt_4 {H : Int → Bool} {M V : Int → Int} {b : Int} (hH : ∀ f, 0 ≤ f → f ≤ 3 → ¬ H f = true → M f = 0) : zu_bt H M V b 4 = (zu_wf (M 3) (zu_wf (M 2) (zu_wf (M 1) (zu_wf (M 0) b (V 0) 12).1 (V 1) 12).1 (V 2) 12).1 (V 3) 12).1 := by
  have st : ∀ f, 0 ≤ f → f ≤ 3 → zu_bt H M V b (f + 1) = (zu_wf (M f) (zu_bt H M V b f) (V f) 12).1 := fun f f0 f3 => by
    by_cases c : H f = true
    · exact zu_bt_y f0 c
    · rw [zu_bt_n f0 c, zu_wf_m (hH f f0 f3 c)]
  have e1 := st 0 (by decide) (by decide)
  have e2 := st 1 (by decide) (by decide)
  have e3 := st 2 (by decide) (by decide)
  have e4 := st 3 (by decide) (by decide)
  rw [show (0 : Int) + 1 = 1 by decide, zu_bt_0] at e1
  rw [show (1 : Int) + 1 = 2 by decide, e1] at e2
  rw [show (2 : Int) + 1 = 3 by decide, e2] at e3
  rw [show (3 : Int) + 1 = 4 by decide, e3] at e4
  exact e4
/-! ===== REGISTERS chosen ===== -/
def zm_H (σ D : zq_S) (t : Int) : Prop := zp_W σ D t ∧ (∀ j, 0 ≤ j → j < D 0 37 → σ 273 j = zm_C D j) ∧ 0 ≤ zp_q D ∧ 0 ≤ D 0 3 ∧ 0 ≤ σ 255 4
def zm_CR (σ τ : zq_S) (t n : Int) : Prop := ∀ D, zm_H σ D t → ∀ i, 0 ≤ i → i < D 0 37 → τ 274 i = zm_i D (zm_C D) (σ 255 4) n i
theorem zm_C_P {D : zq_S} {j : Int} (j0 : 0 ≤ j) (j1 : j < D 0 37) (h : 0 ≤ zm_C D j) : D 21 j ≠ 0 ∧ 0 ≤ zm_P D j := by
  have e1 : zp_pr D (zx_lm D (D 0 3)) (D 0 37) j = zp_pr D (zx_lm D (D 0 3)) (j + 1) j := zp_pr_st (by omega) (by omega) (by omega)
  unfold zm_C at h
  unfold zm_P
  rw [e1] at h ⊢
  by_cases k0 : D 21 j = 0
  · rw [zp_pr_v j0 k0] at h
    exact absurd h (show ¬ (0 : Int) ≤ -1 by omega)
  · rw [zp_pr_w j0 k0] at h ⊢
    rcases zp_b_r (zp_k D (zx_lm D (D 0 3)) j) (D 0 3) with ⟨a, -, -, -⟩ | ⟨-, b⟩
    · exact ⟨k0, a⟩
    · omega
section ZMCR
variable {σ τ π D : zq_S} {t n : Int}
theorem zm_H_Y (hD : zm_H σ D t) (n0 : -1 ≤ n) (n1 : n ≤ D 0 37 - 1) : zm_Y D (zm_C D) (zm_P D) (zm_i D (zm_C D) (σ 255 4) n) (zx_lm D (D 0 3)) (σ 255 4) n := by
  obtain ⟨f, hf⟩ := hD.1.2.1
  exact zm_Yn hf hD.1.2.2.2.1 hD.2.2.2.1 hD.1.2.2.2.2.2.1.2.1 hD.2.2.2.2 hD.2.2.1 n0 n1
theorem zm_H_F (hD : zm_H σ D t) : zm_F D (zm_C D) (zm_P D) (zx_lm D (D 0 3)) := by
  obtain ⟨f, hf⟩ := hD.1.2.1
  exact zm_F_pr hf hD.1.2.2.2.1 hD.2.2.2.1
theorem zm_CR_0 (hr : τ 274 (σ t 5 - 1) = σ 255 4) (ho : ∀ i, 0 ≤ i → i ≤ 38 → i ≠ σ t 5 - 1 → τ 274 i = -1) : zm_CR σ τ t (σ t 5 - 1) := fun D hD i i0 i1 => by
  obtain ⟨n5, n51, n52⟩ := hD.1.2.2.2.2.2.1
  rw [n5] at hr ho ⊢
  rw [zm_i_0]
  show τ 274 i = if i = D 0 37 - 1 then σ 255 4 else -1
  by_cases c : i = D 0 37 - 1
  · rw [if_pos c, c]; exact hr
  · rw [if_neg c]; exact ho i i0 (by omega) c
theorem zm_CR_n (n0 : 0 ≤ n) (n1 : n < σ t 5) (hc : τ 274 n = -1 ∨ ¬ (0 ≤ σ 273 n ∧ σ 273 n < σ 3 3) ∨ σ (σ 10 (σ 273 n)) 14 < 3) (h : zm_CR σ τ t n) : zm_CR σ τ t (n - 1) := fun D hD i i0 i1 => by
  have n5 := hD.1.2.2.2.2.2.1.1
  have Y := zm_H_Y hD (n := n) (by omega) (by omega)
  rw [zm_i_n (by omega) ?_]
  · exact h D hD i i0 i1
  · intro q
    have e := h D hD n n0 (by omega)
    have p := (Y.2.2.2.1 n n0 (by omega) q.1).1
    obtain ⟨g1, -, g3⟩ := zm_H_F hD n n0 (by omega) p
    have g1 := g1 (by omega)
    have g3 := (g3 q.2).1
    have pc := hD.2.1 n n0 (by omega)
    have t3 := hD.1.1.1
    have f := (hD.1.1.2 (zm_C D n) g1.1 (by omega)).1
    rw [pc] at hc
    rcases hc with z | z | z
    · exact q.1 (by rw [← e]; exact z)
    · exact z ⟨g1.1, by omega⟩
    · omega
theorem zm_CR_y (n0 : 0 ≤ n) (n1 : n < σ t 5) (hT : τ 274 n ≠ -1) (hp : 0 ≤ σ 273 n ∧ σ 273 n < σ 3 3) {form : Int} (hform : form = σ (σ 10 (σ 273 n)) 14) (h3 : 3 ≤ form) (e1 : ∀ i, τ (t + 1) i = σ (t + 1) i) (e3 : τ (t + 3) n = σ (t + 3) n) (e4 : τ (t + 4) n = σ (t + 4) n) (hc : ∀ i, π 274 i = zm_cst τ t n form i) (h : zm_CR σ τ t n) : zm_CR σ π t (n - 1) := fun D hD i i0 i1 => by
  have n5 := hD.1.2.2.2.2.2.1.1
  have Y := zm_H_Y hD (n := n) (by omega) (by omega)
  have e := h D hD n n0 (by omega)
  have pc := hD.2.1 n n0 (by omega)
  have t3 := hD.1.1.1
  have f := (hD.1.1.2 (σ 273 n) hp.1 hp.2).1
  rw [← hform] at f
  rw [pc] at f
  have cp := zm_C_P n0 (show n < D 0 37 by omega) (by omega)
  obtain ⟨-, g2, -⟩ := zm_H_F hD n n0 (by omega) cp.2
  have k2 : D 21 n = 2 := by
    have a := hD.1.2.2.2.1 n
    by_cases c : D 21 n = 1
    · have := (g2 c).1
      omega
    · omega
  have x0 := Y.2.1 n
  obtain ⟨s1, s2, s3, s4⟩ := zp_W_tr hD.1 n0 (by omega) k2
  obtain ⟨-, -, -, nn⟩ := zp_W_nd hD.1 n0 (show n < D 0 37 by omega)
  obtain ⟨-, -, nl, nr⟩ := nn k2
  have kl := (zp_W_nd hD.1 s1 (show D 23 n < D 0 37 by omega)).1
  have kr := (zp_W_nd hD.1 s3 (show D 24 n < D 0 37 by omega)).1
  have fb := zx_form_b D (zm_C D n)
  rw [zm_i_y (by omega) ⟨by rw [← e]; exact hT, k2⟩, hc i]
  unfold zm_cst zm_st
  rw [e3, e4, nl, nr, e1, e1, ← e]
  have er : (zm_r D (zm_C D) n (τ 274 n) ≠ -1 ↔ ((form = 3 ∨ form = 5) ∧ σ (t + 1) (D 24 n) ≠ 1)) ∧ (zm_r D (zm_C D) n (τ 274 n) ≠ -1 → zm_r D (zm_C D) n (τ 274 n) = if σ (t + 1) (D 23 n) = 1 ∧ ¬ (form = 5 ∨ form = 6) then τ 274 n else τ 274 n + 1) := by
    unfold zm_r
    rw [← f]
    have xx : τ 274 n ≠ -1 ∧ τ 274 n + 1 ≠ -1 := by rw [e] at hT ⊢; omega
    by_cases c : (form = 3 ∨ form = 5) ∧ D 21 (D 24 n) ≠ 0
    · rw [if_pos c]
      have c' : (form = 3 ∨ form = 5) ∧ σ (t + 1) (D 24 n) ≠ 1 := ⟨c.1, fun z => c.2 (kr.mp z)⟩
      by_cases d : D 21 (D 23 n) = 0 ∧ form < 5
      · rw [if_pos d, if_pos ⟨kl.mpr d.1, by omega⟩]
        exact ⟨⟨fun _ => c', fun _ => xx.1⟩, fun _ => rfl⟩
      · have d' : ¬ (σ (t + 1) (D 23 n) = 1 ∧ ¬ (form = 5 ∨ form = 6)) := fun z => d ⟨kl.mp z.1, by omega⟩
        rw [if_neg d, if_neg d']
        exact ⟨⟨fun _ => c', fun _ => xx.2⟩, fun _ => rfl⟩
    · rw [if_neg c]
      exact ⟨⟨fun z => absurd rfl z, fun z => absurd ⟨z.1, fun y => z.2 (kr.mpr y)⟩ c⟩, fun z => absurd rfl z⟩
  have el : (zm_l D (zm_C D) n (τ 274 n) ≠ -1 ↔ ¬ (σ (t + 1) (D 23 n) = 1 ∧ ¬ (form = 5 ∨ form = 6))) ∧ (zm_l D (zm_C D) n (τ 274 n) ≠ -1 → zm_l D (zm_C D) n (τ 274 n) = τ 274 n) := by
    unfold zm_l
    rw [← f]
    by_cases d : D 21 (D 23 n) = 0 ∧ form < 5
    · rw [if_pos d]
      exact ⟨⟨fun z => absurd rfl z, fun z => absurd ⟨kl.mpr d.1, by omega⟩ z⟩, fun z => absurd rfl z⟩
    · rw [if_neg d]
      exact ⟨⟨fun _ z => d ⟨kl.mp z.1, by omega⟩, fun _ => hT⟩, fun _ => rfl⟩
  by_cases c1 : i = D 24 n ∧ (form = 3 ∨ form = 5) ∧ σ (t + 1) (D 24 n) ≠ 1
  · have z := er.1.mpr c1.2
    rw [if_pos c1, if_pos (show i = D 24 n ∧ zm_r D (zm_C D) n (τ 274 n) ≠ -1 from ⟨c1.1, z⟩), er.2 z]
  · rw [if_neg c1, if_neg (show ¬ (i = D 24 n ∧ zm_r D (zm_C D) n (τ 274 n) ≠ -1) from fun q => c1 ⟨q.1, er.1.mp q.2⟩)]
    by_cases c2 : i = D 23 n ∧ ¬ (σ (t + 1) (D 23 n) = 1 ∧ ¬ (form = 5 ∨ form = 6))
    · have z := el.1.mpr c2.2
      rw [if_pos c2, if_pos (show i = D 23 n ∧ zm_l D (zm_C D) n (τ 274 n) ≠ -1 from ⟨c2.1, z⟩), el.2 z]
    · rw [if_neg c2, if_neg (show ¬ (i = D 23 n ∧ zm_l D (zm_C D) n (τ 274 n) ≠ -1) from fun q => c2 ⟨q.1, el.1.mp q.2⟩)]
      exact h D hD i i0 i1
end ZMCR
/-! ===== bits of a node, side by side ===== -/
/-- what make rests on, alike -/
def zm_HH (σ D : zq_S) : Prop := zp_W σ D (σ 255 1) ∧ zx_T D ∧ zu_T3 σ D ∧ (σ 3 1 = D 0 1 ∧ σ 255 4 = D 0 35 ∧ D 0 36 = 1) ∧ zm_V8 D
def zm_HV (σ D : zq_S) : Prop := σ 255 3 = D 0 36 ∧ (D 0 36 = 1 → zm_HH σ D)
theorem zm_fm4 (D : zq_S) (o : Int) : zx_fm D o 4 = (if 0 < zx_cnt D o 0 (D 0 2) then 1 else 0) + (if 0 < zx_cnt D o 1 (D 0 2) then 2 else 0) + (if 0 < zx_cnt D o 2 (D 0 2) then 4 else 0) + (if 0 < zx_cnt D o 3 (D 0 2) then 8 else 0) := by
  have s0 := zx_fm_s D o 0 (by decide)
  have s1 := zx_fm_s D o 1 (by decide)
  have s2 := zx_fm_s D o 2 (by decide)
  have s3 := zx_fm_s D o 3 (by decide)
  rw [show (0 : Int) + 1 = 1 by decide, zx_fm_0] at s0
  rw [show (1 : Int) + 1 = 2 by decide] at s1
  rw [show (2 : Int) + 1 = 3 by decide] at s2
  rw [show (3 : Int) + 1 = 4 by decide] at s3
  by_cases c0 : 0 < zx_cnt D o 0 (D 0 2)
  · by_cases c1 : 0 < zx_cnt D o 1 (D 0 2)
    · by_cases c2 : 0 < zx_cnt D o 2 (D 0 2)
      · by_cases c3 : 0 < zx_cnt D o 3 (D 0 2)
        · rw [s3.1 c3, s2.1 c2, s1.1 c1, s0.1 c0, if_pos c0, if_pos c1, if_pos c2, if_pos c3]; decide
        · rw [s3.2 c3, s2.1 c2, s1.1 c1, s0.1 c0, if_pos c0, if_pos c1, if_pos c2, if_neg c3]; decide
      · by_cases c3 : 0 < zx_cnt D o 3 (D 0 2)
        · rw [s3.1 c3, s2.2 c2, s1.1 c1, s0.1 c0, if_pos c0, if_pos c1, if_neg c2, if_pos c3]; decide
        · rw [s3.2 c3, s2.2 c2, s1.1 c1, s0.1 c0, if_pos c0, if_pos c1, if_neg c2, if_neg c3]; decide
    · by_cases c2 : 0 < zx_cnt D o 2 (D 0 2)
      · by_cases c3 : 0 < zx_cnt D o 3 (D 0 2)
        · rw [s3.1 c3, s2.1 c2, s1.2 c1, s0.1 c0, if_pos c0, if_neg c1, if_pos c2, if_pos c3]; decide
        · rw [s3.2 c3, s2.1 c2, s1.2 c1, s0.1 c0, if_pos c0, if_neg c1, if_pos c2, if_neg c3]; decide
      · by_cases c3 : 0 < zx_cnt D o 3 (D 0 2)
        · rw [s3.1 c3, s2.2 c2, s1.2 c1, s0.1 c0, if_pos c0, if_neg c1, if_neg c2, if_pos c3]; decide
        · rw [s3.2 c3, s2.2 c2, s1.2 c1, s0.1 c0, if_pos c0, if_neg c1, if_neg c2, if_neg c3]; decide
  · by_cases c1 : 0 < zx_cnt D o 1 (D 0 2)
    · by_cases c2 : 0 < zx_cnt D o 2 (D 0 2)
      · by_cases c3 : 0 < zx_cnt D o 3 (D 0 2)
        · rw [s3.1 c3, s2.1 c2, s1.1 c1, s0.2 c0, if_neg c0, if_pos c1, if_pos c2, if_pos c3]; decide
        · rw [s3.2 c3, s2.1 c2, s1.1 c1, s0.2 c0, if_neg c0, if_pos c1, if_pos c2, if_neg c3]; decide
      · by_cases c3 : 0 < zx_cnt D o 3 (D 0 2)
        · rw [s3.1 c3, s2.2 c2, s1.1 c1, s0.2 c0, if_neg c0, if_pos c1, if_neg c2, if_pos c3]; decide
        · rw [s3.2 c3, s2.2 c2, s1.1 c1, s0.2 c0, if_neg c0, if_pos c1, if_neg c2, if_neg c3]; decide
    · by_cases c2 : 0 < zx_cnt D o 2 (D 0 2)
      · by_cases c3 : 0 < zx_cnt D o 3 (D 0 2)
        · rw [s3.1 c3, s2.1 c2, s1.2 c1, s0.2 c0, if_neg c0, if_neg c1, if_pos c2, if_pos c3]; decide
        · rw [s3.2 c3, s2.1 c2, s1.2 c1, s0.2 c0, if_neg c0, if_neg c1, if_pos c2, if_neg c3]; decide
      · by_cases c3 : 0 < zx_cnt D o 3 (D 0 2)
        · rw [s3.1 c3, s2.2 c2, s1.2 c1, s0.2 c0, if_neg c0, if_neg c1, if_neg c2, if_pos c3]; decide
        · rw [s3.2 c3, s2.2 c2, s1.2 c1, s0.2 c0, if_neg c0, if_neg c1, if_neg c2, if_neg c3]; decide
/-- which FIELDS a form has -/
theorem zm_form_f (D : zq_S) (o : Int) : (zx_form D o = 1 ∨ zx_form D o = 6 → zx_fm D o 4 = 9) ∧ (zx_form D o = 2 ∨ zx_form D o = 5 → zx_fm D o 4 = 3) ∧ (zx_form D o = 3 → zx_fm D o 4 = 7) ∧ (zx_form D o = 4 → zx_fm D o 4 = 11) := by
  unfold zx_form
  repeat' split
  all_goals omega
theorem zx_lm_f {D : zq_S} : ∀ n : Nat, 0 ≤ zx_lm D n → zx_form D (zx_lm D n) = 2 ∧ zx_lm D n < n := by
  intro n
  induction n with
  | zero => intro h; exact absurd h (show ¬ (0 : Int) ≤ -1 by omega)
  | succ n ih =>
    intro h
    rw [show ((n + 1 : Nat) : Int) = (n : Int) + 1 by omega] at h ⊢
    by_cases c : zx_form D n = 2 ∧ (zx_lm D n < 0 ∨ D 7 n < D 7 (zx_lm D n))
    · rw [(zx_lm_s D n (by omega)).1 c]
      exact ⟨c.1, by omega⟩
    · rw [(zx_lm_s D n (by omega)).2 c] at h ⊢
      have q := ih h
      exact ⟨q.1, by omega⟩
/-- FIELDS that a form has not -/
theorem zm_no (D : zq_S) (o : Int) : (zx_form D o = 1 ∨ zx_form D o = 6 → ¬ 0 < zx_cnt D o 1 (D 0 2) ∧ ¬ 0 < zx_cnt D o 2 (D 0 2)) ∧ (zx_form D o = 2 ∨ zx_form D o = 5 → ¬ 0 < zx_cnt D o 2 (D 0 2) ∧ ¬ 0 < zx_cnt D o 3 (D 0 2)) ∧ (zx_form D o = 3 → ¬ 0 < zx_cnt D o 3 (D 0 2)) ∧ (zx_form D o = 4 → ¬ 0 < zx_cnt D o 2 (D 0 2)) := by
  have fm4 := zm_fm4 D o
  obtain ⟨fa, fb, fc, fd⟩ := zm_form_f D o
  refine ⟨fun q => ?_, fun q => ?_, fun q => ?_, fun q => ?_⟩
  · rw [fa q] at fm4
    constructor <;> intro z <;> (rw [if_pos z] at fm4) <;> (repeat' split at fm4) <;> omega
  · rw [fb q] at fm4
    constructor <;> intro z <;> (rw [if_pos z] at fm4) <;> (repeat' split at fm4) <;> omega
  · rw [fc q] at fm4
    intro z
    rw [if_pos z] at fm4
    repeat' split at fm4
    all_goals omega
  · rw [fd q] at fm4
    intro z
    rw [if_pos z] at fm4
    repeat' split at fm4
    all_goals omega
section ZMcwW
variable {σ τ D : zq_S}
theorem zm_mz {a o g : Int} (hx : zx_T D) (lk : zu_lk σ D a o) (g0 : 0 ≤ g) (g3 : g ≤ 3) (h : ¬ 0 < zx_cnt D o g (D 0 2)) : σ (a + 1) g = 0 := by
  have b := (zu_bc hx lk g0 g3).2
  exact b.1.mpr (by omega)
theorem zm_bits {a o : Int} {V W : Int → Int} (hx : zx_T D) (lk : zu_lk σ D a o) (h : ∀ g, 0 ≤ g → g ≤ 3 → 0 < zx_cnt D o g (D 0 2) → (0 ≤ V g ∧ V g < 4096) ∧ W g = V g) : (zu_wf (σ (a + 1) 3) (zu_wf (σ (a + 1) 2) (zu_wf (σ (a + 1) 1) (zu_wf (σ (a + 1) 0) (σ a 2) (V 0) 12).1 (V 1) 12).1 (V 2) 12).1 (V 3) 12).1 = zu_rbt D o W (D 0 2) := by
  have hHz : ∀ g, 0 ≤ g → g ≤ 3 → ¬ zu_cH σ a g = true → σ (a + 1) g = 0 := fun g g0 g3 q => by
    by_cases z : σ (a + 1) g = 0
    · exact z
    · exact absurd (decide_eq_true z) q
  rw [← zu_bt_4 (H := zu_cH σ a) (M := σ (a + 1)) (V := V) (b := σ a 2) hHz]
  exact zu_bits hx lk (fun g g0 g3 q => (h g g0 g3 (of_decide_eq_true q)).1) (fun g g0 g3 q => (h g g0 g3 (of_decide_eq_true q)).2)
/-- the same, number by number -/
theorem zm_bits4 {a o v0 v1 v2 v3 w0 w1 w2 w3 : Int} (hx : zx_T D) (lk : zu_lk σ D a o) (h0 : (0 ≤ v0 ∧ v0 < 4096) ∧ w0 = v0) (h1 : 0 < zx_cnt D o 1 (D 0 2) → (0 ≤ v1 ∧ v1 < 4096) ∧ w1 = v1) (h2 : 0 < zx_cnt D o 2 (D 0 2) → (0 ≤ v2 ∧ v2 < 4096) ∧ w2 = v2) (h3 : 0 < zx_cnt D o 3 (D 0 2) → (0 ≤ v3 ∧ v3 < 4096) ∧ w3 = v3) : (zu_wf (σ (a + 1) 3) (zu_wf (σ (a + 1) 2) (zu_wf (σ (a + 1) 1) (zu_wf (σ (a + 1) 0) (σ a 2) v0 12).1 v1 12).1 v2 12).1 v3 12).1 = zu_rbt D o (zm_v w0 w1 w2 w3) (D 0 2) := by
  refine zm_bits (V := zm_v v0 v1 v2 v3) (W := zm_v w0 w1 w2 w3) hx lk (fun g g0 g3 gg => ?_)
  rcases (show g = 0 ∨ g = 1 ∨ g = 2 ∨ g = 3 by omega) with z | z | z | z
  · rw [z]; exact h0
  · rw [z] at gg ⊢; exact h1 gg
  · rw [z] at gg ⊢; exact h2 gg
  · rw [z] at gg ⊢; exact h3 gg
theorem zm_cw_v {t j a o x w : Int} (hx : zx_T D) (lk : zu_lk σ D a o) (hf : σ a 14 = 2) (hd : zx_form D o = 2) (e14 : τ a 14 = σ a 14) (e2 : τ a 2 = σ a 2) (fM : ∀ f, τ (a + 1) f = σ (a + 1) f) (hx0 : τ 274 j = x) (hw : τ (t + 2) j = w) (bx : 0 ≤ x ∧ x < 4096) (bw : 0 ≤ w ∧ w < 4096) : zm_cw τ t j a = zu_rbt D o (zm_v x w 0 0) (D 0 2) := by
  obtain ⟨c2, c3⟩ := (zm_no D o).2.1 (Or.inl hd)
  rw [← zm_bits4 (v0 := x) (v1 := w) (v2 := 0) (v3 := 0) hx lk ⟨bx, rfl⟩ (fun _ => ⟨bw, rfl⟩) (fun z => absurd z c2) (fun z => absurd z c3)]
  rw [zu_wf_m (zm_mz hx lk (by decide) (by decide) c3), zu_wf_m (zm_mz hx lk (by decide) (by decide) c2), zm_cw_2 (by rw [e14]; exact hf), fM, fM, e2, hx0, hw]
theorem zm_cw_l {t j a o x w : Int} (hx : zx_T D) (lk : zu_lk σ D a o) (hf : σ a 14 = 1) (hd : zx_form D o = 1) (e14 : τ a 14 = σ a 14) (e2 : τ a 2 = σ a 2) (fM : ∀ f, τ (a + 1) f = σ (a + 1) f) (hx0 : τ 274 j = x) (hw : τ (t + 2) j = w) (bx : 0 ≤ x ∧ x < 4096) (bw : 0 ≤ w ∧ w < 4096) : zm_cw τ t j a = zu_rbt D o (zm_v x 0 0 w) (D 0 2) := by
  obtain ⟨c1, c2⟩ := (zm_no D o).1 (Or.inl hd)
  rw [← zm_bits4 (v0 := x) (v1 := 0) (v2 := 0) (v3 := w) hx lk ⟨bx, rfl⟩ (fun z => absurd z c1) (fun z => absurd z c2) (fun _ => ⟨bw, rfl⟩)]
  rw [zu_wf_m (b := (zu_wf (σ (a + 1) 1) (zu_wf (σ (a + 1) 0) (σ a 2) x 12).1 0 12).1) (zm_mz hx lk (by decide) (by decide) c2), zu_wf_m (zm_mz hx lk (by decide) (by decide) c1), zm_cw_1 (by rw [e14]; exact hf), fM, fM, e2, hx0, hw]
theorem zm_cw_s {t j a o x L R la ra w : Int} (hx : zx_T D) (lk : zu_lk σ D a o) (hf : σ a 14 = zx_form D o) (h3 : 3 ≤ zx_form D o) (e14 : τ a 14 = σ a 14) (e2 : τ a 2 = σ a 2) (fM : ∀ f, τ (a + 1) f = σ (a + 1) f) (hx0 : τ 274 j = x) (eL : τ (t + 3) j = L) (eR : τ (t + 4) j = R) (hl : zx_form D o = 3 ∨ zx_form D o = 4 → zm_ro τ t L = la) (hr : zx_form D o = 3 ∨ zx_form D o = 5 → zm_ro τ t R = ra) (hw : zx_form D o = 4 ∨ zx_form D o = 6 → τ (t + 2) R = w) (bx : 0 ≤ x ∧ x < 4096) (bl : 0 ≤ la ∧ la < 4096) (br : 0 ≤ ra ∧ ra < 4096) (bw : 0 ≤ w ∧ w < 4096) : zm_cw τ t j a = zu_rbt D o (if zx_form D o = 3 then zm_v x la ra 0 else if zx_form D o = 4 then zm_v x la 0 w else if zx_form D o = 5 then zm_v x ra 0 0 else zm_v x 0 0 w) (D 0 2) := by
  have fb := zx_form_b D o
  obtain ⟨n1, n2, n3, n4⟩ := zm_no D o
  by_cases q3 : zx_form D o = 3
  · have c3 := n3 q3
    rw [if_pos q3, zm_cw_o (by rw [e14, hf]; omega), fM, fM, fM, fM, e2, hx0, eL, eR, hl (Or.inl q3), hr (Or.inl q3)]
    exact zm_bits4 hx lk ⟨bx, rfl⟩ (fun _ => ⟨bl, rfl⟩) (fun _ => ⟨br, rfl⟩) (fun z => absurd z c3)
  · by_cases q4 : zx_form D o = 4
    · have c2 := n4 q4
      rw [if_neg q3, if_pos q4, zm_cw_o (by rw [e14, hf]; omega), fM, fM, fM, fM, e2, hx0, eL, eR, hl (Or.inr q4), hw (Or.inl q4)]
      exact zm_bits4 hx lk ⟨bx, rfl⟩ (fun _ => ⟨bl, rfl⟩) (fun z => absurd z c2) (fun _ => ⟨bw, rfl⟩)
    · by_cases q5 : zx_form D o = 5
      · obtain ⟨c2, c3⟩ := n2 (Or.inr q5)
        rw [if_neg q3, if_neg q4, if_pos q5, zm_cw_5 (by rw [e14, hf]; exact q5), fM, fM, fM, fM, e2, hx0, eR, hr (Or.inr q5)]
        exact zm_bits4 hx lk ⟨bx, rfl⟩ (fun _ => ⟨br, rfl⟩) (fun z => absurd z c2) (fun z => absurd z c3)
      · have q6 : zx_form D o = 6 := by omega
        obtain ⟨c1, c2⟩ := n1 (Or.inr q6)
        rw [if_neg q3, if_neg q4, if_neg q5, zm_cw_o (by rw [e14, hf]; omega), fM, fM, fM, fM, e2, hx0, eL, eR, hw (Or.inr q6)]
        exact zm_bits4 hx lk ⟨bx, rfl⟩ (fun z => absurd z c1) (fun z => absurd z c2) (fun _ => ⟨bw, rfl⟩)
/-- the REGISTERS of the sides, side by side -/
theorem zm_ro_l {t j : Int} {I : Int → Int} (hi : I j ≠ -1) (xl : τ 274 (D 23 j) = zm_l D (zm_C D) j (I j)) (e : τ (t + 2) (D 23 j) = σ (t + 2) (D 23 j)) (w : D 21 (D 23 j) ≠ 2 → σ (t + 2) (D 23 j) = D 22 (D 23 j)) : zm_ro τ t (D 23 j) = zm_la D (zm_C D) I j := by
  unfold zm_l at xl
  unfold zm_ro zm_la
  by_cases c : D 21 (D 23 j) = 0 ∧ zx_form D (zm_C D j) < 5
  · rw [if_pos c] at xl
    rw [if_pos xl, if_pos c, e]
    exact w (by omega)
  · rw [if_neg c] at xl
    rw [if_neg (by rw [xl]; exact hi), if_neg c, xl]
theorem zm_ro_r {t j : Int} {I : Int → Int} (x0 : 0 ≤ I j) (hF : zx_form D (zm_C D j) = 3 ∨ zx_form D (zm_C D j) = 5) (xr : τ 274 (D 24 j) = zm_r D (zm_C D) j (I j)) (e : τ (t + 2) (D 24 j) = σ (t + 2) (D 24 j)) (w : D 21 (D 24 j) ≠ 2 → σ (t + 2) (D 24 j) = D 22 (D 24 j)) : zm_ro τ t (D 24 j) = zm_ra D (zm_C D) I j := by
  unfold zm_r at xr
  unfold zm_ro zm_ra
  by_cases c : D 21 (D 24 j) = 0
  · rw [if_neg (fun z => z.2 c)] at xr
    rw [if_pos xr, if_pos c, e]
    exact w (by omega)
  · rw [if_pos ⟨hF, c⟩] at xr
    rw [if_neg c]
    by_cases d : D 21 (D 23 j) = 0 ∧ zx_form D (zm_C D j) < 5
    · rw [if_pos d] at xr ⊢
      rw [if_neg (by omega), xr]
    · rw [if_neg d] at xr ⊢
      rw [if_neg (by omega), xr]
theorem zm_la_b {I : Int → Int} {j : Int} (w22 : ∀ i, 0 ≤ D 22 i ∧ D 22 i ≤ 255) (bx : 0 ≤ I j ∧ I j < 4000) : (0 ≤ zm_la D (zm_C D) I j ∧ zm_la D (zm_C D) I j < 4096) ∧ (0 ≤ zm_ra D (zm_C D) I j ∧ zm_ra D (zm_C D) I j < 4096) := by
  have w1 := w22 (D 23 j)
  have w2 := w22 (D 24 j)
  unfold zm_la zm_ra
  refine ⟨?_, ?_⟩
  · split <;> omega
  · split
    · omega
    · split <;> omega
/-- which ORDER a node has -/
theorem zm_o_b (hH : zm_HH σ D) (hq : 0 ≤ zp_q D) {j o : Int} (j0 : 0 ≤ j) (j1 : j < D 0 37) (hi : zm_It D (D 0 35) j ≠ -1) (ho : o = zm_o D (zm_C D) (zx_lm D (D 0 3)) j) : 0 ≤ o ∧ o < σ 3 3 := by
  obtain ⟨f, hf⟩ := hH.1.2.1
  have g3 := zx_g3 hH.2.1
  have g35 := zx_g35 hH.2.1
  have t33 := hH.1.1.1
  have Y := zm_Yq (v := D 0 35) hf hH.1.2.2.2.1 g3.1 hH.1.2.2.2.2.2.1.2.1 (by omega) hq
  obtain ⟨pj, mj⟩ := Y.2.2.2.1 j j0 j1 hi
  rw [ho, t33]
  unfold zm_o
  by_cases k0 : D 21 j = 0
  · rw [if_pos k0]
    have m0 := mj k0
    have q := zx_lm_f (D := D) (D 0 3).toNat
    rw [show (((D 0 3).toNat : Nat) : Int) = D 0 3 by omega] at q
    exact ⟨m0, (q m0).2⟩
  · rw [if_neg k0]
    exact (zm_F_pr hf hH.1.2.2.2.1 g3.1 j j0 j1 pj).1 k0
/-- the bits of a node are the model's -/
theorem zm_cw_w (hH : zm_HH σ D) (hq : 0 ≤ zp_q D) (hI : ∀ i, 0 ≤ i → i < D 0 37 → τ 274 i = zm_It D (D 0 35) i) (e1 : ∀ i, τ (σ 255 1 + 2) i = σ (σ 255 1 + 2) i) (e3 : ∀ i, τ (σ 255 1 + 3) i = σ (σ 255 1 + 3) i) (e4 : ∀ i, τ (σ 255 1 + 4) i = σ (σ 255 1 + 4) i) {j o : Int} (j0 : 0 ≤ j) (j1 : j < D 0 37) (hi : zm_It D (D 0 35) j ≠ -1) (ho : o = zm_o D (zm_C D) (zx_lm D (D 0 3)) j) (f14 : τ (σ 10 o) 14 = σ (σ 10 o) 14) (f2 : τ (σ 10 o) 2 = σ (σ 10 o) 2) (fM : ∀ f, τ (σ 10 o + 1) f = σ (σ 10 o + 1) f) : zm_cw τ (σ 255 1) j (σ 10 o) = zm_Wt D (D 0 35) j := by
  have ok := zm_o_b hH hq j0 j1 hi ho
  obtain ⟨hW, hx, hT3, -, -⟩ := hH
  obtain ⟨f, hf⟩ := hW.2.1
  obtain ⟨n5, n51, n52⟩ := hW.2.2.2.2.2.1
  have g3 := zx_g3 hx
  have g35 := zx_g35 hx
  have t33 := hW.1.1
  have Y := zm_Yq (v := D 0 35) hf hW.2.2.2.1 g3.1 n51 (by omega) hq
  obtain ⟨pj, mj⟩ := Y.2.2.2.1 j j0 j1 hi
  obtain ⟨F1, F2, F3⟩ := zm_F_pr hf hW.2.2.2.1 g3.1 j j0 j1 pj
  have bx : 0 ≤ zm_It D (D 0 35) j ∧ zm_It D (D 0 35) j < 4000 := by
    rcases Y.2.1 j with z | ⟨z1, z2⟩
    · exact absurd z hi
    · exact ⟨z1, Int.lt_of_le_of_lt z2 (by omega)⟩
  have w22 := hW.2.2.2.2.1
  have lk := (hT3.2.2.1 o ok.1 (by rw [← t33]; exact ok.2)).2.1
  have frm := (hW.1.2 o ok.1 ok.2).1
  have ndj := zp_W_nd hW j0 j1
  by_cases k0 : D 21 j = 0
  · have oe : o = zx_lm D (D 0 3) := by rw [ho]; unfold zm_o; rw [if_pos k0]
    have q := zx_lm_f (D := D) (D 0 3).toNat
    rw [show (((D 0 3).toNat : Nat) : Int) = D 0 3 by omega] at q
    have q := (q (mj k0)).1
    rw [← oe] at q
    rw [zm_Wt_0 k0, ← oe]
    have w := w22 j
    exact zm_cw_v hx lk (frm.trans q) q f14 f2 fM (hI j j0 j1) ((e1 j).trans (ndj.2.2.1 (by omega))) ⟨bx.1, by omega⟩ ⟨w.1, by omega⟩
  · have oe : o = zm_C D j := by rw [ho]; unfold zm_o; rw [if_neg k0]
    by_cases k1 : D 21 j = 1
    · have q := (F2 k1).1
      rw [← oe] at q
      rw [zm_Wt_1 k1, ← oe]
      have w := w22 j
      exact zm_cw_l hx lk (frm.trans q) q f14 f2 fM (hI j j0 j1) ((e1 j).trans (ndj.2.2.1 (by omega))) ⟨bx.1, by omega⟩ ⟨w.1, by omega⟩
    · have k2 : D 21 j = 2 := by have := hW.2.2.2.1 j; omega
      obtain ⟨a1, a2, a3, a4, a5⟩ := F3 k2
      obtain ⟨s1, s2, s3, s4⟩ := zp_W_tr hW j0 j1 k2
      obtain ⟨-, -, nl, nr⟩ := ndj.2.2.2 k2
      obtain ⟨yl, yr⟩ := (Y.2.2.1 j j0 j1 k2).1 (by omega) hi
      have ndl := zp_W_nd hW s1 (show D 23 j < D 0 37 by omega)
      have ndr := zp_W_nd hW s3 (show D 24 j < D 0 37 by omega)
      have xl : τ 274 (D 23 j) = zm_l D (zm_C D) j (zm_It D (D 0 35) j) := (hI _ s1 (by omega)).trans yl
      have xr : τ 274 (D 24 j) = zm_r D (zm_C D) j (zm_It D (D 0 35) j) := (hI _ s3 (by omega)).trans yr
      obtain ⟨bl, br⟩ := zm_la_b (I := zm_It D (D 0 35)) (j := j) w22 bx
      have wr := w22 (D 24 j)
      rw [zm_Wt_2 k2, ← oe]
      refine zm_cw_s hx lk frm (by rw [oe]; exact a1) f14 f2 fM (hI j j0 j1) ((e3 j).trans nl) ((e4 j).trans nr) (fun _ => zm_ro_l hi xl (e1 _) ndl.2.2.1) (fun q => zm_ro_r bx.1 (by rw [← oe]; exact q) xr (e1 _) ndr.2.2.1) (fun q => (e1 _).trans (ndr.2.2.1 ?_)) ⟨bx.1, by omega⟩ bl br ⟨wr.1, by omega⟩
      rw [oe] at q
      have := (a3 q).1
      omega
end ZMcwW
