/-! ===== make: as the class does it ===== -/
def zm_cst (σ : zq_S) (t node form i : Int) : Int := if i = σ (t + 4) node ∧ (form = 3 ∨ form = 5) ∧ σ (t + 1) (σ (t + 4) node) ≠ 1 then (if σ (t + 1) (σ (t + 3) node) = 1 ∧ ¬ (form = 5 ∨ form = 6) then σ 274 node else σ 274 node + 1) else if i = σ (t + 3) node ∧ ¬ (σ (t + 1) (σ (t + 3) node) = 1 ∧ ¬ (form = 5 ∨ form = 6)) then σ 274 node else σ 274 i
def zm_ro (σ : zq_S) (t n : Int) : Int := if σ 274 n = -1 then σ (t + 2) n else σ 274 n
/-- the bits of a node by the ORDER at a -/
def zm_cw (σ : zq_S) (t node a : Int) : Int :=
  if σ a 14 = 2 then (zu_wf (σ (a + 1) 1) (zu_wf (σ (a + 1) 0) (σ a 2) (σ 274 node) 12).1 (σ (t + 2) node) 12).1
  else if σ a 14 = 1 then (zu_wf (σ (a + 1) 3) (zu_wf (σ (a + 1) 0) (σ a 2) (σ 274 node) 12).1 (σ (t + 2) node) 12).1
  else (zu_wf (σ (a + 1) 3) (zu_wf (σ (a + 1) 2) (zu_wf (σ (a + 1) 1) (zu_wf (σ (a + 1) 0) (σ a 2) (σ 274 node) 12).1 (zm_ro σ t (if σ a 14 = 5 then σ (t + 4) node else σ (t + 3) node)) 12).1 (zm_ro σ t (σ (t + 4) node)) 12).1 (σ (t + 2) (σ (t + 4) node)) 12).1
section ZMcw
variable {σ : zq_S} {t node a : Int}
theorem zm_cw_2 (h : σ a 14 = 2) : zm_cw σ t node a = (zu_wf (σ (a + 1) 1) (zu_wf (σ (a + 1) 0) (σ a 2) (σ 274 node) 12).1 (σ (t + 2) node) 12).1 := by unfold zm_cw; rw [if_pos h]
theorem zm_cw_1 (h : σ a 14 = 1) : zm_cw σ t node a = (zu_wf (σ (a + 1) 3) (zu_wf (σ (a + 1) 0) (σ a 2) (σ 274 node) 12).1 (σ (t + 2) node) 12).1 := by unfold zm_cw; rw [if_neg (by omega), if_pos h]
theorem zm_cw_5 (h : σ a 14 = 5) : zm_cw σ t node a = (zu_wf (σ (a + 1) 3) (zu_wf (σ (a + 1) 2) (zu_wf (σ (a + 1) 1) (zu_wf (σ (a + 1) 0) (σ a 2) (σ 274 node) 12).1 (zm_ro σ t (σ (t + 4) node)) 12).1 (zm_ro σ t (σ (t + 4) node)) 12).1 (σ (t + 2) (σ (t + 4) node)) 12).1 := by unfold zm_cw; rw [if_neg (by omega), if_neg (by omega), if_pos h]
theorem zm_cw_o (h : σ a 14 ≠ 1 ∧ σ a 14 ≠ 2 ∧ σ a 14 ≠ 5) : zm_cw σ t node a = (zu_wf (σ (a + 1) 3) (zu_wf (σ (a + 1) 2) (zu_wf (σ (a + 1) 1) (zu_wf (σ (a + 1) 0) (σ a 2) (σ 274 node) 12).1 (zm_ro σ t (σ (t + 3) node)) 12).1 (zm_ro σ t (σ (t + 4) node)) 12).1 (σ (t + 2) (σ (t + 4) node)) 12).1 := by unfold zm_cw; rw [if_neg h.2.1, if_neg h.1, if_neg h.2.2]
end ZMcw
theorem zu_wf_z {b r : Int} : ∀ k : Nat, zu_wfF 0 b r k = (b, r) := by
  intro k
  induction k with
  | zero => rfl
  | succ k ih =>
    show (if zq_and 0 (zx_p2 k) ≠ 0 then (zq_or (zu_wfF 0 b r k).1 (if zq_and (zu_wfF 0 b r k).2 1 = 0 then 0 else zx_p2 k), zq_shr (zu_wfF 0 b r k).2 1) else zu_wfF 0 b r k) = _
    have e : zq_and 0 (zx_p2 k) = 0 := by
      have q := zq_and_nnL (x := 0) (y := zx_p2 k) (by omega)
      omega
    rw [if_neg (fun q => q e)]
    exact ih
/-- a FIELD that is not there takes no number -/
theorem zu_wf_m {m b r : Int} (h : m = 0) : (zu_wf m b r 12).1 = b := by
  rw [h]
  show (zu_wfF 0 b r 12).1 = b
  rw [zu_wf_z]
theorem zu_bt_4 {H : Int → Bool} {M V : Int → Int} {b : Int} (hH : ∀ f, 0 ≤ f → f ≤ 3 → ¬ H f = true → M f = 0) : zu_bt H M V b 4 = (zu_wf (M 3) (zu_wf (M 2) (zu_wf (M 1) (zu_wf (M 0) b (V 0) 12).1 (V 1) 12).1 (V 2) 12).1 (V 3) 12).1 := by
  have st : ∀ f, 0 ≤ f → f ≤ 3 → zu_bt H M V b (f + 1) = (zu_wf (M f) (zu_bt H M V b f) (V f) 12).1 := fun f f0 f3 => by
    by_cases c : H f = true
    · exact zu_bt_y f0 c
    · rw [zu_bt_n f0 c, zu_wf_m (hH f f0 f3 c)]
  have e1 := st 0 (by decide) (by decide)
  have e2 := st 1 (by decide) (by decide)
  have e3 := st 2 (by decide) (by decide)
  have e4 := st 3 (by decide) (by decide)
  rw [show (0 : Int) + 1 = 1 by decide, zu_bt_0] at e1
  rw [show (1 : Int) + 1 = 2 by decide, e1] at e2
  rw [show (2 : Int) + 1 = 3 by decide, e2] at e3
  rw [show (3 : Int) + 1 = 4 by decide, e3] at e4
  exact e4
/-! ===== REGISTERS chosen ===== -/
def zm_H (σ D : zq_S) (t : Int) : Prop := zp_W σ D t ∧ (∀ j, 0 ≤ j → j < D 0 37 → σ 273 j = zm_C D j) ∧ 0 ≤ zp_q D ∧ 0 ≤ D 0 3 ∧ 0 ≤ σ 255 4
def zm_CR (σ τ : zq_S) (t n : Int) : Prop := ∀ D, zm_H σ D t → ∀ i, 0 ≤ i → i < D 0 37 → τ 274 i = zm_i D (zm_C D) (σ 255 4) n i
theorem zm_C_P {D : zq_S} {j : Int} (j0 : 0 ≤ j) (j1 : j < D 0 37) (h : 0 ≤ zm_C D j) : D 21 j ≠ 0 ∧ 0 ≤ zm_P D j := by
  have e1 : zp_pr D (zx_lm D (D 0 3)) (D 0 37) j = zp_pr D (zx_lm D (D 0 3)) (j + 1) j := zp_pr_st (by omega) (by omega) (by omega)
  unfold zm_C at h
  unfold zm_P
  rw [e1] at h ⊢
  by_cases k0 : D 21 j = 0
  · rw [zp_pr_v j0 k0] at h
    exact absurd h (show ¬ (0 : Int) ≤ -1 by omega)
  · rw [zp_pr_w j0 k0] at h ⊢
    rcases zp_b_r (zp_k D (zx_lm D (D 0 3)) j) (D 0 3) with ⟨a, -, -, -⟩ | ⟨-, b⟩
    · exact ⟨k0, a⟩
    · omega
section ZMCR
variable {σ τ π : zq_S} {t n : Int}
theorem zm_H_Y (hD : zm_H σ D t) (n0 : -1 ≤ n) (n1 : n ≤ D 0 37 - 1) : zm_Y D (zm_C D) (zm_P D) (zm_i D (zm_C D) (σ 255 4) n) (zx_lm D (D 0 3)) (σ 255 4) n := by
  obtain ⟨f, hf⟩ := hD.1.2.1
  exact zm_Yn hf hD.1.2.2.2.1 hD.2.2.2.1 hD.1.2.2.2.2.2.1.2.1 hD.2.2.2.2 hD.2.2.1 n0 n1
theorem zm_H_F (hD : zm_H σ D t) : zm_F D (zm_C D) (zm_P D) (zx_lm D (D 0 3)) := by
  obtain ⟨f, hf⟩ := hD.1.2.1
  exact zm_F_pr hf hD.1.2.2.2.1 hD.2.2.2.1
theorem zm_CR_0 (hr : τ 274 (σ t 5 - 1) = σ 255 4) (ho : ∀ i, 0 ≤ i → i ≤ 38 → i ≠ σ t 5 - 1 → τ 274 i = -1) : zm_CR σ τ t (σ t 5 - 1) := fun D hD i i0 i1 => by
  obtain ⟨n5, n51, n52⟩ := hD.1.2.2.2.2.2.1
  rw [n5] at hr ho ⊢
  rw [zm_i_0]
  show τ 274 i = if i = D 0 37 - 1 then σ 255 4 else -1
  by_cases c : i = D 0 37 - 1
  · rw [if_pos c, c]; exact hr
  · rw [if_neg c]; exact ho i i0 (by omega) c
theorem zm_CR_n (n0 : 0 ≤ n) (n1 : n < σ t 5) (hc : τ 274 n = -1 ∨ ¬ (0 ≤ σ 273 n ∧ σ 273 n < σ 3 3) ∨ σ (σ 10 (σ 273 n)) 14 < 3) (h : zm_CR σ τ t n) : zm_CR σ τ t (n - 1) := fun D hD i i0 i1 => by
  have n5 := hD.1.2.2.2.2.2.1.1
  have Y := zm_H_Y hD (n := n) (by omega) (by omega)
  rw [zm_i_n (by omega) ?_]
  · exact h D hD i i0 i1
  · intro q
    have e := h D hD n n0 (by omega)
    have p := (Y.2.2.2.1 n n0 (by omega) q.1).1
    obtain ⟨g1, -, g3⟩ := zm_H_F hD n n0 (by omega) p
    have g1 := g1 (by omega)
    have g3 := (g3 q.2).1
    have pc := hD.2.1 n n0 (by omega)
    have t3 := hD.1.1.1
    have f := (hD.1.1.2 (zm_C D n) g1.1 (by omega)).1
    rw [pc] at hc
    rcases hc with z | z | z
    · exact q.1 (by rw [← e]; exact z)
    · exact z ⟨g1.1, by omega⟩
    · omega
theorem zm_CR_y (n0 : 0 ≤ n) (n1 : n < σ t 5) (hT : τ 274 n ≠ -1) (hp : 0 ≤ σ 273 n ∧ σ 273 n < σ 3 3) {form : Int} (hform : form = σ (σ 10 (σ 273 n)) 14) (h3 : 3 ≤ form) (e1 : ∀ i, τ (t + 1) i = σ (t + 1) i) (e3 : τ (t + 3) n = σ (t + 3) n) (e4 : τ (t + 4) n = σ (t + 4) n) (hc : ∀ i, π 274 i = zm_cst τ t n form i) (h : zm_CR σ τ t n) : zm_CR σ π t (n - 1) := fun D hD i i0 i1 => by
  have n5 := hD.1.2.2.2.2.2.1.1
  have Y := zm_H_Y hD (n := n) (by omega) (by omega)
  have e := h D hD n n0 (by omega)
  have pc := hD.2.1 n n0 (by omega)
  have t3 := hD.1.1.1
  have f := (hD.1.1.2 (σ 273 n) hp.1 hp.2).1
  rw [← hform] at f
  rw [pc] at f
  have cp := zm_C_P n0 (show n < D 0 37 by omega) (by omega)
  obtain ⟨-, g2, -⟩ := zm_H_F hD n n0 (by omega) cp.2
  have k2 : D 21 n = 2 := by
    have a := hD.1.2.2.2.1 n
    by_cases c : D 21 n = 1
    · have := (g2 c).1
      omega
    · omega
  have x0 := Y.2.1 n
  obtain ⟨s1, s2, s3, s4⟩ := zp_W_tr hD.1 n0 (by omega) k2
  obtain ⟨-, -, -, nn⟩ := zp_W_nd hD.1 n0 (show n < D 0 37 by omega)
  obtain ⟨-, -, nl, nr⟩ := nn k2
  have kl := (zp_W_nd hD.1 s1 (show D 23 n < D 0 37 by omega)).1
  have kr := (zp_W_nd hD.1 s3 (show D 24 n < D 0 37 by omega)).1
  have fb := zx_form_b D (zm_C D n)
  rw [zm_i_y (by omega) ⟨by rw [← e]; exact hT, k2⟩, hc i]
  unfold zm_cst zm_st
  rw [e3, e4, nl, nr, e1, e1, ← e]
  have er : (zm_r D (zm_C D) n (τ 274 n) ≠ -1 ↔ ((form = 3 ∨ form = 5) ∧ σ (t + 1) (D 24 n) ≠ 1)) ∧ (zm_r D (zm_C D) n (τ 274 n) ≠ -1 → zm_r D (zm_C D) n (τ 274 n) = if σ (t + 1) (D 23 n) = 1 ∧ ¬ (form = 5 ∨ form = 6) then τ 274 n else τ 274 n + 1) := by
    unfold zm_r
    rw [← f]
    have xx : τ 274 n ≠ -1 ∧ τ 274 n + 1 ≠ -1 := by rw [e] at hT ⊢; omega
    by_cases c : (form = 3 ∨ form = 5) ∧ D 21 (D 24 n) ≠ 0
    · rw [if_pos c]
      have c' : (form = 3 ∨ form = 5) ∧ σ (t + 1) (D 24 n) ≠ 1 := ⟨c.1, fun z => c.2 (kr.mp z)⟩
      by_cases d : D 21 (D 23 n) = 0 ∧ form < 5
      · rw [if_pos d, if_pos ⟨kl.mpr d.1, by omega⟩]
        exact ⟨⟨fun _ => c', fun _ => xx.1⟩, fun _ => rfl⟩
      · have d' : ¬ (σ (t + 1) (D 23 n) = 1 ∧ ¬ (form = 5 ∨ form = 6)) := fun z => d ⟨kl.mp z.1, by omega⟩
        rw [if_neg d, if_neg d']
        exact ⟨⟨fun _ => c', fun _ => xx.2⟩, fun _ => rfl⟩
    · rw [if_neg c]
      exact ⟨⟨fun z => absurd rfl z, fun z => absurd ⟨z.1, fun y => z.2 (kr.mpr y)⟩ c⟩, fun z => absurd rfl z⟩
  have el : (zm_l D (zm_C D) n (τ 274 n) ≠ -1 ↔ ¬ (σ (t + 1) (D 23 n) = 1 ∧ ¬ (form = 5 ∨ form = 6))) ∧ (zm_l D (zm_C D) n (τ 274 n) ≠ -1 → zm_l D (zm_C D) n (τ 274 n) = τ 274 n) := by
    unfold zm_l
    rw [← f]
    by_cases d : D 21 (D 23 n) = 0 ∧ form < 5
    · rw [if_pos d]
      exact ⟨⟨fun z => absurd rfl z, fun z => absurd ⟨kl.mpr d.1, by omega⟩ z⟩, fun z => absurd rfl z⟩
    · rw [if_neg d]
      exact ⟨⟨fun _ z => d ⟨kl.mp z.1, by omega⟩, fun _ => hT⟩, fun _ => rfl⟩
  by_cases c1 : i = D 24 n ∧ (form = 3 ∨ form = 5) ∧ σ (t + 1) (D 24 n) ≠ 1
  · have z := er.1.mpr c1.2
    rw [if_pos c1, if_pos ⟨c1.1, z⟩, er.2 z]
  · rw [if_neg c1, if_neg (fun q => c1 ⟨q.1, er.1.mp q.2⟩)]
    by_cases c2 : i = D 23 n ∧ ¬ (σ (t + 1) (D 23 n) = 1 ∧ ¬ (form = 5 ∨ form = 6))
    · have z := el.1.mpr c2.2
      rw [if_pos c2, if_pos ⟨c2.1, z⟩, el.2 z]
    · rw [if_neg c2, if_neg (fun q => c2 ⟨q.1, el.1.mp q.2⟩)]
      exact h D hD i i0 i1
end ZMCR
/-! ===== bits of a node, side by side ===== -/
/-- what make rests on, alike -/
def zm_HH (σ D : zq_S) : Prop := zp_W σ D (σ 255 1) ∧ zx_T D ∧ zu_T3 σ D ∧ (σ 3 1 = D 0 1 ∧ σ 255 4 = D 0 35 ∧ D 0 36 = 1) ∧ zm_V8 D
def zm_HV (σ D : zq_S) : Prop := σ 255 3 = D 0 36 ∧ (D 0 36 = 1 → zm_HH σ D)
theorem zm_fm4 (D : zq_S) (o : Int) : zx_fm D o 4 = (if 0 < zx_cnt D o 0 (D 0 2) then 1 else 0) + (if 0 < zx_cnt D o 1 (D 0 2) then 2 else 0) + (if 0 < zx_cnt D o 2 (D 0 2) then 4 else 0) + (if 0 < zx_cnt D o 3 (D 0 2) then 8 else 0) := by
  have s0 := zx_fm_s D o 0 (by decide)
  have s1 := zx_fm_s D o 1 (by decide)
  have s2 := zx_fm_s D o 2 (by decide)
  have s3 := zx_fm_s D o 3 (by decide)
  rw [show (0 : Int) + 1 = 1 by decide, zx_fm_0] at s0
  rw [show (1 : Int) + 1 = 2 by decide] at s1
  rw [show (2 : Int) + 1 = 3 by decide] at s2
  rw [show (3 : Int) + 1 = 4 by decide] at s3
  by_cases c0 : 0 < zx_cnt D o 0 (D 0 2)
  · by_cases c1 : 0 < zx_cnt D o 1 (D 0 2)
    · by_cases c2 : 0 < zx_cnt D o 2 (D 0 2)
      · by_cases c3 : 0 < zx_cnt D o 3 (D 0 2)
        · rw [s3.1 c3, s2.1 c2, s1.1 c1, s0.1 c0, if_pos c0, if_pos c1, if_pos c2, if_pos c3]; decide
        · rw [s3.2 c3, s2.1 c2, s1.1 c1, s0.1 c0, if_pos c0, if_pos c1, if_pos c2, if_neg c3]; decide
      · by_cases c3 : 0 < zx_cnt D o 3 (D 0 2)
        · rw [s3.1 c3, s2.2 c2, s1.1 c1, s0.1 c0, if_pos c0, if_pos c1, if_neg c2, if_pos c3]; decide
        · rw [s3.2 c3, s2.2 c2, s1.1 c1, s0.1 c0, if_pos c0, if_pos c1, if_neg c2, if_neg c3]; decide
    · by_cases c2 : 0 < zx_cnt D o 2 (D 0 2)
      · by_cases c3 : 0 < zx_cnt D o 3 (D 0 2)
        · rw [s3.1 c3, s2.1 c2, s1.2 c1, s0.1 c0, if_pos c0, if_neg c1, if_pos c2, if_pos c3]; decide
        · rw [s3.2 c3, s2.1 c2, s1.2 c1, s0.1 c0, if_pos c0, if_neg c1, if_pos c2, if_neg c3]; decide
      · by_cases c3 : 0 < zx_cnt D o 3 (D 0 2)
        · rw [s3.1 c3, s2.2 c2, s1.2 c1, s0.1 c0, if_pos c0, if_neg c1, if_neg c2, if_pos c3]; decide
        · rw [s3.2 c3, s2.2 c2, s1.2 c1, s0.1 c0, if_pos c0, if_neg c1, if_neg c2, if_neg c3]; decide
  · by_cases c1 : 0 < zx_cnt D o 1 (D 0 2)
    · by_cases c2 : 0 < zx_cnt D o 2 (D 0 2)
      · by_cases c3 : 0 < zx_cnt D o 3 (D 0 2)
        · rw [s3.1 c3, s2.1 c2, s1.1 c1, s0.2 c0, if_neg c0, if_pos c1, if_pos c2, if_pos c3]; decide
        · rw [s3.2 c3, s2.1 c2, s1.1 c1, s0.2 c0, if_neg c0, if_pos c1, if_pos c2, if_neg c3]; decide
      · by_cases c3 : 0 < zx_cnt D o 3 (D 0 2)
        · rw [s3.1 c3, s2.2 c2, s1.1 c1, s0.2 c0, if_neg c0, if_pos c1, if_neg c2, if_pos c3]; decide
        · rw [s3.2 c3, s2.2 c2, s1.1 c1, s0.2 c0, if_neg c0, if_pos c1, if_neg c2, if_neg c3]; decide
    · by_cases c2 : 0 < zx_cnt D o 2 (D 0 2)
      · by_cases c3 : 0 < zx_cnt D o 3 (D 0 2)
        · rw [s3.1 c3, s2.1 c2, s1.2 c1, s0.2 c0, if_neg c0, if_neg c1, if_pos c2, if_pos c3]; decide
        · rw [s3.2 c3, s2.1 c2, s1.2 c1, s0.2 c0, if_neg c0, if_neg c1, if_pos c2, if_neg c3]; decide
      · by_cases c3 : 0 < zx_cnt D o 3 (D 0 2)
        · rw [s3.1 c3, s2.2 c2, s1.2 c1, s0.2 c0, if_neg c0, if_neg c1, if_neg c2, if_pos c3]; decide
        · rw [s3.2 c3, s2.2 c2, s1.2 c1, s0.2 c0, if_neg c0, if_neg c1, if_neg c2, if_neg c3]; decide
/-- which FIELDS a form has -/
theorem zm_form_f (D : zq_S) (o : Int) : (zx_form D o = 1 ∨ zx_form D o = 6 → zx_fm D o 4 = 9) ∧ (zx_form D o = 2 ∨ zx_form D o = 5 → zx_fm D o 4 = 3) ∧ (zx_form D o = 3 → zx_fm D o 4 = 7) ∧ (zx_form D o = 4 → zx_fm D o 4 = 11) := by
  unfold zx_form
  repeat' split
  all_goals omega
theorem zx_lm_f {D : zq_S} : ∀ n : Nat, 0 ≤ zx_lm D n → zx_form D (zx_lm D n) = 2 ∧ zx_lm D n < n := by
  intro n
  induction n with
  | zero => intro h; exact absurd h (show ¬ (0 : Int) ≤ -1 by omega)
  | succ n ih =>
    intro h
    rw [show ((n + 1 : Nat) : Int) = (n : Int) + 1 by omega] at h ⊢
    by_cases c : zx_form D n = 2 ∧ (zx_lm D n < 0 ∨ D 7 n < D 7 (zx_lm D n))
    · rw [(zx_lm_s D n (by omega)).1 c]
      exact ⟨c.1, by omega⟩
    · rw [(zx_lm_s D n (by omega)).2 c] at h ⊢
      have q := ih h
      exact ⟨q.1, by omega⟩
section ZMcwW
variable {σ τ D : zq_S}
/-- the bits of a node are the model's -/
theorem zm_cw_w (hH : zm_HH σ D) (hq : 0 ≤ zp_q D) (hI : ∀ i, 0 ≤ i → i < D 0 37 → τ 274 i = zm_It D (D 0 35) i) (e1 : ∀ i, τ (σ 255 1 + 2) i = σ (σ 255 1 + 2) i) (e3 : ∀ i, τ (σ 255 1 + 3) i = σ (σ 255 1 + 3) i) (e4 : ∀ i, τ (σ 255 1 + 4) i = σ (σ 255 1 + 4) i) {j o : Int} (j0 : 0 ≤ j) (j1 : j < D 0 37) (hi : zm_It D (D 0 35) j ≠ -1) (ho : o = zm_o D (zm_C D) (zx_lm D (D 0 3)) j) (f14 : τ (σ 10 o) 14 = σ (σ 10 o) 14) (f2 : τ (σ 10 o) 2 = σ (σ 10 o) 2) (fM : ∀ f, τ (σ 10 o + 1) f = σ (σ 10 o + 1) f) : 0 ≤ o ∧ o < σ 3 3 ∧ zm_cw τ (σ 255 1) j (σ 10 o) = zm_Wt D (D 0 35) j := by
  obtain ⟨hW, hx, hT3, ⟨h31, h254, h36⟩, hV8⟩ := hH
  obtain ⟨f, hf⟩ := hW.2.1
  obtain ⟨n5, n51, n52⟩ := hW.2.2.2.2.2.1
  have g3 := zx_g3 hx
  have g35 := zx_g35 hx
  have gb := zx_g2 hx
  have t33 := hW.1.1
  have Y := zm_Yq (v := D 0 35) hf hW.2.2.2.1 g3.1 n51 (by omega) hq
  have F := zm_F_pr hf hW.2.2.2.1 g3.1
  obtain ⟨pj, mj⟩ := Y.2.2.2.1 j j0 j1 hi
  obtain ⟨F1, F2, F3⟩ := F j j0 j1 pj
  have xb : ∀ i, 0 ≤ i → zm_It D (D 0 35) i = -1 ∨ (0 ≤ zm_It D (D 0 35) i ∧ zm_It D (D 0 35) i < 4096) := fun i i0 => by
    have := Y.2.1 i
    rcases this with z | z
    · exact Or.inl z
    · exact Or.inr ⟨z.1, by have := z.2; unfold zm_It; omega⟩
  have xj := xb j j0
  have w22 := hW.2.2.2.2.1
  have nd := fun {i : Int} (i0 : 0 ≤ i) (i1 : i < D 0 37) => zp_W_nd hW i0 i1
  have ok : 0 ≤ o ∧ o < D 0 3 := by
    rw [ho]
    unfold zm_o
    by_cases k0 : D 21 j = 0
    · rw [if_pos k0]
      have m0 := mj k0
      have q := zx_lm_f (D := D) (D 0 3).toNat
      rw [show (((D 0 3).toNat : Nat) : Int) = D 0 3 by omega] at q
      exact ⟨m0, (q m0).2⟩
    · rw [if_neg k0]; exact F1 k0
  have ort := hT3.2.2.1 o ok.1 ok.2
  have lk := ort.2.1
  have frm := (hW.1.2 o ok.1 (by omega)).1
  have bc := fun {g : Int} (g0 : 0 ≤ g) (g3 : g ≤ 3) => (zu_bc hx lk g0 g3).2
  have mz : ∀ g, 0 ≤ g → g ≤ 3 → ¬ 0 < zx_cnt D o g (D 0 2) → σ (σ 10 o + 1) g = 0 := fun g g0 g3 q => (bc g0 g3).1.mpr (by have := (bc g0 g3).2; omega)
  have hHz : ∀ g, 0 ≤ g → g ≤ 3 → ¬ zu_cH σ (σ 10 o) g = true → σ (σ 10 o + 1) g = 0 := fun g g0 g3 q => by
    by_cases z : σ (σ 10 o + 1) g = 0
    · exact z
    · exact absurd (decide_eq_true z) q
  have fm4 := zm_fm4 D o
  obtain ⟨fa, fb, fc, fd⟩ := zm_form_f D o
  have bits : ∀ V W : Int → Int, (∀ g, 0 ≤ g → g ≤ 3 → 0 < zx_cnt D o g (D 0 2) → (0 ≤ V g ∧ V g < 4096) ∧ W g = V g) → (zu_wf (σ (σ 10 o + 1) 3) (zu_wf (σ (σ 10 o + 1) 2) (zu_wf (σ (σ 10 o + 1) 1) (zu_wf (σ (σ 10 o + 1) 0) (σ (σ 10 o) 2) (V 0) 12).1 (V 1) 12).1 (V 2) 12).1 (V 3) 12).1 = zu_rbt D o W (D 0 2) := fun V W h => by
    rw [← zu_bt_4 (H := zu_cH σ (σ 10 o)) (M := σ (σ 10 o + 1)) (V := V) (b := σ (σ 10 o) 2) hHz]
    exact zu_bits hx lk (fun g g0 g3 q => (h g g0 g3 (of_decide_eq_true q)).1) (fun g g0 g3 q => (h g g0 g3 (of_decide_eq_true q)).2)
  refine ⟨ok.1, by omega, ?_⟩
  by_cases k0 : D 21 j = 0
  · have oe : o = zx_lm D (D 0 3) := by rw [ho]; unfold zm_o; rw [if_pos k0]
    have m0 := mj k0
    have q := zx_lm_f (D := D) (D 0 3).toNat
    rw [show (((D 0 3).toNat : Nat) : Int) = D 0 3 by omega] at q
    have q := (q m0).1
    rw [← oe] at q
    have fm := fb (Or.inl q)
    have wj := (nd j0 j1).2.2.1 (by omega)
    have c23 : ¬ 0 < zx_cnt D o 2 (D 0 2) ∧ ¬ 0 < zx_cnt D o 3 (D 0 2) := by
      rw [fm] at fm4
      constructor <;> intro z <;> (rw [if_pos z] at fm4) <;> (repeat' split at fm4) <;> omega
    have b := bits (zm_v (zm_It D (D 0 35) j) (D 22 j) 0 0) (zm_v (zm_It D (D 0 35) j) (D 22 j) 0 0) (fun g g0 g3 _ => by
      have w := w22 j
      refine ⟨?_, rfl⟩
      unfold zm_v
      repeat' split
      all_goals omega)
    rw [zm_Wt_0 k0, ← oe, ← b, zm_cw_2 (by rw [f14, frm]; exact q), fM, fM, f2, e1, hI j j0 j1, wj]
    rw [zu_wf_m (mz 3 (by decide) (by decide) c23.2), zu_wf_m (mz 2 (by decide) (by decide) c23.1)]
    rfl
  · have oe : o = zm_C D j := by rw [ho]; unfold zm_o; rw [if_neg k0]
    by_cases k1 : D 21 j = 1
    · have q := (F2 k1).1
      rw [← oe] at q
      have fm := fa (Or.inl q)
      have wj := (nd j0 j1).2.2.1 (by omega)
      have c12 : ¬ 0 < zx_cnt D o 1 (D 0 2) ∧ ¬ 0 < zx_cnt D o 2 (D 0 2) := by
        rw [fm] at fm4
        constructor <;> intro z <;> (rw [if_pos z] at fm4) <;> (repeat' split at fm4) <;> omega
      have b := bits (zm_v (zm_It D (D 0 35) j) 0 0 (D 22 j)) (zm_v (zm_It D (D 0 35) j) 0 0 (D 22 j)) (fun g g0 g3 _ => by
        have w := w22 j
        refine ⟨?_, rfl⟩
        unfold zm_v
        repeat' split
        all_goals omega)
      rw [zm_Wt_1 k1, ← oe, ← b, zm_cw_1 (by rw [f14, frm]; exact q), fM, fM, f2, e1, hI j j0 j1, wj]
      rw [zu_wf_m (mz 2 (by decide) (by decide) c12.2), zu_wf_m (mz 1 (by decide) (by decide) c12.1)]
      rfl
    · have k2 : D 21 j = 2 := by have := hW.2.2.2.1 j; omega
      obtain ⟨a1, a2, a3, a4, a5⟩ := F3 k2
      rw [← oe] at a1 a3 a4 a5
      obtain ⟨s1, s2, s3, s4⟩ := zp_W_tr hW j0 j1 k2
      obtain ⟨-, -, nl, nr⟩ := (nd j0 j1).2.2.2 k2
      obtain ⟨yl, yr⟩ := (Y.2.2.1 j j0 j1 k2).1 (by omega) hi
      have ndl := nd s1 (show D 23 j < D 0 37 by omega)
      have ndr := nd s3 (show D 24 j < D 0 37 by omega)
      have fb6 := zx_form_b D o
      have xl : τ 274 (D 23 j) = zm_l D (zm_C D) j (zm_It D (D 0 35) j) := (hI _ s1 (by omega)).trans yl
      have xr : τ 274 (D 24 j) = zm_r D (zm_C D) j (zm_It D (D 0 35) j) := (hI _ s3 (by omega)).trans yr
      have la : zm_ro τ (σ 255 1) (D 23 j) = zm_la D (zm_C D) (zm_It D (D 0 35)) j := by
        unfold zm_ro zm_la
        rw [xl, e1]
        unfold zm_l
        by_cases c : D 21 (D 23 j) = 0 ∧ zx_form D (zm_C D j) < 5
        · rw [if_pos c, if_pos rfl, if_pos c]
          exact ndl.2.2.1 (by omega)
        · rw [if_neg c, if_neg hi, if_neg c]
      have ra : (zx_form D o = 3 ∨ zx_form D o = 5) → zm_ro τ (σ 255 1) (D 24 j) = zm_ra D (zm_C D) (zm_It D (D 0 35)) j := fun q => by
        rw [oe] at q
        unfold zm_ro zm_ra
        rw [xr, e1]
        unfold zm_r
        by_cases c : D 21 (D 24 j) = 0
        · rw [if_neg (fun z => z.2 c), if_pos rfl, if_pos c]
          exact ndr.2.2.1 (by omega)
        · rw [if_pos ⟨q, c⟩, if_neg c]
          by_cases d : D 21 (D 23 j) = 0 ∧ zx_form D (zm_C D j) < 5
          · rw [if_pos d, if_neg hi]
          · rw [if_neg d, if_neg (by omega)]
      have lab : 0 ≤ zm_la D (zm_C D) (zm_It D (D 0 35)) j ∧ zm_la D (zm_C D) (zm_It D (D 0 35)) j < 4096 := by
        have w := w22 (D 23 j)
        unfold zm_la
        split <;> omega
      have rab : 0 ≤ zm_ra D (zm_C D) (zm_It D (D 0 35)) j ∧ zm_ra D (zm_C D) (zm_It D (D 0 35)) j < 4096 := by
        have w := w22 (D 24 j)
        have y := Y.2.1 j
        have z : zm_It D (D 0 35) j < 4000 := by unfold zm_It; unfold zm_It at hi; omega
        unfold zm_ra
        repeat' split
        all_goals omega
      have i4 : (zx_form D o = 4 ∨ zx_form D o = 6) → σ (σ 255 1 + 2) (D 24 j) = D 22 (D 24 j) := fun q => ndr.2.2.1 (by have := (a3 q).1; omega)
      have wr := w22 (D 24 j)
      rw [zm_Wt_2 k2, ← oe]
      by_cases q3 : zx_form D o = 3
      · have fm := fc q3
        have ra := ra (Or.inl q3)
        have c3 : ¬ 0 < zx_cnt D o 3 (D 0 2) := by
          rw [fm] at fm4
          intro z
          rw [if_pos z] at fm4
          repeat' split at fm4
          all_goals omega
        rw [if_pos q3, ← bits (zm_v (zm_It D (D 0 35) j) (zm_la D (zm_C D) (zm_It D (D 0 35)) j) (zm_ra D (zm_C D) (zm_It D (D 0 35)) j) (σ (σ 255 1 + 2) (D 24 j))) _ (fun g g0 g3 gg => by
          rcases (show g = 0 ∨ g = 1 ∨ g = 2 ∨ g = 3 by omega) with z | z | z | z
          · rw [z]; exact ⟨show 0 ≤ zm_It D (D 0 35) j ∧ zm_It D (D 0 35) j < 4096 by omega, rfl⟩
          · rw [z]; exact ⟨lab, rfl⟩
          · rw [z]; exact ⟨rab, rfl⟩
          · rw [z] at gg; exact absurd gg c3)]
        rw [zm_cw_o (by rw [f14, frm]; omega), fM, fM, fM, fM, f2, e3, e4, nl, nr, hI j j0 j1, la, ra, e1]
        rfl
      · rw [if_neg q3]
        by_cases q4 : zx_form D o = 4
        · have fm := fd q4
          have i4 := i4 (Or.inl q4)
          have c2 : ¬ 0 < zx_cnt D o 2 (D 0 2) := by
            rw [fm] at fm4
            intro z
            rw [if_pos z] at fm4
            repeat' split at fm4
            all_goals omega
          rw [if_pos q4, ← bits (zm_v (zm_It D (D 0 35) j) (zm_la D (zm_C D) (zm_It D (D 0 35)) j) (zm_ro τ (σ 255 1) (D 24 j)) (D 22 (D 24 j))) _ (fun g g0 g3 gg => by
            rcases (show g = 0 ∨ g = 1 ∨ g = 2 ∨ g = 3 by omega) with z | z | z | z
            · rw [z]; exact ⟨show 0 ≤ zm_It D (D 0 35) j ∧ zm_It D (D 0 35) j < 4096 by omega, rfl⟩
            · rw [z]; exact ⟨lab, rfl⟩
            · rw [z] at gg; exact absurd gg c2
            · rw [z]; exact ⟨show 0 ≤ D 22 (D 24 j) ∧ D 22 (D 24 j) < 4096 by omega, rfl⟩)]
          rw [zm_cw_o (by rw [f14, frm]; omega), fM, fM, fM, fM, f2, e3, e4, nl, nr, hI j j0 j1, la, e1, i4]
          rfl
        · rw [if_neg q4]
          by_cases q5 : zx_form D o = 5
          · have fm := fb (Or.inr q5)
            have ra := ra (Or.inr q5)
            have c23 : ¬ 0 < zx_cnt D o 2 (D 0 2) ∧ ¬ 0 < zx_cnt D o 3 (D 0 2) := by
              rw [fm] at fm4
              constructor <;> intro z <;> (rw [if_pos z] at fm4) <;> (repeat' split at fm4) <;> omega
            rw [if_pos q5, ← bits (zm_v (zm_It D (D 0 35) j) (zm_ra D (zm_C D) (zm_It D (D 0 35)) j) (zm_ra D (zm_C D) (zm_It D (D 0 35)) j) (σ (σ 255 1 + 2) (D 24 j))) _ (fun g g0 g3 gg => by
              rcases (show g = 0 ∨ g = 1 ∨ g = 2 ∨ g = 3 by omega) with z | z | z | z
              · rw [z]; exact ⟨show 0 ≤ zm_It D (D 0 35) j ∧ zm_It D (D 0 35) j < 4096 by omega, rfl⟩
              · rw [z]; exact ⟨rab, rfl⟩
              · rw [z] at gg; exact absurd gg c23.1
              · rw [z] at gg; exact absurd gg c23.2)]
            rw [zm_cw_5 (by rw [f14, frm]; exact q5), fM, fM, fM, fM, f2, e4, nr, hI j j0 j1, ra, e1]
            rfl
          · rw [if_neg q5]
            have q6 : zx_form D o = 6 := by omega
            have fm := fa (Or.inr q6)
            have i4 := i4 (Or.inr q6)
            have c12 : ¬ 0 < zx_cnt D o 1 (D 0 2) ∧ ¬ 0 < zx_cnt D o 2 (D 0 2) := by
              rw [fm] at fm4
              constructor <;> intro z <;> (rw [if_pos z] at fm4) <;> (repeat' split at fm4) <;> omega
            rw [← bits (zm_v (zm_It D (D 0 35) j) (zm_ro τ (σ 255 1) (D 23 j)) (zm_ro τ (σ 255 1) (D 24 j)) (D 22 (D 24 j))) _ (fun g g0 g3 gg => by
              rcases (show g = 0 ∨ g = 1 ∨ g = 2 ∨ g = 3 by omega) with z | z | z | z
              · rw [z]; exact ⟨show 0 ≤ zm_It D (D 0 35) j ∧ zm_It D (D 0 35) j < 4096 by omega, rfl⟩
              · rw [z] at gg; exact absurd gg c12.1
              · rw [z] at gg; exact absurd gg c12.2
              · rw [z]; exact ⟨show 0 ≤ D 22 (D 24 j) ∧ D 22 (D 24 j) < 4096 by omega, rfl⟩)]
            rw [zm_cw_o (by rw [f14, frm]; omega), fM, fM, fM, fM, f2, e3, e4, nl, nr, hI j j0 j1, e1, i4]
            rfl
end ZMcwW
