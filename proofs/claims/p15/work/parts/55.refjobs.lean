/-! ===== the reference: jobs, one on another ===== -/
/-- where the work stands, by the job at t -/
def zx_pt (σ : zq_S) (f : Int → Int) (t : Int) : Int := if σ 36 t = 0 then f (σ 34 t) else if σ 36 t = 1 then σ 23 (σ 34 t) + 1 else σ 34 t
def zx_J1 (σ : zq_S) (i : Int) : Prop := 0 ≤ σ 34 i ∧ σ 34 i < σ 0 37 ∧ σ 21 (σ 34 i) ≠ 0 ∧ 0 ≤ σ 31 (σ 34 i) ∧ σ 34 i + i ≤ 38 ∧ 0 ≤ σ 36 i ∧ σ 36 i ≤ 2 ∧ zq_hid (σ 36 i ≠ 0 → σ 21 (σ 34 i) = 2)
def zx_J2 (σ : zq_S) (i : Int) : Prop := (σ 36 i = 1 ∧ σ 34 (i + 1) = σ 23 (σ 34 i)) ∨ (σ 36 i = 2 ∧ σ 34 (i + 1) = σ 24 (σ 34 i))
def zx_J (σ : zq_S) (f : Int → Int) (p : Int) : Prop := (∀ i, 0 ≤ i → i < σ 0 59 → zx_J1 σ i) ∧ (∀ i, 0 ≤ i → i + 1 < σ 0 59 → zx_J2 σ i) ∧ (0 < σ 0 59 → p = zx_pt σ f (σ 0 59 - 1)) ∧ σ 0 54 ≤ p ∧ p ≤ σ 0 37
def zx_mu (σ : zq_S) (p : Int) : Int := 100 * (σ 0 37 - p) + (if 0 < σ 0 59 then σ 34 (σ 0 59 - 1) else 0)
def zx_js (σ τ : zq_S) : Prop := (∀ i, τ 21 i = σ 21 i) ∧ (∀ i, τ 23 i = σ 23 i) ∧ (∀ i, τ 24 i = σ 24 i) ∧ (∀ i, τ 31 i = σ 31 i) ∧ τ 0 37 = σ 0 37
theorem zx_J1_fr {σ τ : zq_S} {i : Int} (hs : zx_js σ τ) (h34 : τ 34 i = σ 34 i) (h36 : τ 36 i = σ 36 i) (h : zx_J1 σ i) : zx_J1 τ i := by
  obtain ⟨s1, s2, s3, s4, s5⟩ := hs
  unfold zx_J1
  rw [h34, h36, s1, s4, s5]
  exact h
theorem zx_J2_fr {σ τ : zq_S} {i : Int} (hs : zx_js σ τ) (h34 : τ 34 i = σ 34 i) (h34b : τ 34 (i + 1) = σ 34 (i + 1)) (h36 : τ 36 i = σ 36 i) (h : zx_J2 σ i) : zx_J2 τ i := by
  obtain ⟨s1, s2, s3, s4, s5⟩ := hs
  unfold zx_J2
  rw [h34, h34b, h36, s2, s3]
  exact h
theorem zx_J_pop {σ τ : zq_S} {f : Int → Int} {p : Int} (hs : zx_js σ τ) (ht : zx_tree (σ 21) (σ 23) (σ 24) f (σ 0 37)) (hJ : zx_J σ f p) (hpos : 1 ≤ σ 0 59) (h59 : τ 0 59 = σ 0 59 - 1) (h34 : ∀ i, τ 34 i = σ 34 i) (h36 : ∀ i, i ≠ σ 0 59 - 1 → τ 36 i = σ 36 i) (hp : p ≤ σ 34 (σ 0 59 - 1)) (hM : τ 0 54 ≤ p + 1) : ∃ p2, zx_J τ f p2 ∧ zx_mu τ p2 < zx_mu σ p := by
  obtain ⟨g1, g2, g3, g4, g5⟩ := hJ
  have top := g1 (σ 0 59 - 1) (by omega) (by omega)
  have t1 := top.1
  have t2 := top.2.1
  have t3 := top.2.2.2.2.1
  refine ⟨σ 34 (σ 0 59 - 1) + 1, ⟨fun i h0 h1 => zx_J1_fr hs (h34 i) (h36 i (by omega)) (g1 i h0 (by omega)), fun i h0 h1 => zx_J2_fr hs (h34 i) (h34 _) (h36 i (by omega)) (g2 i h0 (by omega)), fun h0 => ?_, by omega, by have := hs.2.2.2.2; omega⟩, ?_⟩
  · rw [h59] at h0 ⊢
    have q := g2 (σ 0 59 - 1 - 1) (by omega) (by omega)
    have j := g1 (σ 0 59 - 1 - 1) (by omega) (by omega)
    have e : σ 0 59 - 1 - 1 + 1 = σ 0 59 - 1 := by omega
    unfold zx_J2 at q
    rw [e] at q
    unfold zx_pt
    rw [h34, h36 (σ 0 59 - 1 - 1) (by omega), hs.2.1]
    rcases q with ⟨q1, q2⟩ | ⟨q1, q2⟩
    · rw [if_neg (by omega), if_pos q1, q2]
    · rw [if_neg (by omega), if_neg (by omega)]
      have hk : σ 21 (σ 34 (σ 0 59 - 1 - 1)) = 2 := j.2.2.2.2.2.2.2 (by omega)
      have := ((ht _ j.1 j.2.1).2.2.1 hk).1
      omega
  · unfold zx_mu
    rw [hs.2.2.2.2, if_pos (show 0 < σ 0 59 by omega)]
    by_cases hc : 0 < τ 0 59
    · rw [if_pos hc, h34, h59]
      have j := g1 (σ 0 59 - 1 - 1) (by omega) (by omega)
      have j1 := j.2.2.2.2.1
      omega
    · rw [if_neg hc]
      omega
theorem zx_J_stay0 {σ τ : zq_S} {f : Int → Int} {p : Int} (hs : zx_js σ τ) (ht : zx_tree (σ 21) (σ 23) (σ 24) f (σ 0 37)) (hJ : zx_J σ f p) (hpos : 1 ≤ σ 0 59) (h59 : τ 0 59 = σ 0 59) (h34 : ∀ i, τ 34 i = σ 34 i) (h36 : ∀ i, i ≠ σ 0 59 - 1 → τ 36 i = σ 36 i) (hst : τ 36 (σ 0 59 - 1) = 1) (hs0 : σ 36 (σ 0 59 - 1) = 0) (hk : σ 21 (σ 34 (σ 0 59 - 1)) = 2) (hl : σ 21 (σ 23 (σ 34 (σ 0 59 - 1))) = 0) (hM : τ 0 54 ≤ σ 0 54 + 1) : ∃ p2, zx_J τ f p2 ∧ zx_mu τ p2 < zx_mu σ p := by
  obtain ⟨g1, g2, g3, g4, g5⟩ := hJ
  have top := g1 (σ 0 59 - 1) (by omega) (by omega)
  obtain ⟨t1, t2, t3, t4, t5, t6, t7, t8⟩ := top
  obtain ⟨b1, b2, b3, -⟩ := ht _ t1 t2
  obtain ⟨a1, a2, a3, a4, a5⟩ := b3 hk
  have hp := g3 (by omega)
  unfold zx_pt at hp
  rw [if_pos hs0, a3] at hp
  have hL := (ht _ a4 (by omega)).2.2.2 (by omega)
  refine ⟨σ 23 (σ 34 (σ 0 59 - 1)) + 1, ⟨fun i h0 h1 => ?_, fun i h0 h1 => ?_, fun h0 => ?_, by omega, by have := hs.2.2.2.2; omega⟩, ?_⟩
  · by_cases hc : i = σ 0 59 - 1
    · subst hc
      refine ⟨by rw [h34]; exact t1, by rw [h34, hs.2.2.2.2]; exact t2, by rw [h34, hs.1]; exact t3, by rw [h34, hs.2.2.2.1]; exact t4, by rw [h34]; exact t5, by omega, by omega, fun _ => by rw [h34, hs.1]; exact hk⟩
    · exact zx_J1_fr hs (h34 i) (h36 i hc) (g1 i h0 (by omega))
  · exact zx_J2_fr hs (h34 i) (h34 _) (h36 i (by omega)) (g2 i h0 (by omega))
  · rw [h59]
    unfold zx_pt
    rw [hst, if_neg (by decide), if_pos rfl, h34, hs.2.1]
  · unfold zx_mu
    rw [hs.2.2.2.2, h59, if_pos (show 0 < σ 0 59 by omega), h34]
    omega
theorem zx_J_stay1 {σ τ : zq_S} {f : Int → Int} {p : Int} (hs : zx_js σ τ) (ht : zx_tree (σ 21) (σ 23) (σ 24) f (σ 0 37)) (hJ : zx_J σ f p) (hpos : 1 ≤ σ 0 59) (h59 : τ 0 59 = σ 0 59) (h34 : ∀ i, τ 34 i = σ 34 i) (h36 : ∀ i, i ≠ σ 0 59 - 1 → τ 36 i = σ 36 i) (hst : τ 36 (σ 0 59 - 1) = 2) (hs0 : σ 36 (σ 0 59 - 1) = 1) (hM : τ 0 54 = σ 0 54) : ∃ p2, zx_J τ f p2 ∧ zx_mu τ p2 < zx_mu σ p := by
  obtain ⟨g1, g2, g3, g4, g5⟩ := hJ
  have top := g1 (σ 0 59 - 1) (by omega) (by omega)
  obtain ⟨t1, t2, t3, t4, t5, t6, t7, t8⟩ := top
  have hk : σ 21 (σ 34 (σ 0 59 - 1)) = 2 := t8 (by omega)
  obtain ⟨b1, b2, b3, -⟩ := ht _ t1 t2
  obtain ⟨a1, a2, a3, a4, a5⟩ := b3 hk
  have hp := g3 (by omega)
  unfold zx_pt at hp
  rw [if_neg (by omega), if_pos hs0] at hp
  refine ⟨σ 34 (σ 0 59 - 1), ⟨fun i h0 h1 => ?_, fun i h0 h1 => ?_, fun h0 => ?_, by omega, by have := hs.2.2.2.2; omega⟩, ?_⟩
  · by_cases hc : i = σ 0 59 - 1
    · subst hc
      refine ⟨by rw [h34]; exact t1, by rw [h34, hs.2.2.2.2]; exact t2, by rw [h34, hs.1]; exact t3, by rw [h34, hs.2.2.2.1]; exact t4, by rw [h34]; exact t5, by omega, by omega, fun _ => by rw [h34, hs.1]; exact hk⟩
    · exact zx_J1_fr hs (h34 i) (h36 i hc) (g1 i h0 (by omega))
  · exact zx_J2_fr hs (h34 i) (h34 _) (h36 i (by omega)) (g2 i h0 (by omega))
  · rw [h59]
    unfold zx_pt
    rw [hst, if_neg (by decide), if_neg (by decide), h34]
  · unfold zx_mu
    rw [hs.2.2.2.2, h59, if_pos (show 0 < σ 0 59 by omega), h34]
    omega
theorem zx_J_push {σ τ : zq_S} {f : Int → Int} {p c : Int} (hs : zx_js σ τ) (ht : zx_tree (σ 21) (σ 23) (σ 24) f (σ 0 37)) (hJ : zx_J σ f p) (hpos : 1 ≤ σ 0 59) (h59 : τ 0 59 = σ 0 59 + 1) (h34 : ∀ i, i ≠ σ 0 59 → τ 34 i = σ 34 i) (hc34 : τ 34 (σ 0 59) = c) (h36 : ∀ i, i ≠ σ 0 59 - 1 → i ≠ σ 0 59 → τ 36 i = σ 36 i) (hc36 : τ 36 (σ 0 59) = 0) (hst : τ 36 (σ 0 59 - 1) = σ 36 (σ 0 59 - 1) + 1) (hk : σ 21 (σ 34 (σ 0 59 - 1)) = 2) (hc : (σ 36 (σ 0 59 - 1) = 0 ∧ c = σ 23 (σ 34 (σ 0 59 - 1))) ∨ (σ 36 (σ 0 59 - 1) = 1 ∧ c = σ 24 (σ 34 (σ 0 59 - 1)))) (hck : σ 21 c ≠ 0) (hcp : 0 ≤ σ 31 c) (hM : τ 0 54 = σ 0 54) : ∃ p2, zx_J τ f p2 ∧ zx_mu τ p2 < zx_mu σ p := by
  obtain ⟨g1, g2, g3, g4, g5⟩ := hJ
  have top := g1 (σ 0 59 - 1) (by omega) (by omega)
  obtain ⟨t1, t2, t3, t4, t5, t6, t7, t8⟩ := top
  obtain ⟨b1, b2, b3, -⟩ := ht _ t1 t2
  obtain ⟨a1, a2, a3, a4, a5⟩ := b3 hk
  have hcn : 0 ≤ c ∧ c < σ 34 (σ 0 59 - 1) := by rcases hc with ⟨-, rfl⟩ | ⟨-, rfl⟩ <;> omega
  have hp := g3 (by omega)
  have hpc : p = f c := by
    unfold zx_pt at hp
    rcases hc with ⟨c1, c2⟩ | ⟨c1, c2⟩
    · rw [if_pos c1, a3] at hp
      rw [c2]; exact hp
    · rw [if_neg (by omega), if_pos c1] at hp
      rw [c2, a1]; omega
  have hs5 := hs.2.2.2.2
  refine ⟨p, ⟨fun i h0 h1 => ?_, fun i h0 h1 => ?_, fun h0 => ?_, by omega, by omega⟩, ?_⟩
  · by_cases hi : i = σ 0 59
    · subst hi
      refine ⟨by rw [hc34]; exact hcn.1, by rw [hc34]; omega, by rw [hc34, hs.1]; exact hck, by rw [hc34, hs.2.2.2.1]; exact hcp, by rw [hc34]; omega, by omega, by omega, fun h => absurd hc36 h⟩
    · by_cases hi2 : i = σ 0 59 - 1
      · subst hi2
        have e := h34 (σ 0 59 - 1) (by omega)
        refine ⟨by rw [e]; exact t1, by rw [e, hs5]; exact t2, by rw [e, hs.1]; exact t3, by rw [e, hs.2.2.2.1]; exact t4, by rw [e]; exact t5, by omega, by omega, fun _ => by rw [e, hs.1]; exact hk⟩
      · exact zx_J1_fr hs (h34 i hi) (h36 i hi2 hi) (g1 i h0 (by omega))
  · by_cases hi2 : i = σ 0 59 - 1
    · subst hi2
      unfold zx_J2
      rw [show σ 0 59 - 1 + 1 = σ 0 59 by omega, hc34, hst, h34 (σ 0 59 - 1) (by omega), hs.2.1, hs.2.2.1]
      rcases hc with ⟨c1, c2⟩ | ⟨c1, c2⟩
      · exact Or.inl ⟨by omega, c2⟩
      · exact Or.inr ⟨by omega, c2⟩
    · exact zx_J2_fr hs (h34 i (by omega)) (h34 _ (by omega)) (h36 i hi2 (by omega)) (g2 i h0 (by omega))
  · rw [h59, show σ 0 59 + 1 - 1 = σ 0 59 by omega]
    unfold zx_pt
    rw [if_pos hc36, hc34]
    exact hpc
  · unfold zx_mu
    rw [hs5, h59, if_pos (show 0 < σ 0 59 by omega), if_pos (by omega), show σ 0 59 + 1 - 1 = σ 0 59 by omega, hc34]
    omega
/-- what is made is bits -/
def zx_MB (σ : zq_S) : Prop := ∀ k, 0 ≤ k → k < σ 0 54 → σ 33 k < zx_p2 (σ 0 2)
theorem zx_MB_fr {σ τ : zq_S} (h33 : ∀ i, τ 33 i = σ 33 i) (h54 : τ 0 54 = σ 0 54) (hb : τ 0 2 = σ 0 2) (h : zx_MB σ) : zx_MB τ := by
  intro k h0 h1
  rw [h33, hb]
  exact h k h0 (by omega)
/-- from the start of make to its first job -/
theorem zx_J_0 {σ : zq_S} {f : Int → Int} (ht : zx_tree (σ 21) (σ 23) (σ 24) f (σ 0 37)) (h37 : 1 ≤ σ 0 37 ∧ σ 0 37 ≤ 39) (h59 : σ 0 59 = 1) (h34 : σ 34 0 = σ 0 37 - 1) (h36 : σ 36 0 = 0) (h54 : σ 0 54 = 0) (hk : σ 21 (σ 0 37 - 1) ≠ 0) (hp : 0 ≤ σ 31 (σ 0 37 - 1)) : zx_J σ f (f (σ 0 37 - 1)) := by
  have hb := ht (σ 0 37 - 1) (by omega) (by omega)
  refine ⟨fun i h0 h1 => ?_, fun i h0 h1 => absurd h1 (by omega), fun _ => ?_, by omega, by omega⟩
  · have hi : i = 0 := by omega
    subst hi
    refine ⟨by omega, by omega, by rw [h34]; exact hk, by rw [h34]; exact hp, by omega, by omega, by omega, fun h => absurd h36 h⟩
  · rw [h59, show (1 : Int) - 1 = 0 from rfl]
    unfold zx_pt
    rw [if_pos h36, h34]
theorem zx_P1h {σ : zq_S} {m j : Int} (h : zx_P1 σ m j) (h1 : 0 ≤ σ 31 j) (h2 : σ 21 j ≠ 0) : 0 ≤ σ 32 j ∧ σ 32 j < σ 0 3 := (h h1 h2).1
theorem zx_P1k {σ : zq_S} {m j : Int} (h : zx_P1 σ m j) (h1 : 0 ≤ σ 31 j) (h2 : σ 21 j ≠ 0) (h3 : ¬ σ 21 j = 1) : 3 ≤ zx_form σ (σ 32 j) ∧ 0 ≤ σ 31 (σ 23 j) ∧ zq_hid (zx_form σ (σ 32 j) = 3 ∨ zx_form σ (σ 32 j) = 5 → 0 ≤ σ 31 (σ 24 j)) ∧ zq_hid (5 ≤ zx_form σ (σ 32 j) → σ 21 (σ 23 j) = 0 → 0 ≤ m) := (h h1 h2).2 h3
theorem zx_J_p1 {σ : zq_S} {f : Int → Int} {p : Int} (ht : zx_tree (σ 21) (σ 23) (σ 24) f (σ 0 37)) (hJ : zx_J σ f p) (hpos : 1 ≤ σ 0 59) (hk : σ 21 (σ 34 (σ 0 59 - 1)) ≠ 2) : p = σ 34 (σ 0 59 - 1) := by
  obtain ⟨g1, g2, g3, g4, g5⟩ := hJ
  obtain ⟨t1, t2, t3, t4, t5, t6, t7, t8⟩ := g1 (σ 0 59 - 1) (by omega) (by omega)
  have h0 : σ 36 (σ 0 59 - 1) = 0 := by
    by_cases hc : σ 36 (σ 0 59 - 1) = 0
    · exact hc
    · exact absurd (t8 hc) hk
  have hp := g3 (by omega)
  unfold zx_pt at hp
  rw [if_pos h0, (ht _ t1 t2).2.2.2 hk] at hp
  exact hp
theorem zx_J_p2 {σ : zq_S} {f : Int → Int} {p : Int} (hJ : zx_J σ f p) (hpos : 1 ≤ σ 0 59) (h2 : σ 36 (σ 0 59 - 1) = 2) : p = σ 34 (σ 0 59 - 1) := by
  have hp := hJ.2.2.1 (by omega)
  unfold zx_pt at hp
  rw [if_neg (by omega), if_neg (by omega)] at hp
  exact hp
theorem zx_mu_nn {σ : zq_S} {f : Int → Int} {p : Int} (hJ : zx_J σ f p) : 0 ≤ zx_mu σ p := by
  obtain ⟨g1, g2, g3, g4, g5⟩ := hJ
  unfold zx_mu
  by_cases hc : 0 < σ 0 59
  · rw [if_pos hc]
    have := (g1 (σ 0 59 - 1) (by omega) (by omega)).1
    omega
  · rw [if_neg hc]
    omega
theorem zx_MB_emit {σ ρ τ : zq_S} {v w : Int} (h : zx_MB σ) (e1 : ρ = zq_up σ 33 (σ 0 54) v) (e2 : τ = zq_up ρ 0 54 w) (hw : w = σ 0 54 + 1) (hv : v < zx_p2 (σ 0 2)) : zx_MB τ := by
  have b2 : τ 0 2 = σ 0 2 := by rw [e2, zq_up_ne (by omega), e1, zq_up_ne (by omega)]
  have b54 : τ 0 54 = σ 0 54 + 1 := by rw [e2, zq_up_same, hw]
  intro k h0 h1
  rw [b2]
  by_cases hc : k = σ 0 54
  · rw [hc, e2, zq_up_ne (by omega), e1, zq_up_same]
    exact hv
  · rw [e2, zq_up_ne (by omega), e1, zq_up_ne (by omega)]
    exact h k h0 (by omega)
def zx_pj (σ τ : zq_S) : Prop := ∀ a i : Int, (a = 2 ∨ a = 3 ∨ a = 5 ∨ a = 6 ∨ a = 7 ∨ a = 21 ∨ a = 23 ∨ a = 24 ∨ a = 31 ∨ a = 32 ∨ (a = 0 ∧ (i = 2 ∨ i = 3 ∨ i = 37))) → τ a i = σ a i
theorem zx_PR_fr2 {σ τ : zq_S} (h : zx_pj σ τ) (hP : zx_PR σ (zx_lm σ (σ 0 3)) (σ 0 37)) : zx_PR τ (zx_lm τ (τ 0 3)) (τ 0 37) := by
  have f2 : ∀ i, τ 2 i = σ 2 i := fun i => h 2 i (by omega)
  have f3 : ∀ i, τ 3 i = σ 3 i := fun i => h 3 i (by omega)
  have f5 : ∀ i, τ 5 i = σ 5 i := fun i => h 5 i (by omega)
  have f6 : ∀ i, τ 6 i = σ 6 i := fun i => h 6 i (by omega)
  have f7 : ∀ i, τ 7 i = σ 7 i := fun i => h 7 i (by omega)
  have fb := h 0 2 (by omega)
  rw [zx_lm_fr f2 f3 f5 f6 f7 fb, h 0 3 (by omega), h 0 37 (by omega)]
  intro j h0 h1
  have := hP j h0 h1
  unfold zx_P1
  rw [h 31 j (by omega), h 32 j (by omega), h 21 j (by omega), h 23 j (by omega), h 24 j (by omega), h 0 3 (by omega), zx_form_fr f2 f3 f5 f6 fb, h 31 _ (by omega), h 31 _ (by omega), h 21 _ (by omega)]
  exact this
