/-! ===== the reference: sums as trees, laid one behind the other ===== -/
/-- n nodes; f: where each node's tree begins -/
def zx_tree (K L R f : Int → Int) (n : Int) : Prop := ∀ j, 0 ≤ j → j < n → 0 ≤ f j ∧ f j ≤ j ∧ (K j = 2 → R j = j - 1 ∧ L j = f (j - 1) - 1 ∧ f j = f (L j) ∧ 0 ≤ L j ∧ L j < R j) ∧ (K j ≠ 2 → f j = j)
theorem zx_tree_fr {K L R K' L' R' f : Int → Int} {n : Int} (hK : ∀ j, 0 ≤ j → j < n → K' j = K j) (hL : ∀ j, 0 ≤ j → j < n → L' j = L j) (hR : ∀ j, 0 ≤ j → j < n → R' j = R j) (h : zx_tree K L R f n) : zx_tree K' L' R' f n := by
  intro j h0 h1
  rw [hK j h0 h1, hL j h0 h1, hR j h0 h1]
  exact h j h0 h1
/-- open levels: what stands at each, down to the bottom -/
def zx_lev (f O : Int → Int) : Nat → Int → Int → Prop
  | 0, b, T => b = 0 ∧ T = 0
  | e + 1, b, T => (0 ≤ O e → O e = b - 1 ∧ zx_lev f O e (f (O e)) (T - 1)) ∧ (O e < 0 → zx_lev f O e b T)
theorem zx_lev_nn {f O : Int → Int} : ∀ {k : Nat} {b T : Int}, zx_lev f O k b T → 0 ≤ T
  | 0, b, T, h => by have := h.2; omega
  | e + 1, b, T, h => by
    by_cases hc : 0 ≤ O e
    · have := zx_lev_nn (h.1 hc).2
      omega
    · exact zx_lev_nn (h.2 (by omega))
theorem zx_lev_fr {f f' O O' : Int → Int} {n : Int} (hf : ∀ j, 0 ≤ j → j < n → f' j = f j ∧ f j ≤ j) : ∀ {k : Nat} {b T : Int}, (∀ e : Nat, e < k → O' e = O e) → b ≤ n → zx_lev f O k b T → zx_lev f' O' k b T
  | 0, b, T, _, _, h => h
  | e + 1, b, T, hO, hb, h => by
    have he := hO e (by omega)
    refine ⟨fun hc => ?_, fun hc => ?_⟩
    · rw [he] at hc ⊢
      have h1 := h.1 hc
      have h2 := hf (O e) hc (by omega)
      refine ⟨h1.1, ?_⟩
      rw [h2.1]
      exact zx_lev_fr hf (fun e' h' => hO e' (by omega)) (by omega) h1.2
    · rw [he] at hc
      exact zx_lev_fr hf (fun e' h' => hO e' (by omega)) hb (h.2 hc)
def zx_QA (σ : zq_S) (d : Int) : Prop := ∃ f, zx_tree (σ 25) (σ 27) (σ 28) f (σ 0 43) ∧ zx_lev f (σ 29) (d.toNat + 1) (σ 0 43) (2 * σ 0 44 - σ 0 43)
def zx_QB (σ : zq_S) (d node : Int) : Prop := node = σ 0 43 - 1 ∧ 0 ≤ node ∧ ∃ f, zx_tree (σ 25) (σ 27) (σ 28) f (σ 0 43) ∧ zx_lev f (σ 29) (d.toNat + 1) (f node) (2 * σ 0 44 - σ 0 43 - 1)
def zx_QC (σ : zq_S) (d : Int) : Prop := 1 ≤ σ 0 43 ∧ σ 29 d = σ 0 43 - 1 ∧ ∃ f, zx_tree (σ 25) (σ 27) (σ 28) f (σ 0 43) ∧ zx_lev f (σ 29) d.toNat (f (σ 0 43 - 1)) (2 * σ 0 44 - σ 0 43 - 1)
/-- what these rest on is as it was -/
def zx_qs (σ τ : zq_S) : Prop := (∀ i, τ 25 i = σ 25 i) ∧ (∀ i, τ 27 i = σ 27 i) ∧ (∀ i, τ 28 i = σ 28 i) ∧ (∀ i, τ 29 i = σ 29 i) ∧ τ 0 43 = σ 0 43 ∧ τ 0 44 = σ 0 44
theorem zx_qs_eq {σ τ : zq_S} (h : zx_qs σ τ) : τ 25 = σ 25 ∧ τ 27 = σ 27 ∧ τ 28 = σ 28 ∧ τ 29 = σ 29 ∧ τ 0 43 = σ 0 43 ∧ τ 0 44 = σ 0 44 := ⟨funext h.1, funext h.2.1, funext h.2.2.1, funext h.2.2.2.1, h.2.2.2.2.1, h.2.2.2.2.2⟩
theorem zx_QA_fr {σ τ : zq_S} (h : zx_qs σ τ) {d : Int} (hQ : zx_QA σ d) : zx_QA τ d := by
  obtain ⟨e1, e2, e3, e4, e5, e6⟩ := zx_qs_eq h
  unfold zx_QA
  rw [e1, e2, e3, e4, e5, e6]
  exact hQ
theorem zx_QC_fr {σ τ : zq_S} (h : zx_qs σ τ) {d : Int} (hQ : zx_QC σ d) : zx_QC τ d := by
  obtain ⟨e1, e2, e3, e4, e5, e6⟩ := zx_qs_eq h
  unfold zx_QC
  rw [e1, e2, e3, e4, e5, e6]
  exact hQ
theorem zx_QA_0 {σ : zq_S} (h1 : σ 0 43 = 0) (h2 : σ 0 44 = 0) (h3 : σ 29 0 = -1) : zx_QA σ 0 := by
  refine ⟨fun j => j, fun j g0 g1 => absurd g1 (by omega), ?_⟩
  show (0 ≤ σ 29 ((0 : Nat) : Int) → _) ∧ (σ 29 ((0 : Nat) : Int) < 0 → _)
  refine ⟨fun h => absurd h (by have : σ 29 ((0 : Nat) : Int) = -1 := h3; omega), fun _ => ⟨by omega, by omega⟩⟩
theorem zx_QA_pre {σ : zq_S} {d : Int} (h : zx_QA σ d) : σ 0 43 ≤ 2 * σ 0 44 := by
  obtain ⟨f, -, h2⟩ := h
  have := zx_lev_nn h2
  omega
theorem zx_QA_open {σ τ : zq_S} {d : Int} (hd : 0 ≤ d) (h25 : ∀ i, τ 25 i = σ 25 i) (h27 : ∀ i, τ 27 i = σ 27 i) (h28 : ∀ i, τ 28 i = σ 28 i) (h43 : τ 0 43 = σ 0 43) (h44 : τ 0 44 = σ 0 44) (h29 : ∀ i, i ≠ d + 1 → τ 29 i = σ 29 i) (hn : τ 29 (d + 1) = -1) (h : zx_QA σ d) : zx_QA τ (d + 1) := by
  obtain ⟨f, h1, h2⟩ := h
  have e1 := funext h25
  have e2 := funext h27
  have e3 := funext h28
  refine ⟨f, ?_, ?_⟩
  · rw [show τ 25 = σ 25 from e1, show τ 27 = σ 27 from e2, show τ 28 = σ 28 from e3, h43]
    exact h1
  · rw [h43, h44, show (d + 1).toNat + 1 = (d.toNat + 1) + 1 by omega]
    have hdn : ((d.toNat + 1 : Nat) : Int) = d + 1 := by omega
    refine ⟨fun hc => absurd hc (by rw [hdn, hn]; omega), fun _ => ?_⟩
    refine zx_lev_fr (n := σ 0 43) (fun j g0 g1 => ⟨rfl, (h1 j g0 g1).2.1⟩) (fun e he => h29 _ (by omega)) (Int.le_refl _) h2
def zx_ex (f : Int → Int) (n v : Int) : Int → Int := fun j => if j = n then v else f j
theorem zx_ex_at (f : Int → Int) (n v : Int) : zx_ex f n v n = v := if_pos rfl
theorem zx_ex_ne {f : Int → Int} {n v j : Int} (h : j ≠ n) : zx_ex f n v j = f j := if_neg h
theorem zx_tree_ext {K L R K' L' R' f : Int → Int} {n v : Int} (h : zx_tree K L R f n) (hn : 0 ≤ n) (hK : ∀ j, j ≠ n → K' j = K j) (hL : ∀ j, j ≠ n → L' j = L j) (hR : ∀ j, j ≠ n → R' j = R j) (hv : 0 ≤ v ∧ v ≤ n) (h2 : K' n = 2 → R' n = n - 1 ∧ L' n = f (n - 1) - 1 ∧ v = f (L' n) ∧ 0 ≤ L' n ∧ L' n < R' n) (h3 : K' n ≠ 2 → v = n) : zx_tree K' L' R' (zx_ex f n v) (n + 1) := by
  intro j g0 g1
  by_cases hc : j = n
  · subst hc
    rw [zx_ex_at]
    refine ⟨hv.1, hv.2, fun hk => ?_, h3⟩
    obtain ⟨a1, a2, a3, a4, a5⟩ := h2 hk
    rw [zx_ex_ne (by omega), zx_ex_ne (by omega)]
    exact ⟨a1, a2, a3, a4, a5⟩
  · rw [zx_ex_ne hc, hK j hc, hL j hc, hR j hc]
    obtain ⟨b1, b2, b3, b4⟩ := h j g0 (by omega)
    refine ⟨b1, b2, fun hk => ?_, b4⟩
    obtain ⟨a1, a2, a3, a4, a5⟩ := b3 hk
    rw [zx_ex_ne (by omega), zx_ex_ne (by omega)]
    exact ⟨a1, a2, a3, a4, a5⟩
theorem zx_QB_leaf {σ τ : zq_S} {d : Int} (h0 : 0 ≤ σ 0 43) (h25 : ∀ i, i ≠ σ 0 43 → τ 25 i = σ 25 i) (h27 : ∀ i, i ≠ σ 0 43 → τ 27 i = σ 27 i) (h28 : ∀ i, i ≠ σ 0 43 → τ 28 i = σ 28 i) (h29 : ∀ i, τ 29 i = σ 29 i) (hk : τ 25 (σ 0 43) ≠ 2) (h43 : τ 0 43 = σ 0 43 + 1) (h44 : τ 0 44 = σ 0 44 + 1) (h : zx_QA σ d) : zx_QB τ d (σ 0 43) := by
  obtain ⟨f, h1, h2⟩ := h
  refine ⟨by omega, h0, zx_ex f (σ 0 43) (σ 0 43), ?_, ?_⟩
  · rw [h43]
    exact zx_tree_ext h1 h0 h25 h27 h28 ⟨h0, Int.le_refl _⟩ (fun q => absurd q hk) (fun _ => rfl)
  · rw [zx_ex_at, h43, h44, show 2 * (σ 0 44 + 1) - (σ 0 43 + 1) - 1 = 2 * σ 0 44 - σ 0 43 by omega]
    exact zx_lev_fr (n := σ 0 43) (fun j g0 g1 => ⟨zx_ex_ne (by omega), (h1 j g0 g1).2.1⟩) (fun e he => h29 _) (Int.le_refl _) h2
theorem zx_QC_put {σ τ : zq_S} {d node : Int} (hd : 0 ≤ d) (hO : σ 29 d < 0) (h25 : ∀ i, τ 25 i = σ 25 i) (h27 : ∀ i, τ 27 i = σ 27 i) (h28 : ∀ i, τ 28 i = σ 28 i) (h43 : τ 0 43 = σ 0 43) (h44 : τ 0 44 = σ 0 44) (h29 : ∀ i, i ≠ d → τ 29 i = σ 29 i) (hn : τ 29 d = node) (h : zx_QB σ d node) : zx_QC τ d := by
  obtain ⟨a1, a2, f, h1, h2⟩ := h
  have hdn : ((d.toNat : Nat) : Int) = d := by omega
  refine ⟨by omega, by omega, f, ?_, ?_⟩
  · rw [show τ 25 = σ 25 from funext h25, show τ 27 = σ 27 from funext h27, show τ 28 = σ 28 from funext h28, h43]
    exact h1
  · have h3 := h2.2 (by rw [hdn]; exact hO)
    rw [h43, h44, ← a1]
    have hb := (h1 node a2 (by omega)).2.1
    exact zx_lev_fr (n := σ 0 43) (fun j g0 g1 => ⟨rfl, (h1 j g0 g1).2.1⟩) (fun e he => h29 _ (by omega)) (by omega) h3
theorem zx_QB_pre {σ : zq_S} {d node : Int} (hd : 0 ≤ d) (hO : 0 ≤ σ 29 d) (h : zx_QB σ d node) : σ 0 43 + 2 ≤ 2 * σ 0 44 := by
  obtain ⟨a1, a2, f, h1, h2⟩ := h
  have hdn : ((d.toNat : Nat) : Int) = d := by omega
  have := zx_lev_nn (h2.1 (by rw [hdn]; exact hO)).2
  omega
theorem zx_QC_add {σ ρ τ : zq_S} {d node : Int} (hd : 0 ≤ d) (hO : 0 ≤ σ 29 d) (h25 : ∀ i, i ≠ σ 0 43 → ρ 25 i = σ 25 i) (h27 : ∀ i, i ≠ σ 0 43 → ρ 27 i = σ 27 i) (h28 : ∀ i, i ≠ σ 0 43 → ρ 28 i = σ 28 i) (h29 : ∀ i, ρ 29 i = σ 29 i) (k25 : ρ 25 (σ 0 43) = 2) (k27 : ρ 27 (σ 0 43) = σ 29 d) (k28 : ρ 28 (σ 0 43) = node) (h43 : ρ 0 43 = σ 0 43 + 1) (h44 : ρ 0 44 = σ 0 44) (e : τ = zq_up ρ 29 d (σ 0 43)) (h : zx_QB σ d node) : zx_QC τ d := by
  obtain ⟨a1, a2, f, h1, h2⟩ := h
  have hdn : ((d.toNat : Nat) : Int) = d := by omega
  have t43 : τ 0 43 = σ 0 43 + 1 := by rw [e, zq_up_ne (by omega), h43]
  have t44 : τ 0 44 = σ 0 44 := by rw [e, zq_up_ne (by omega), h44]
  have t29 : τ 29 d = σ 0 43 := by rw [e, zq_up_same]
  have t25 : τ 25 = ρ 25 := funext fun i => by rw [e, zq_up_ne (by omega)]
  have t27 : τ 27 = ρ 27 := funext fun i => by rw [e, zq_up_ne (by omega)]
  have t28 : τ 28 = ρ 28 := funext fun i => by rw [e, zq_up_ne (by omega)]
  obtain ⟨h3, h4⟩ := h2.1 (by rw [hdn]; exact hO)
  rw [hdn] at h3 h4
  have hb := h1 node a2 (by omega)
  have hc := h1 (σ 29 d) hO (by omega)
  refine ⟨by omega, by omega, zx_ex f (σ 0 43) (f (σ 29 d)), ?_, ?_⟩
  · rw [t25, t27, t28, t43]
    refine zx_tree_ext h1 (by omega) h25 h27 h28 ⟨hc.1, by omega⟩ (fun _ => ?_) (fun q => absurd k25 q)
    rw [k27, k28, ← a1]
    exact ⟨rfl, h3, rfl, hO, by omega⟩
  · rw [t43, t44, show σ 0 43 + 1 - 1 = σ 0 43 by omega, zx_ex_at, show 2 * σ 0 44 - (σ 0 43 + 1) - 1 = 2 * σ 0 44 - σ 0 43 - 1 - 1 by omega]
    exact zx_lev_fr (n := σ 0 43) (fun j g0 g1 => ⟨zx_ex_ne (by omega), (h1 j g0 g1).2.1⟩) (fun e' he => by rw [e, zq_up_ne (by omega), h29]) (by omega) h4
theorem zx_QC_A {σ : zq_S} {d : Int} (hd : 0 ≤ d) (h : zx_QC σ d) : zx_QA σ d := by
  obtain ⟨a1, a2, f, h1, h2⟩ := h
  have hdn : ((d.toNat : Nat) : Int) = d := by omega
  refine ⟨f, h1, ⟨fun _ => ?_, fun hc => absurd hc (by rw [hdn]; omega)⟩⟩
  rw [hdn, a2]
  exact ⟨rfl, h2⟩
theorem zx_QC_close {σ : zq_S} {d : Int} (hd : 0 < d) (h : zx_QC σ d) : zx_QB σ (d - 1) (σ 29 d) := by
  obtain ⟨a1, a2, f, h1, h2⟩ := h
  refine ⟨a2, by omega, f, h1, ?_⟩
  rw [show (d - 1).toNat + 1 = d.toNat by omega, a2]
  exact h2
theorem zx_QC_end {σ : zq_S} (h : zx_QC σ 0) (h20 : σ 0 44 ≤ 20) : 1 ≤ σ 0 43 ∧ σ 0 43 ≤ 39 ∧ ∃ f, zx_tree (σ 25) (σ 27) (σ 28) f (σ 0 43) := by
  obtain ⟨a1, a2, f, h1, h2⟩ := h
  have h3 : f (σ 0 43 - 1) = 0 ∧ 2 * σ 0 44 - σ 0 43 - 1 = 0 := h2
  exact ⟨a1, by omega, f, h1⟩
/-- where a sum is read, it is a tree -/
def zx_U (σ : zq_S) : Prop := σ 0 36 = 1 → 1 ≤ σ 0 37 ∧ ∃ f, zx_tree (σ 21) (σ 23) (σ 24) f (σ 0 37)
theorem zx_U_fr {σ τ : zq_S} (h36 : τ 0 36 = σ 0 36) (h37 : τ 0 37 = σ 0 37) (h21 : ∀ i, τ 21 i = σ 21 i) (h23 : ∀ i, τ 23 i = σ 23 i) (h24 : ∀ i, τ 24 i = σ 24 i) (h : zx_U σ) : zx_U τ := by
  unfold zx_U
  rw [h36, h37, show τ 21 = σ 21 from funext h21, show τ 23 = σ 23 from funext h23, show τ 24 = σ 24 from funext h24]
  exact h
theorem zx_U_0 {σ : zq_S} (h : σ 0 36 = 0) : zx_U σ := fun h1 => absurd h1 (by omega)

