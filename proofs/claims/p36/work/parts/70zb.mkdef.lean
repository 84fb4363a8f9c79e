/-! ===== make: which nodes go into which REGISTER ===== -/
section ZMT
variable {K L R f : Int → Int} {N : Int}
/-- nodes of a subtree begin behind its start -/
theorem zm_nestN (ht : zx_tree K L R f N) (k : Nat) : (k : Int) < N → ∀ j : Int, f k ≤ j → j ≤ k → f k ≤ f j := by
  induction k using Nat.strongRecOn with
  | ind k ih =>
    intro h1 j hj hk
    by_cases e : j = (k : Int)
    · rw [e]; exact Int.le_refl _
    · obtain ⟨t0, t1, t2, t3⟩ := ht k (by omega) h1
      by_cases c2 : K k = 2
      · obtain ⟨a1, a2, a3, a4, a5⟩ := t2 c2
        by_cases c : j ≤ L k
        · have q := ih (L k).toNat (by omega) (by omega) j (by rw [show (((L k).toNat : Nat) : Int) = L k by omega, ← a3]; exact hj) (by omega)
          rw [show (((L k).toNat : Nat) : Int) = L k by omega, ← a3] at q
          exact q
        · have q := ih ((k : Int) - 1).toNat (by omega) (by omega) j (by rw [show ((((k : Int) - 1).toNat : Nat) : Int) = (k : Int) - 1 by omega]; omega) (by omega)
          rw [show ((((k : Int) - 1).toNat : Nat) : Int) = (k : Int) - 1 by omega] at q
          have fl := (ht (L k) a4 (by omega)).2.1
          omega
      · have := t3 c2
        omega
theorem zm_nest (ht : zx_tree K L R f N) {m j : Int} (m0 : 0 ≤ m) (m1 : m < N) (hj : f m ≤ j) (hk : j ≤ m) : f m ≤ f j := by
  obtain ⟨k, rfl⟩ := Int.eq_ofNat_of_zero_le m0
  exact zm_nestN ht k m1 j hj hk
/-- sides of two signs are four nodes -/
theorem zm_sep (ht : zx_tree K L R f N) {n m : Int} (n0 : 0 ≤ n) (nm : n < m) (m1 : m < N) (kn : K n = 2) (km : K m = 2) : L m ≠ L n ∧ L m ≠ R n ∧ R m ≠ L n ∧ R m ≠ R n := by
  obtain ⟨s0, s1, s2, -⟩ := ht n n0 (by omega)
  obtain ⟨a1, a2, a3, a4, a5⟩ := s2 kn
  obtain ⟨-, -, u2, -⟩ := ht m (by omega) m1
  obtain ⟨b1, b2, b3, b4, b5⟩ := u2 km
  have fl := (ht (L n) a4 (by omega)).2.1
  by_cases c : n ≤ L m
  · omega
  · have q := zm_nest ht (m := m - 1) (j := n) (by omega) (by omega) (by omega) (by omega)
    omega
end ZMT
/-- the left side's REGISTER; -1: it stays -/
def zm_l (D : zq_S) (C : Int → Int) (n x : Int) : Int := if D 21 (D 23 n) = 0 ∧ zx_form D (C n) < 5 then -1 else x
def zm_r (D : zq_S) (C : Int → Int) (n x : Int) : Int := if (zx_form D (C n) = 3 ∨ zx_form D (C n) = 5) ∧ D 21 (D 24 n) ≠ 0 then (if D 21 (D 23 n) = 0 ∧ zx_form D (C n) < 5 then x else x + 1) else -1
def zm_st (D : zq_S) (C : Int → Int) (I : Int → Int) (n : Int) : Int → Int := fun i => if i = D 24 n ∧ zm_r D C n (I n) ≠ -1 then zm_r D C n (I n) else if i = D 23 n ∧ zm_l D C n (I n) ≠ -1 then zm_l D C n (I n) else I i
def zm_iF (D : zq_S) (C : Int → Int) (v : Int) : Nat → Int → Int
  | 0 => fun i => if i = D 0 37 - 1 then v else -1
  | k + 1 => if zm_iF D C v k (D 0 37 - 1 - k) ≠ -1 ∧ D 21 (D 0 37 - 1 - k) = 2 then zm_st D C (zm_iF D C v k) (D 0 37 - 1 - k) else zm_iF D C v k
/-- behind the nodes from n + 1 on -/
def zm_i (D : zq_S) (C : Int → Int) (v n : Int) : Int → Int := zm_iF D C v (D 0 37 - 1 - n).toNat
/-- the REGISTER of each node's CODE; -1: none -/
def zm_I (D : zq_S) (C : Int → Int) (v : Int) : Int → Int := zm_i D C v (-1)
theorem zm_i_0 (D : zq_S) (C : Int → Int) (v : Int) : zm_i D C v (D 0 37 - 1) = fun i => if i = D 0 37 - 1 then v else -1 := by
  unfold zm_i
  rw [show (D 0 37 - 1 - (D 0 37 - 1)).toNat = 0 by omega]
  rfl
theorem zm_i_e {D : zq_S} {C : Int → Int} {v n : Int} (h : n ≤ D 0 37 - 1) : zm_i D C v (n - 1) = if zm_i D C v n n ≠ -1 ∧ D 21 n = 2 then zm_st D C (zm_i D C v n) n else zm_i D C v n := by
  unfold zm_i
  obtain ⟨k, hk⟩ := Int.eq_ofNat_of_zero_le (show 0 ≤ D 0 37 - 1 - n by omega)
  rw [show (D 0 37 - 1 - (n - 1)).toNat = k + 1 by omega, show (D 0 37 - 1 - n).toNat = k by omega]
  show (if zm_iF D C v k (D 0 37 - 1 - k) ≠ -1 ∧ D 21 (D 0 37 - 1 - k) = 2 then zm_st D C (zm_iF D C v k) (D 0 37 - 1 - k) else zm_iF D C v k) = _
  rw [show D 0 37 - 1 - (k : Int) = n by omega]
theorem zm_i_y {D : zq_S} {C : Int → Int} {v n : Int} (h : n ≤ D 0 37 - 1) (hc : zm_i D C v n n ≠ -1 ∧ D 21 n = 2) : zm_i D C v (n - 1) = zm_st D C (zm_i D C v n) n := by rw [zm_i_e h, if_pos hc]
theorem zm_i_n {D : zq_S} {C : Int → Int} {v n : Int} (h : n ≤ D 0 37 - 1) (hc : ¬ (zm_i D C v n n ≠ -1 ∧ D 21 n = 2)) : zm_i D C v (n - 1) = zm_i D C v n := by rw [zm_i_e h, if_neg hc]
/-- what the chosen ORDERS keep: P prices -/
def zm_F (D : zq_S) (C P : Int → Int) (mv : Int) : Prop := ∀ j, 0 ≤ j → j < D 0 37 → 0 ≤ P j → (D 21 j ≠ 0 → 0 ≤ C j ∧ C j < D 0 3) ∧ (D 21 j = 1 → zx_form D (C j) = 1 ∧ zp_rm D (C j) j = true) ∧ (D 21 j = 2 → 3 ≤ zx_form D (C j) ∧ 0 ≤ P (D 23 j) ∧ ((zx_form D (C j) = 4 ∨ zx_form D (C j) = 6) → D 21 (D 24 j) = 1 ∧ zp_rm D (C j) (D 24 j) = true) ∧ ((zx_form D (C j) = 3 ∨ zx_form D (C j) = 5) → 0 ≤ P (D 24 j)) ∧ (5 ≤ zx_form D (C j) → D 21 (D 23 j) = 0 → 0 ≤ mv))
/-- what is known of the REGISTERS when the nodes behind n are done -/
def zm_Y (D : zq_S) (C P I : Int → Int) (mv v n : Int) : Prop :=
  I (D 0 37 - 1) = v ∧ (∀ j, I j = -1 ∨ (0 ≤ I j ∧ I j ≤ v + (D 0 37 - 1 - j))) ∧
  (∀ j, 0 ≤ j → j < D 0 37 → D 21 j = 2 → (n < j → I j ≠ -1 → I (D 23 j) = zm_l D C j (I j) ∧ I (D 24 j) = zm_r D C j (I j)) ∧ (n < j → I j = -1 → I (D 23 j) = -1 ∧ I (D 24 j) = -1) ∧ (j ≤ n → I (D 23 j) = -1 ∧ I (D 24 j) = -1)) ∧
  (∀ j, 0 ≤ j → j < D 0 37 → I j ≠ -1 → 0 ≤ P j ∧ (D 21 j = 0 → 0 ≤ mv)) ∧
  (∀ j, I j ≠ -1 → ∀ g, zx_tree (D 21) (D 23) (D 24) g (D 0 37) → g (D 0 37 - 1) ≤ j ∧ j ≤ D 0 37 - 1)
theorem zm_lr_b (D : zq_S) (C : Int → Int) (n x : Int) : (zm_l D C n x = -1 ∨ zm_l D C n x = x) ∧ (zm_r D C n x = -1 ∨ zm_r D C n x = x ∨ zm_r D C n x = x + 1) := by
  unfold zm_l zm_r
  repeat' split
  all_goals omega
theorem zm_Y_0 {D : zq_S} {C P : Int → Int} {mv v : Int} {f : Int → Int} (ht : zx_tree (D 21) (D 23) (D 24) f (D 0 37)) (h37 : 1 ≤ D 0 37) (hv : 0 ≤ v) (hp : 0 ≤ P (D 0 37 - 1)) (hm : D 21 (D 0 37 - 1) = 0 → 0 ≤ mv) : zm_Y D C P (fun i => if i = D 0 37 - 1 then v else -1) mv v (D 0 37 - 1) := by
  refine ⟨if_pos rfl, fun j => ?_, fun j j0 j1 k2 => ⟨fun h => absurd h (by omega), fun h => absurd h (by omega), fun _ => ?_⟩, fun j j0 j1 hj => ?_, fun j hj g hg => ?_⟩
  · by_cases c : j = D 0 37 - 1
    · refine Or.inr ?_
      show 0 ≤ (if j = D 0 37 - 1 then v else -1) ∧ (if j = D 0 37 - 1 then v else -1) ≤ v + (D 0 37 - 1 - j)
      rw [if_pos c]
      omega
    · exact Or.inl (if_neg c)
  · have a := (ht j j0 j1).2.2.1 k2
    exact ⟨if_neg (by omega), if_neg (by omega)⟩
  · by_cases c : j = D 0 37 - 1
    · rw [c]; exact ⟨hp, hm⟩
    · exact absurd (if_neg c) hj
  · by_cases c : j = D 0 37 - 1
    · rw [c]; exact ⟨(hg _ (by omega) (by omega)).2.1, Int.le_refl _⟩
    · exact absurd (if_neg c) hj
theorem zm_Y_s {D : zq_S} {C P I : Int → Int} {mv v n : Int} {f : Int → Int} (ht : zx_tree (D 21) (D 23) (D 24) f (D 0 37)) (hF : zm_F D C P mv) (n0 : 0 ≤ n) (n1 : n ≤ D 0 37 - 1) (h : zm_Y D C P I mv v n) : zm_Y D C P (if I n ≠ -1 ∧ D 21 n = 2 then zm_st D C I n else I) mv v (n - 1) := by
  obtain ⟨h1, h2, h3, h4, h5⟩ := h
  by_cases hc : I n ≠ -1 ∧ D 21 n = 2
  · rw [if_pos hc]
    have a := (ht n n0 (by omega)).2.2.1 hc.2
    have x0 : 0 ≤ I n ∧ I n ≤ v + (D 0 37 - 1 - n) := by have := h2 n; omega
    obtain ⟨bl, br⟩ := zm_lr_b D C n (I n)
    obtain ⟨pn, -⟩ := h4 n n0 (by omega) hc.1
    obtain ⟨-, -, f3⟩ := hF n n0 (by omega) pn
    obtain ⟨g1, g2, g3, g4, g5⟩ := f3 hc.2
    have oth : ∀ i, i ≠ D 23 n → i ≠ D 24 n → zm_st D C I n i = I i := fun i i1 i2 => by
      unfold zm_st
      rw [if_neg (fun q => i2 q.1), if_neg (fun q => i1 q.1)]
    have d3 := (h3 n n0 (by omega) hc.2).2.2 (Int.le_refl _)
    have el : zm_st D C I n (D 23 n) = zm_l D C n (I n) := by
      unfold zm_st
      rw [if_neg (fun q => absurd q.1 (by omega))]
      by_cases c : zm_l D C n (I n) = -1
      · rw [if_neg (fun q => q.2 c), c]; exact d3.1
      · rw [if_pos ⟨rfl, c⟩]
    have er : zm_st D C I n (D 24 n) = zm_r D C n (I n) := by
      unfold zm_st
      by_cases c : zm_r D C n (I n) = -1
      · rw [if_neg (fun q => q.2 c), if_neg (fun q => absurd q.1 (by omega)), c]; exact d3.2
      · rw [if_pos ⟨rfl, c⟩]
    have en : zm_st D C I n n = I n := oth n (by omega) (by omega)
    refine ⟨by rw [oth _ (by omega) (by omega)]; exact h1, fun j => ?_, fun j j0 j1 k2 => ?_, fun j j0 j1 hj => ?_, fun j hj g hg => ?_⟩
    · by_cases c1 : j = D 23 n
      · rw [c1, el]; omega
      · by_cases c2 : j = D 24 n
        · rw [c2, er]; omega
        · rw [oth j c1 c2]; exact h2 j
    · by_cases c : j = n
      · rw [c]
        refine ⟨fun _ _ => by rw [el, er, en]; exact ⟨rfl, rfl⟩, fun _ q => absurd (en.symm.trans q) hc.1, fun q => absurd q (by omega)⟩
      · have ej : zm_st D C I n j = I j ∨ j < n := by
          by_cases cj : j < n
          · exact Or.inr cj
          · exact Or.inl (oth j (by omega) (by omega))
        have sp : D 23 j ≠ D 23 n ∧ D 23 j ≠ D 24 n ∧ D 24 j ≠ D 23 n ∧ D 24 j ≠ D 24 n := by
          by_cases cj : j < n
          · have s := zm_sep ht j0 cj (by omega) k2 hc.2
            exact ⟨fun q => s.1 q.symm, fun q => s.2.2.1 q.symm, fun q => s.2.1 q.symm, fun q => s.2.2.2 q.symm⟩
          · exact zm_sep ht n0 (by omega) j1 hc.2 k2
        rw [oth _ sp.1 sp.2.1, oth _ sp.2.2.1 sp.2.2.2]
        obtain ⟨y1, y2, y3⟩ := h3 j j0 j1 k2
        refine ⟨fun q1 q2 => ?_, fun q1 q2 => ?_, fun q => y3 (by omega)⟩
        · rcases ej with e | e
          · rw [e] at q2 ⊢
            exact y1 (by omega) q2
          · omega
        · rcases ej with e | e
          · rw [e] at q2
            exact y2 (by omega) q2
          · omega
    · by_cases c1 : j = D 23 n
      · refine ⟨by rw [c1]; exact g2, fun q => ?_⟩
        rw [c1] at q hj
        rw [el] at hj
        refine g5 ?_ q
        by_cases c5 : zx_form D (C n) < 5
        · exact absurd (show zm_l D C n (I n) = -1 from if_pos ⟨q, c5⟩) hj
        · omega
      · by_cases c2 : j = D 24 n
        · rw [c2] at hj ⊢
          rw [er] at hj
          by_cases c3 : (zx_form D (C n) = 3 ∨ zx_form D (C n) = 5) ∧ D 21 (D 24 n) ≠ 0
          · exact ⟨g4 c3.1, fun q => absurd q c3.2⟩
          · exact absurd (show zm_r D C n (I n) = -1 from if_neg c3) hj
        · rw [oth j c1 c2] at hj
          exact h4 j j0 j1 hj
    · have q := h5 n hc.1 g hg
      have ns := zm_nest hg (m := D 0 37 - 1) (j := n) (by omega) (by omega) q.1 q.2
      have gl := (hg n n0 (by omega)).2.2.1 hc.2
      have gll := (hg (D 23 n) gl.2.2.2.1 (by omega)).2.1
      by_cases c1 : j = D 23 n
      · omega
      · by_cases c2 : j = D 24 n
        · omega
        · rw [oth j c1 c2] at hj
          exact h5 j hj g hg
  · rw [if_neg hc]
    refine ⟨h1, h2, fun j j0 j1 k2 => ?_, h4, h5⟩
    obtain ⟨y1, y2, y3⟩ := h3 j j0 j1 k2
    by_cases c : j = n
    · rw [c] at k2 y3 ⊢
      have z := y3 (Int.le_refl _)
      have i1 : I n = -1 := by
        by_cases q : I n = -1
        · exact q
        · exact absurd ⟨q, k2⟩ hc
      exact ⟨fun _ q => absurd i1 q, fun _ _ => z, fun q => absurd q (by omega)⟩
    · exact ⟨fun q => y1 (by omega), fun q => y2 (by omega), fun q => y3 (by omega)⟩
theorem zm_Y_i {D : zq_S} {C P : Int → Int} {mv v : Int} {f : Int → Int} (ht : zx_tree (D 21) (D 23) (D 24) f (D 0 37)) (hF : zm_F D C P mv) (h37 : 1 ≤ D 0 37) (hv : 0 ≤ v) (hp : 0 ≤ P (D 0 37 - 1)) (hm : D 21 (D 0 37 - 1) = 0 → 0 ≤ mv) : ∀ k : Nat, (k : Int) ≤ D 0 37 → zm_Y D C P (zm_i D C v (D 0 37 - 1 - k)) mv v (D 0 37 - 1 - k) := by
  intro k
  induction k with
  | zero =>
    intro _
    rw [show D 0 37 - 1 - ((0 : Nat) : Int) = D 0 37 - 1 by omega, zm_i_0]
    exact zm_Y_0 ht h37 hv hp hm
  | succ k ih =>
    intro h
    have q := zm_Y_s ht hF (by omega) (by omega) (ih (by omega))
    rw [show D 0 37 - 1 - ((k + 1 : Nat) : Int) = D 0 37 - 1 - (k : Int) - 1 by omega, zm_i_e (by omega)]
    exact q
/-- all nodes done -/
theorem zm_Y_I {D : zq_S} {C P : Int → Int} {mv v : Int} {f : Int → Int} (ht : zx_tree (D 21) (D 23) (D 24) f (D 0 37)) (h37 : 1 ≤ D 0 37) (hF : zm_F D C P mv) (hv : 0 ≤ v) (hp : 0 ≤ P (D 0 37 - 1)) (hm : D 21 (D 0 37 - 1) = 0 → 0 ≤ mv) : zm_Y D C P (zm_I D C v) mv v (-1) := by
  have q := zm_Y_i ht hF h37 hv hp hm (D 0 37).toNat (by omega)
  rw [show D 0 37 - 1 - (((D 0 37).toNat : Nat) : Int) = -1 by omega] at q
  exact q
/-! ===== make: what is put, node by node ===== -/
def zm_nF (I : Int → Int) : Nat → Int
  | 0 => 0
  | k + 1 => if I k ≠ -1 then zm_nF I k + 1 else zm_nF I k
/-- how many nodes ahead of p have CODE -/
def zm_n (I : Int → Int) (p : Int) : Int := zm_nF I p.toNat
theorem zm_n_0 (I : Int → Int) : zm_n I 0 = 0 := rfl
theorem zm_n_y {I : Int → Int} {p : Int} (h : 0 ≤ p) (hI : I p ≠ -1) : zm_n I (p + 1) = zm_n I p + 1 := by
  obtain ⟨k, rfl⟩ := Int.eq_ofNat_of_zero_le h
  show (if I k ≠ -1 then zm_nF I k + 1 else zm_nF I k) = zm_nF I k + 1
  rw [if_pos hI]
theorem zm_n_n {I : Int → Int} {p : Int} (h : 0 ≤ p) (hI : I p = -1) : zm_n I (p + 1) = zm_n I p := by
  obtain ⟨k, rfl⟩ := Int.eq_ofNat_of_zero_le h
  show (if I k ≠ -1 then zm_nF I k + 1 else zm_nF I k) = zm_nF I k
  rw [if_neg (fun q => q hI)]
theorem zm_n_b (I : Int → Int) {p : Int} (h : 0 ≤ p) : 0 ≤ zm_n I p ∧ zm_n I p ≤ p := by
  obtain ⟨k, rfl⟩ := Int.eq_ofNat_of_zero_le h
  induction k with
  | zero => exact ⟨Int.le_refl _, Int.le_refl _⟩
  | succ k ih =>
    have q := ih (by omega)
    rw [show ((k + 1 : Nat) : Int) = (k : Int) + 1 by omega]
    by_cases c : I k = -1
    · rw [zm_n_n (by omega) c]; omega
    · rw [zm_n_y (by omega) c]; omega
def zm_mF (I w : Int → Int) : Nat → Int → Int
  | 0 => fun _ => 0
  | k + 1 => fun i => if I k ≠ -1 ∧ i = zm_nF I k then w k else zm_mF I w k i
/-- CODE of the nodes ahead of p, one behind the other -/
def zm_m (I w : Int → Int) (p i : Int) : Int := zm_mF I w p.toNat i
def zm_E (I w : Int → Int) (M : Int → Int) (p : Int) : Prop := ∀ i, 0 ≤ i → i < zm_n I p → M i = zm_m I w p i
theorem zm_E_0 (I w M : Int → Int) : zm_E I w M 0 := fun i i0 i1 => absurd i1 (by rw [zm_n_0]; omega)
theorem zm_E_y {I w M M' : Int → Int} {p : Int} (h : 0 ≤ p) (hI : I p ≠ -1) (hs : M' (zm_n I p) = w p) (ho : ∀ i, i ≠ zm_n I p → M' i = M i) (hE : zm_E I w M p) : zm_E I w M' (p + 1) := fun i i0 i1 => by
  rw [zm_n_y h hI] at i1
  obtain ⟨k, rfl⟩ := Int.eq_ofNat_of_zero_le h
  show M' i = if I k ≠ -1 ∧ i = zm_nF I k then w k else zm_mF I w k i
  by_cases c : i = zm_n I k
  · rw [if_pos ⟨hI, c⟩, c]; exact hs
  · rw [if_neg (fun q => c q.2), ho i c]
    exact hE i i0 (by omega)
theorem zm_E_n {I w M : Int → Int} {p : Int} (h : 0 ≤ p) (hI : I p = -1) (hE : zm_E I w M p) : zm_E I w M (p + 1) := fun i i0 i1 => by
  rw [zm_n_n h hI] at i1
  obtain ⟨k, rfl⟩ := Int.eq_ofNat_of_zero_le h
  show M i = if I k ≠ -1 ∧ i = zm_nF I k then w k else zm_mF I w k i
  rw [if_neg (fun q => q.1 hI)]
  exact hE i i0 i1
/-- there are REGISTERS for all nodes ahead of p -/
def zm_G (I : Int → Int) (g p : Int) : Prop := ∀ j, 0 ≤ j → j < p → I j ≠ -1 → I j < g
theorem zm_G_0 (I : Int → Int) (g : Int) : zm_G I g 0 := fun j j0 j1 => absurd j1 (by omega)
theorem zm_G_s {I : Int → Int} {g p : Int} (h : zm_G I g p) (hp : I p ≠ -1 → I p < g) : zm_G I g (p + 1) := fun j j0 j1 hj => by
  by_cases c : j = p
  · rw [c] at hj ⊢; exact hp hj
  · exact h j j0 (by omega) hj
def zm_v (a b c d : Int) : Int → Int := fun i => if i = 0 then a else if i = 1 then b else if i = 2 then c else d
def zm_la (D : zq_S) (C I : Int → Int) (j : Int) : Int := if D 21 (D 23 j) = 0 ∧ zx_form D (C j) < 5 then D 22 (D 23 j) else I j
def zm_ra (D : zq_S) (C I : Int → Int) (j : Int) : Int := if D 21 (D 24 j) = 0 then D 22 (D 24 j) else if D 21 (D 23 j) = 0 ∧ zx_form D (C j) < 5 then I j else I j + 1
/-- the ORDER and the numbers of a node's CODE -/
def zm_o (D : zq_S) (C : Int → Int) (mv j : Int) : Int := if D 21 j = 0 then mv else C j
def zm_nu (D : zq_S) (C I : Int → Int) (j : Int) : Int → Int :=
  if D 21 j = 0 then zm_v (I j) (D 22 j) 0 0 else if D 21 j = 1 then zm_v (I j) 0 0 (D 22 j) else
  if zx_form D (C j) = 3 then zm_v (I j) (zm_la D C I j) (zm_ra D C I j) 0 else if zx_form D (C j) = 4 then zm_v (I j) (zm_la D C I j) 0 (D 22 (D 24 j)) else
  if zx_form D (C j) = 5 then zm_v (I j) (zm_ra D C I j) 0 0 else zm_v (I j) 0 0 (D 22 (D 24 j))
def zm_w (D : zq_S) (C I : Int → Int) (mv j : Int) : Int := zu_rbt D (zm_o D C mv j) (zm_nu D C I j) (D 0 2)

