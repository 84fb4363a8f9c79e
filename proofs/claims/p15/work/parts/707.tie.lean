/-! ===== ORDERS as class and reference hold them ===== -/
def zu_nt (c r : Int) : Prop := ∃ x y z : Int, (0 ≤ x ∧ x ≤ 26) ∧ (0 ≤ y ∧ y ≤ 26) ∧ (1 ≤ z ∧ z ≤ 26) ∧ (0 < x → 0 < y) ∧ r = 729 * x + 27 * y + z ∧ c = (if x = 0 then 0 else (96 + x) * 65536) + (if y = 0 then 0 else (96 + y) * 256) + (96 + z)
theorem zu_nt_d {c r : Int} (h : zu_nt c r) : ∃ x y z : Int, (0 ≤ x ∧ x ≤ 26) ∧ (0 ≤ y ∧ y ≤ 26) ∧ (1 ≤ z ∧ z ≤ 26) ∧ (0 < x → 0 < y) ∧ r = 729 * x + 27 * y + z ∧ ((x = 0 ∧ y = 0 ∧ c = 96 + z) ∨ (x = 0 ∧ 0 < y ∧ c = (96 + y) * 256 + (96 + z)) ∨ (0 < x ∧ 0 < y ∧ c = (96 + x) * 65536 + (96 + y) * 256 + (96 + z))) := by
  obtain ⟨x, y, z, hx, hy, hz, hxy, er, ec⟩ := h
  refine ⟨x, y, z, hx, hy, hz, hxy, er, ?_⟩
  by_cases c1 : x = 0
  · by_cases c2 : y = 0
    · rw [if_pos c1, if_pos c2] at ec
      exact Or.inl ⟨c1, c2, by omega⟩
    · rw [if_pos c1, if_neg c2] at ec
      exact Or.inr (Or.inl ⟨c1, by omega, by omega⟩)
  · rw [if_neg c1, if_neg (by omega)] at ec
    exact Or.inr (Or.inr ⟨by omega, by omega, ec⟩)
theorem zu_nt_nz {c r : Int} (h : zu_nt c r) : 0 < c ∧ 0 < r := by
  obtain ⟨x, y, z, hx, hy, hz, hxy, er, ec⟩ := zu_nt_d h
  omega
theorem zu_nt_u {c r c' r' : Int} (h : zu_nt c r) (k : zu_nt c' r') : c = c' ↔ r = r' := by
  obtain ⟨x, y, z, hx, hy, hz, hxy, er, ec⟩ := zu_nt_d h
  obtain ⟨x', y', z', hx', hy', hz', hxy', er', ec'⟩ := zu_nt_d k
  constructor
  · intro e
    have e3 : z = z' ∧ y = y' ∧ x = x' := by
      rcases ec with ⟨a1, a2, a3⟩ | ⟨a1, a2, a3⟩ | ⟨a1, a2, a3⟩ <;> rcases ec' with ⟨b1, b2, b3⟩ | ⟨b1, b2, b3⟩ | ⟨b1, b2, b3⟩ <;> omega
    omega
  · intro e
    have e3 : z = z' ∧ y = y' ∧ x = x' := by omega
    obtain ⟨rfl, rfl, rfl⟩ := e3
    omega
theorem zu_nt_s {t : Int → Int} {n s : Int} (h : zt_nl t n s ≠ 0) : zu_nt (zt_na t s (zt_nl t n s)) (zt_nb t s (zt_nl t n s)) := by
  have hb := zt_nl_b t n s
  have l0 := zt_nl_s (t := t) (n := n) (s := s) 0 (by omega) (by omega)
  rw [Int.add_zero] at l0
  have hk : zt_nl t n s = 1 ∨ zt_nl t n s = 2 ∨ zt_nl t n s = 3 := by omega
  rcases hk with e | e | e
  · rw [e]
    refine ⟨0, 0, t s - 96, by omega, by omega, by omega, by omega, ?_, ?_⟩
    · unfold zt_nb; rw [if_neg (by decide), if_pos rfl]; omega
    · unfold zt_na; rw [if_neg (by decide), if_pos rfl, if_pos rfl]; omega
  · have l1 := zt_nl_s (t := t) (n := n) (s := s) 1 (by omega) (by omega)
    rw [e]
    refine ⟨0, t s - 96, t (s + 1) - 96, by omega, by omega, by omega, by omega, ?_, ?_⟩
    · unfold zt_nb; rw [if_neg (by decide), if_neg (by decide), if_pos rfl]; omega
    · unfold zt_na; rw [if_neg (by decide), if_neg (by decide), if_pos rfl, if_pos rfl, if_neg (by omega)]; omega
  · have l1 := zt_nl_s (t := t) (n := n) (s := s) 1 (by omega) (by omega)
    have l2 := zt_nl_s (t := t) (n := n) (s := s) 2 (by omega) (by omega)
    rw [e]
    refine ⟨t s - 96, t (s + 1) - 96, t (s + 2) - 96, by omega, by omega, by omega, by omega, ?_, ?_⟩
    · unfold zt_nb; rw [if_neg (by decide), if_neg (by decide), if_neg (by decide)]; omega
    · unfold zt_na; rw [if_neg (by decide), if_neg (by decide), if_neg (by decide), if_neg (by omega), if_neg (by omega)]; omega
/-- LOOKS -/
def zu_lk (σ ρ : zq_S) (a o : Int) : Prop := σ a 1 = zt_mk (fun i => decide (zt_L ρ o i ≤ 1)) (ρ 0 2) ∧ σ a 2 = zt_mk (fun i => decide (zt_L ρ o i = 1)) (ρ 0 2) ∧ ∀ f, 0 ≤ f → f ≤ 3 → σ (a + 1) f = zt_mk (fun i => decide (zt_L ρ o i = 2 + f)) (ρ 0 2)
/-- an ACT -/
def zu_row (σ ρ : zq_S) (a j p : Int) : Prop := (ρ 6 p = σ (a + 2) j ∧ ρ 6 (p + 1) = zt_rc (σ (a + 3) j) ∧ ρ 6 (p + 2) = zt_ru (σ (a + 3) j) ∧ ρ 6 (p + 3) = zt_sn (σ (a + 4) j) ∧ ρ 6 (p + 4) = zt_rc (σ (a + 5) j) ∧ ρ 6 (p + 5) = zt_ru (σ (a + 5) j)) ∧ (σ (a + 4) j = 0 ∨ zt_sn (σ (a + 4) j) ≠ 0)
def zu_ac (σ ρ : zq_S) (a o : Int) : Prop := (σ a 4 = ρ 3 o ∧ σ a 5 = ρ 4 o ∧ σ a 6 = ρ 5 o ∧ σ a 11 = ρ 7 o) ∧ (σ a 4 ≠ 0 → σ a 5 ≠ 3) ∧ (∀ j, 0 ≤ j → j < ρ 5 o → zu_row σ ρ a j (18 * o + 6 * j)) ∧ σ a 12 = zt_nmK (σ (a + 2)) (σ (a + 3)) (σ (a + 4)) (σ (a + 5)) (if σ a 4 = 0 then 0 else zq_or 0 (zt_nmb (σ a 5))) (σ a 6) ∧ σ a 13 = zt_amK (σ (a + 2)) 0 (σ a 6)
def zu_or (σ ρ : zq_S) (a o : Int) : Prop := zu_nt (σ a 0) (ρ 1 o) ∧ zu_lk σ ρ a o ∧ zu_ac σ ρ a o ∧ zt_fok (σ (a + 1)) (ρ 0 1) (ρ 0 0)
/-- cells of an ORDER that stay -/
def zu_cf (σ τ : zq_S) (a : Int) : Prop := (τ a 0 = σ a 0 ∧ τ a 1 = σ a 1 ∧ τ a 2 = σ a 2 ∧ τ a 4 = σ a 4 ∧ τ a 5 = σ a 5 ∧ τ a 6 = σ a 6 ∧ τ a 11 = σ a 11 ∧ τ a 12 = σ a 12 ∧ τ a 13 = σ a 13) ∧ ∀ k i, 1 ≤ k → k ≤ 5 → τ (a + k) i = σ (a + k) i
def zu_r1 (ρ π : zq_S) (o : Int) : Prop := π 1 o = ρ 1 o ∧ (∀ i, 12 * o ≤ i → i < 12 * o + 12 → π 2 i = ρ 2 i) ∧ π 3 o = ρ 3 o ∧ π 4 o = ρ 4 o ∧ π 5 o = ρ 5 o ∧ π 7 o = ρ 7 o ∧ ∀ i, 18 * o ≤ i → i < 18 * o + 18 → π 6 i = ρ 6 i
theorem zu_r1_L {ρ π : zq_S} {o b : Int} (b12 : b ≤ 12) (h : zu_r1 ρ π o) : ∀ i, 0 ≤ i → i < b → zt_L π o i = zt_L ρ o i := fun i i0 i1 => h.2.1 (12 * o + i) (by omega) (by omega)
theorem zu_lk_fr {σ τ ρ π : zq_S} {a o : Int} (hc : zu_cf σ τ a) (hr : zu_r1 ρ π o) (hb : π 0 2 = ρ 0 2) (b12 : ρ 0 2 ≤ 12) (h : zu_lk σ ρ a o) : zu_lk τ π a o := by
  have eL := zu_r1_L b12 hr
  refine ⟨?_, ?_, fun f f0 f3 => ?_⟩
  · rw [hc.1.2.1, h.1, hb]
    exact zt_mk_c (fun i i0 i1 => by show decide (zt_L ρ o i ≤ 1) = decide (zt_L π o i ≤ 1); rw [eL i i0 i1])
  · rw [hc.1.2.2.1, h.2.1, hb]
    exact zt_mk_c (fun i i0 i1 => by show decide (zt_L ρ o i = 1) = decide (zt_L π o i = 1); rw [eL i i0 i1])
  · rw [hc.2 1 f (by decide) (by decide), h.2.2 f f0 f3, hb]
    exact zt_mk_c (fun i i0 i1 => by show decide (zt_L ρ o i = 2 + f) = decide (zt_L π o i = 2 + f); rw [eL i i0 i1])
theorem zu_ac_fr {σ τ ρ π : zq_S} {a o : Int} (hc : zu_cf σ τ a) (hr : zu_r1 ρ π o) (h3 : ρ 5 o ≤ 3) (h : zu_ac σ ρ a o) : zu_ac τ π a o := by
  obtain ⟨⟨g1, g2, g3, g4⟩, g5, g6, g7, g8⟩ := h
  obtain ⟨⟨c0, c1, c2, c4, c5, c6, c11, c12, c13⟩, cF⟩ := hc
  obtain ⟨r1, r2, r3, r4, r5, r7, r6⟩ := hr
  have F2 : τ (a + 2) = σ (a + 2) := funext (fun i => cF 2 i (by decide) (by decide))
  have F3 : τ (a + 3) = σ (a + 3) := funext (fun i => cF 3 i (by decide) (by decide))
  have F4 : τ (a + 4) = σ (a + 4) := funext (fun i => cF 4 i (by decide) (by decide))
  have F5 : τ (a + 5) = σ (a + 5) := funext (fun i => cF 5 i (by decide) (by decide))
  refine ⟨⟨by omega, by omega, by omega, by omega⟩, by rw [c4, c5]; exact g5, fun j j0 j1 => ?_, ?_, ?_⟩
  · have q := g6 j j0 (by omega)
    unfold zu_row
    rw [F2, F3, F4, F5, r6 _ (by omega) (by omega), r6 _ (by omega) (by omega), r6 _ (by omega) (by omega), r6 _ (by omega) (by omega), r6 _ (by omega) (by omega), r6 _ (by omega) (by omega)]
    exact q
  · rw [c12, c4, c5, c6, F2, F3, F4, F5]; exact g7
  · rw [c13, c6, F2]; exact g8
theorem zu_or_fr {σ τ ρ π : zq_S} {a o : Int} (hc : zu_cf σ τ a) (hr : zu_r1 ρ π o) (hw : π 0 0 = ρ 0 0) (hk : π 0 1 = ρ 0 1) (hb : π 0 2 = ρ 0 2) (b12 : ρ 0 2 ≤ 12) (h3 : ρ 5 o ≤ 3) (h : zu_or σ ρ a o) : zu_or τ π a o := by
  obtain ⟨h1, h2, h4, h5⟩ := h
  have F1 : τ (a + 1) = σ (a + 1) := funext (fun i => hc.2 1 i (by decide) (by decide))
  exact ⟨by rw [hc.1.1, hr.1]; exact h1, zu_lk_fr hc hr hb b12 h2, zu_ac_fr hc hr h3 h4, by rw [F1, hk, hw]; exact h5⟩
/-- which ORDER some bits are, as the class marks them -/
def zu_bb (ρ : zq_S) (x r : Int) : Prop := (r < 0 → r = -1 ∧ ∀ o, 0 ≤ o → o < ρ 0 3 → ¬ zt_is (zt_L ρ o) (ρ 0 2) x) ∧ (0 ≤ r → r < ρ 0 3 ∧ zt_is (zt_L ρ r) (ρ 0 2) x)
theorem zt_is_c {L M : Int → Int} {b x : Int} (h : ∀ i, 0 ≤ i → i < b → M i = L i) : zt_is M b x ↔ zt_is L b x := ⟨fun q i i0 i1 => by rw [← h i i0 i1]; exact q i i0 i1, fun q i i0 i1 => by rw [h i i0 i1]; exact q i i0 i1⟩
theorem zt_co_c {L M L' M' : Int → Int} {b : Int} (h : ∀ i, 0 ≤ i → i < b → L' i = L i) (k : ∀ i, 0 ≤ i → i < b → M' i = M i) : zt_co L' M' b ↔ zt_co L M b := ⟨fun q i i0 i1 => by rw [← h i i0 i1, ← k i i0 i1]; exact q i i0 i1, fun q i i0 i1 => by rw [h i i0 i1, k i i0 i1]; exact q i i0 i1⟩
theorem zt_is_co {L M : Int → Int} {b x : Int} (h : zt_is L b x) (k : zt_is M b x) : zt_co L M b := fun i i0 i1 => by
  have h1 := h i i0 i1
  have k1 := k i i0 i1
  omega
theorem zt_co_s2 {L M : Int → Int} {b : Int} (h : zt_co L M b) : zt_co M L b := fun i i0 i1 => by
  have h1 := h i i0 i1
  omega
/-- the telling, as both hold it -/
def zu_T3 (σ ρ : zq_S) : Prop :=
  (σ 3 3 = ρ 0 3 ∧ σ 3 4 = ρ 0 18) ∧
  (∀ i, 0 ≤ i → i < 20 → σ 10 i ≠ σ 3 5 ∧ ∀ j, 0 ≤ j → j < 20 → σ 10 i = σ 10 j → i = j) ∧
  (∀ o, 0 ≤ o → o < ρ 0 3 → zu_or σ ρ (σ 10 o) o) ∧
  (∀ o p, 0 ≤ o → o < p → p < ρ 0 3 → ¬ zt_co (zt_L ρ o) (zt_L ρ p) (ρ 0 2)) ∧
  (∀ n, 0 ≤ n → n < zx_p2 (ρ 0 2) → zu_bb ρ n (σ 11 n))
/-- the tape -/
def zu_T2 (σ ρ : zq_S) : Prop := σ 1 1 = ρ 0 14 ∧ ∀ i, σ 2 i = ρ 10 i
theorem zu_T2_fr {σ τ ρ π : zq_S} (c1 : τ 1 1 = σ 1 1) (c2 : ∀ i, τ 2 i = σ 2 i) (r1 : π 0 14 = ρ 0 14) (r2 : ∀ i, π 10 i = ρ 10 i) (h : zu_T2 σ ρ) : zu_T2 τ π := ⟨by rw [c1, r1]; exact h.1, fun i => by rw [c2, r2]; exact h.2 i⟩
/-- W, K, B -/
def zu_T1 (σ ρ : zq_S) : Prop := σ 3 0 = ρ 0 0 ∧ σ 3 1 = ρ 0 1 ∧ σ 3 2 = ρ 0 2
theorem zu_bb_c {ρ π : zq_S} {x r : Int} (h3 : π 0 3 = ρ 0 3) (hb : π 0 2 = ρ 0 2) (b12 : ρ 0 2 ≤ 12) (hr : ∀ o, 0 ≤ o → o < ρ 0 3 → zu_r1 ρ π o) (h : zu_bb ρ x r) : zu_bb π x r := by
  unfold zu_bb
  rw [h3, hb]
  refine ⟨fun c => ⟨(h.1 c).1, fun o o0 o1 q => (h.1 c).2 o o0 o1 ((zt_is_c (zu_r1_L b12 (hr o o0 o1))).mp q)⟩, fun c => ?_⟩
  obtain ⟨a1, a2⟩ := h.2 c
  exact ⟨a1, (zt_is_c (zu_r1_L b12 (hr r c a1))).mpr a2⟩
/-- nothing of it goes -/
theorem zu_T3_same {σ τ ρ π : zq_S} (hx : zx_T ρ) (h : zu_T3 σ ρ) (hs : zt_same σ τ) (c4 : τ 3 4 = π 0 18) (o3 : π 0 3 = ρ 0 3) (hw : π 0 0 = ρ 0 0) (hk : π 0 1 = ρ 0 1) (hb : π 0 2 = ρ 0 2) (hc : ∀ o, 0 ≤ o → o < ρ 0 3 → zu_cf σ τ (σ 10 o)) (hr : ∀ o, 0 ≤ o → o < ρ 0 3 → zu_r1 ρ π o) : zu_T3 τ π := by
  obtain ⟨⟨a1, a2⟩, a3, a4, a5, a6⟩ := h
  obtain ⟨s1, s2, s3, s4⟩ := hs
  have b12 : ρ 0 2 ≤ 12 := by have := zx_g2 hx; omega
  refine ⟨⟨by omega, c4⟩, fun i i0 i1 => ?_, fun o o0 o1 => ?_, fun o p o0 o1 p1 => ?_, fun n n0 n1 => ?_⟩
  · rw [s3, s2]
    exact ⟨(a3 i i0 i1).1, fun j j0 j1 e => (a3 i i0 i1).2 j j0 j1 (by rw [s3] at e; exact e)⟩
  · rw [s3]
    exact zu_or_fr (hc o o0 (by omega)) (hr o o0 (by omega)) hw hk hb b12 (by have := zx_ga5 hx o; omega) (a4 o o0 (by omega))
  · rw [hb]
    exact fun q => a5 o p o0 o1 (by omega) ((zt_co_c (zu_r1_L b12 (hr o o0 (by omega))) (zu_r1_L b12 (hr p (by omega) (by omega)))).mp q)
  · rw [s4]
    exact zu_bb_c o3 hb b12 hr (a6 n n0 (by rw [← hb]; exact n1))
/-- the spare alone was written -/
theorem zu_cf_own {σ τ : zq_S} {a sp : Int} (hO : zd_Own sp σ τ) (ka : zc_kd a = 4) (ks : zc_kd sp = 4) (hn : a ≠ sp) : zu_cf σ τ a := by
  have e0 : ∀ i, τ a i = σ a i := fun i => by
    have q := zt_own4 (k := 0) ka ks hn (by decide) (by decide)
    exact hO a i (by rw [ka]; decide) (by rw [ka]; decide) (by omega)
  have e1 : ∀ k i, 1 ≤ k → k ≤ 5 → τ (a + k) i = σ (a + k) i := fun k i k1 k5 => by
    have q := zt_own4 (k := k) ka ks hn (by omega) k5
    have hk : k = 1 ∨ k = 2 ∨ k = 3 ∨ k = 4 ∨ k = 5 := by omega
    rcases hk with rfl | rfl | rfl | rfl | rfl
    · exact hO _ i (by rw [zc_p4_1 ka]; decide) (by rw [zc_p4_1 ka]; decide) q
    · exact hO _ i (by rw [zc_p4_2 ka]; decide) (by rw [zc_p4_2 ka]; decide) q
    · exact hO _ i (by rw [zc_p4_3 ka]; decide) (by rw [zc_p4_3 ka]; decide) q
    · exact hO _ i (by rw [zc_p4_4 ka]; decide) (by rw [zc_p4_4 ka]; decide) q
    · exact hO _ i (by rw [zc_p4_5 ka]; decide) (by rw [zc_p4_5 ka]; decide) q
  exact ⟨⟨e0 _, e0 _, e0 _, e0 _, e0 _, e0 _, e0 _, e0 _, e0 _⟩, e1⟩
theorem zu_cf_rf (σ : zq_S) (a : Int) : zu_cf σ σ a := ⟨⟨rfl, rfl, rfl, rfl, rfl, rfl, rfl, rfl, rfl⟩, fun _ _ _ _ => rfl⟩
theorem zt_nmF_c {T L S V T' L' S' V' : Int → Int} {m : Int} : ∀ (k : Nat), (∀ i : Int, 0 ≤ i → i < k → T i = T' i ∧ L i = L' i ∧ S i = S' i ∧ V i = V' i) → zt_nmF T L S V m k = zt_nmF T' L' S' V' m k := by
  intro k
  induction k with
  | zero => intro _; rfl
  | succ k ih =>
    intro h
    obtain ⟨e1, e2, e3, e4⟩ := h k (by omega) (by omega)
    show zt_nm1 (zt_nmF T L S V m k) (T k) (L k) (S k) (V k) = zt_nm1 (zt_nmF T' L' S' V' m k) (T' k) (L' k) (S' k) (V' k)
    rw [ih (fun i i0 i1 => h i i0 (by omega)), e1, e2, e3, e4]
theorem zt_nmK_c {T L S V T' L' S' V' : Int → Int} {m k : Int} (h : ∀ i : Int, 0 ≤ i → i < k → T i = T' i ∧ L i = L' i ∧ S i = S' i ∧ V i = V' i) : zt_nmK T L S V m k = zt_nmK T' L' S' V' m k := zt_nmF_c _ (fun i i0 i1 => h i i0 (by omega))
theorem zt_amF_c {T T' : Int → Int} {m : Int} : ∀ (k : Nat), (∀ i : Int, 0 ≤ i → i < k → T i = T' i) → zt_amF T m k = zt_amF T' m k := by
  intro k
  induction k with
  | zero => intro _; rfl
  | succ k ih =>
    intro h
    show zt_am1 (zt_amF T m k) (T k) = zt_am1 (zt_amF T' m k) (T' k)
    rw [ih (fun i i0 i1 => h i i0 (by omega)), h k (by omega) (by omega)]
theorem zt_amK_c {T T' : Int → Int} {m k : Int} (h : ∀ i : Int, 0 ≤ i → i < k → T i = T' i) : zt_amK T m k = zt_amK T' m k := zt_amF_c _ (fun i i0 i1 => h i i0 (by omega))
theorem zt_nmF_app {T L S V T' L' S' V' : Int → Int} {m : Int} (a : Nat) : ∀ (k : Nat), (∀ i : Int, 0 ≤ i → i < k → T (a + i) = T' i ∧ L (a + i) = L' i ∧ S (a + i) = S' i ∧ V (a + i) = V' i) → zt_nmF T L S V m (a + k) = zt_nmF T' L' S' V' (zt_nmF T L S V m a) k := by
  intro k
  induction k with
  | zero => intro _; rfl
  | succ k ih =>
    intro h
    obtain ⟨e1, e2, e3, e4⟩ := h k (by omega) (by omega)
    show zt_nm1 (zt_nmF T L S V m (a + k)) (T ((a + k : Nat) : Int)) (L ((a + k : Nat) : Int)) (S ((a + k : Nat) : Int)) (V ((a + k : Nat) : Int)) = zt_nm1 (zt_nmF T' L' S' V' (zt_nmF T L S V m a) k) (T' k) (L' k) (S' k) (V' k)
    rw [ih (fun i i0 i1 => h i i0 (by omega)), show ((a + k : Nat) : Int) = (a : Int) + (k : Int) by omega, e1, e2, e3, e4]
theorem zt_nmK_app {T L S V T' L' S' V' : Int → Int} {m a k : Int} (ha : 0 ≤ a) (hk : 0 ≤ k) (h : ∀ i : Int, 0 ≤ i → i < k → T (a + i) = T' i ∧ L (a + i) = L' i ∧ S (a + i) = S' i ∧ V (a + i) = V' i) : zt_nmK T L S V m (a + k) = zt_nmK T' L' S' V' (zt_nmK T L S V m a) k := by
  unfold zt_nmK
  rw [show (a + k).toNat = a.toNat + k.toNat by omega]
  refine zt_nmF_app a.toNat k.toNat (fun i i0 i1 => ?_)
  rw [show ((a.toNat : Nat) : Int) = a by omega]
  exact h i i0 (by omega)
theorem zt_amF_app {T T' : Int → Int} {m : Int} (a : Nat) : ∀ (k : Nat), (∀ i : Int, 0 ≤ i → i < k → T (a + i) = T' i) → zt_amF T m (a + k) = zt_amF T' (zt_amF T m a) k := by
  intro k
  induction k with
  | zero => intro _; rfl
  | succ k ih =>
    intro h
    show zt_am1 (zt_amF T m (a + k)) (T ((a + k : Nat) : Int)) = zt_am1 (zt_amF T' (zt_amF T m a) k) (T' k)
    rw [ih (fun i i0 i1 => h i i0 (by omega)), show ((a + k : Nat) : Int) = (a : Int) + (k : Int) by omega, h k (by omega) (by omega)]
theorem zt_amK_app {T T' : Int → Int} {m a k : Int} (ha : 0 ≤ a) (hk : 0 ≤ k) (h : ∀ i : Int, 0 ≤ i → i < k → T (a + i) = T' i) : zt_amK T m (a + k) = zt_amK T' (zt_amK T m a) k := by
  unfold zt_amK
  rw [show (a + k).toNat = a.toNat + k.toNat by omega]
  refine zt_amF_app a.toNat k.toNat (fun i i0 i1 => ?_)
  rw [show ((a.toNat : Nat) : Int) = a by omega]
  exact h i i0 (by omega)

