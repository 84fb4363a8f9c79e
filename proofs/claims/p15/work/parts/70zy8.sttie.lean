/-! ===== letters and stores, side by side ===== -/
def zs_sw (i : Nat) : Nat := if i = 8 then 9 else if i = 9 then 8 else i
theorem zs_sw_8 : zs_sw 8 = 9 := rfl
theorem zs_sw_9 : zs_sw 9 = 8 := rfl
theorem zs_sw_o {i : Nat} (h : i ≠ 8) (h2 : i ≠ 9) : zs_sw i = i := by unfold zs_sw; rw [if_neg h, if_neg h2]
theorem zs_sw_b (i : Nat) : (zs_sw i < 10 ↔ i < 10) ∧ zs_sw (zs_sw i) = i ∧ (zs_sw i = 9 ↔ i = 8) ∧ (zs_sw i = 8 ↔ i = 9) ∧ (∀ x : Int, 0 ≤ x → x ≤ 7 → (((zs_sw i : Nat) : Int) = x ↔ (i : Int) = x)) := by
  by_cases c : i = 8
  · subst c; exact ⟨by decide, rfl, by decide, by decide, fun x x0 x7 => by rw [zs_sw_8]; omega⟩
  · by_cases d : i = 9
    · subst d; exact ⟨by decide, rfl, by decide, by decide, fun x x0 x7 => by rw [zs_sw_9]; omega⟩
    · rw [zs_sw_o c d, zs_sw_o c d]; exact ⟨Iff.rfl, rfl, by omega, by omega, fun x _ _ => Iff.rfl⟩
theorem zs_nbF : ∀ x : Fin 10, (∀ k : Fin 3, ((zt_nmb ((x.val : Nat) : Int)).toNat.testBit k.val = true ↔ (x.val = k.val ∨ (6 ≤ x.val ∧ x.val = 6 + k.val)))) ∧ ((zt_nmb ((x.val : Nat) : Int)).toNat.testBit 3 = true ↔ x.val = 4) ∧ ((zt_nmb ((x.val : Nat) : Int)).toNat.testBit 5 = true ↔ 6 ≤ x.val) := by decide +kernel
theorem zs_nb {x : Int} (h : 0 ≤ x) (h2 : x ≤ 9 ∨ 16 ≤ x) : (∀ f : Int, 0 ≤ f → f < 3 → (zw_tb (zt_nmb x) f.toNat ↔ (x = f ∨ x = 6 + f))) ∧ (zw_tb (zt_nmb x) 3 ↔ x = 4) ∧ (zw_tb (zt_nmb x) 5 ↔ (6 ≤ x ∧ x ≤ 9)) := by
  by_cases c : x ≤ 9
  · have q := zs_nbF ⟨x.toNat, by omega⟩
    obtain ⟨q1, q2, q3⟩ := q
    have e : (((⟨x.toNat, by omega⟩ : Fin 10).val : Nat) : Int) = x := by show ((x.toNat : Nat) : Int) = x; omega
    rw [e] at q2 q3
    refine ⟨fun f f0 f3 => ?_, ?_, ?_⟩
    · have z := q1 ⟨f.toNat, by omega⟩
      rw [e] at z
      have z : zw_tb (zt_nmb x) f.toNat ↔ (x.toNat = f.toNat ∨ (6 ≤ x.toNat ∧ x.toNat = 6 + f.toNat)) := z
      rw [z]; omega
    · have z : zw_tb (zt_nmb x) 3 ↔ x.toNat = 4 := q2
      rw [z]; omega
    · have z : zw_tb (zt_nmb x) 5 ↔ 6 ≤ x.toNat := q3
      rw [z]; omega
  · have e : zt_nmb x = 0 := by unfold zt_nmb; rw [if_neg (by omega), if_neg (by omega), if_pos (by omega)]
    rw [e]
    exact ⟨fun f f0 f3 => ⟨fun h => absurd h zw_tb_0, fun h => by omega⟩, ⟨fun h => absurd h zw_tb_0, fun h => by omega⟩, ⟨fun h => absurd h zw_tb_0, fun h => by omega⟩⟩
section ZSL
variable {F : Int → Int} {i : Nat}
theorem zs_ls_or {m n : Int} (hm : 0 ≤ m ∧ m ≤ 127) (hn : 0 ≤ n ∧ n ≤ 127) : zw_ls F (zq_or m n) i ↔ zw_ls F m i ∨ zw_ls F n i := by
  have t : ∀ k : Nat, zw_tb (zq_or m n) k ↔ zw_tb m k ∨ zw_tb n k := fun k => zw_tb_or (by omega) (by omega)
  unfold zw_ls
  rw [t 3, t 5]
  constructor
  · rintro ((⟨f, hf, h, e⟩ | ⟨h, e⟩) | ⟨h, e⟩)
    · rcases (t f.toNat).mp h with h | h
      · exact Or.inl (Or.inl (Or.inl ⟨f, hf, h, e⟩))
      · exact Or.inr (Or.inl (Or.inl ⟨f, hf, h, e⟩))
    · rcases h with h | h
      · exact Or.inl (Or.inl (Or.inr ⟨h, e⟩))
      · exact Or.inr (Or.inl (Or.inr ⟨h, e⟩))
    · rcases h with h | h
      · exact Or.inl (Or.inr ⟨h, e⟩)
      · exact Or.inr (Or.inr ⟨h, e⟩)
  · rintro (((⟨f, hf, h, e⟩ | ⟨h, e⟩) | ⟨h, e⟩) | ((⟨f, hf, h, e⟩ | ⟨h, e⟩) | ⟨h, e⟩))
    · exact Or.inl (Or.inl ⟨f, hf, (t f.toNat).mpr (Or.inl h), e⟩)
    · exact Or.inl (Or.inr ⟨Or.inl h, e⟩)
    · exact Or.inr ⟨Or.inl h, e⟩
    · exact Or.inl (Or.inl ⟨f, hf, (t f.toNat).mpr (Or.inr h), e⟩)
    · exact Or.inl (Or.inr ⟨Or.inr h, e⟩)
    · exact Or.inr ⟨Or.inr h, e⟩
theorem zs_ls_0 : ¬ zw_ls F 0 i := by
  rintro ((⟨f, hf, h, e⟩ | ⟨h, e⟩) | ⟨h, e⟩) <;> exact absurd h zw_tb_0
theorem zs_ls_b (hF : ∀ f, 0 ≤ f → f ≤ 2 → 0 ≤ F f ∧ F f ≤ 7) {x : Int} (h : 0 ≤ x) (h2 : x ≤ 9 ∨ 16 ≤ x) : zw_ls F (zt_nmb x) i ↔ zw_os F (zt_rc x) (zs_sw i) := by
  obtain ⟨n1, n2, n3⟩ := zs_nb h h2
  obtain ⟨-, -, s9, s8, sF⟩ := zs_sw_b i
  have rc := zt_rc_b x
  unfold zw_ls zw_os
  rw [n2, n3, s9, s8]
  by_cases c : 16 ≤ x
  · rw [rc.1 c]
    constructor
    · rintro ((⟨f, hf, h, e⟩ | ⟨h, e⟩) | ⟨h, e⟩)
      · have := (n1 f hf.1 hf.2).mp h; omega
      · omega
      · omega
    · rintro (h | h | h | h) <;> omega
  · rw [rc.2 c]
    constructor
    · rintro ((⟨f, hf, h, e⟩ | ⟨h, e⟩) | ⟨h, e⟩)
      · have b := hF f hf.1 (by omega)
        have z := (sF (F f) b.1 b.2).mpr e
        rcases (n1 f hf.1 hf.2).mp h with q | q
        · exact Or.inl ⟨by omega, by rw [q]; exact z⟩
        · exact Or.inr (Or.inr (Or.inr ⟨by omega, by omega, by rw [show x - 6 = f by omega]; exact z⟩))
      · exact Or.inr (Or.inl ⟨h, e⟩)
      · exact Or.inr (Or.inr (Or.inl ⟨h.1, h.2, e⟩))
    · rintro (⟨h, e⟩ | ⟨h, e⟩ | ⟨h, h', e⟩ | ⟨h, h', e⟩)
      · have b := hF x (by omega) (by omega)
        exact Or.inl (Or.inl ⟨x, by omega, (n1 x (by omega) (by omega)).mpr (Or.inl rfl), (sF (F x) b.1 b.2).mp e⟩)
      · exact Or.inl (Or.inr ⟨h, e⟩)
      · exact Or.inr ⟨⟨h, h'⟩, e⟩
      · have b := hF (x - 6) (by omega) (by omega)
        exact Or.inl (Or.inl ⟨x - 6, by omega, (n1 (x - 6) (by omega) (by omega)).mpr (Or.inr (by omega)), (sF (F (x - 6)) b.1 b.2).mp e⟩)
theorem zs_ls_32 : zw_ls F 32 i ↔ i = 9 := by
  have t : ∀ k : Nat, zw_tb 32 k ↔ k = 5 := fun k => zw_tb_2 5 (by decide)
  unfold zw_ls
  rw [t 3, t 5]
  constructor
  · rintro ((⟨f, hf, h, e⟩ | ⟨h, e⟩) | ⟨h, e⟩)
    · have := (t _).mp h; omega
    · omega
    · exact e
  · intro e; exact Or.inr ⟨rfl, e⟩
theorem zs_ls_n1 (hF : ∀ f, 0 ≤ f → f ≤ 2 → 0 ≤ F f ∧ F f ≤ 7) {m T L S V : Int} (hm : 0 ≤ m ∧ m ≤ 127) (hT : 0 ≤ T ∧ T ≤ 9) (hL : 0 ≤ L) (hL2 : L ≤ 9 ∨ 16 ≤ L) (hV : 0 ≤ V) (hV2 : V ≤ 9 ∨ 16 ≤ V) : zw_ls F (zt_nm1 m T L S V) i ↔ zw_ls F m i ∨ (zw_ob F T (zs_sw i) ∨ zw_os F (zt_rc L) (zs_sw i) ∨ (S ≠ 0 ∧ zw_os F (zt_rc V) (zs_sw i))) := by
  have l := zu_nmb hL hL2
  have v := zu_nmb hV hV2
  have s : (0 ≤ (if S = 0 then 0 else zt_nmb V) ∧ (if S = 0 then 0 else zt_nmb V) ≤ 127) ∧ (zw_ls F (if S = 0 then 0 else zt_nmb V) i ↔ (S ≠ 0 ∧ zw_os F (zt_rc V) (zs_sw i))) := by
    by_cases c : S = 0
    · rw [if_pos c]; exact ⟨by decide, fun h => absurd h zs_ls_0, fun h => absurd c h.1⟩
    · rw [if_neg c]; exact ⟨v.1, fun h => ⟨c, (zs_ls_b hF hV hV2).mp h⟩, fun h => (zs_ls_b hF hV hV2).mpr h.2⟩
  have o1 := zq_or_b (x := zt_nmb L) (y := if S = 0 then 0 else zt_nmb V) 7 128 (by decide) (by decide) (by omega) (by omega)
  have o2 := zq_or_b (x := m) (y := zq_or (zt_nmb L) (if S = 0 then 0 else zt_nmb V)) 7 128 (by decide) (by decide) (by omega) (by omega)
  have key : zw_ls F (zq_or m (zq_or (zt_nmb L) (if S = 0 then 0 else zt_nmb V))) i ↔ zw_ls F m i ∨ (zw_os F (zt_rc L) (zs_sw i) ∨ (S ≠ 0 ∧ zw_os F (zt_rc V) (zs_sw i))) := by rw [zs_ls_or hm (by omega), zs_ls_or l.1 s.1, s.2, zs_ls_b hF hL hL2]
  unfold zt_nm1
  by_cases c : 6 ≤ T
  · have t := zu_nmb (x := T - 6) (by omega) (Or.inl (by omega))
    have ob : zw_ls F (zt_nmb (T - 6)) i ↔ zw_ob F T (zs_sw i) := by
      rw [zs_ls_b hF (by omega) (Or.inl (by omega)), (zt_rc_b (T - 6)).2 (by omega)]
      unfold zw_os zw_ob
      constructor
      · rintro (h | h | h | h)
        · exact ⟨c, by omega, h.2⟩
        all_goals omega
      · intro h; exact Or.inl ⟨by omega, h.2.2⟩
    rw [if_pos c, zs_ls_or (by omega) t.1, key, ob]
    constructor
    · rintro ((h | h) | h)
      · exact Or.inl h
      · exact Or.inr (Or.inr h)
      · exact Or.inr (Or.inl h)
    · rintro (h | h | h)
      · exact Or.inl (Or.inl h)
      · exact Or.inr h
      · exact Or.inl (Or.inr h)
  · rw [if_neg c, key]
    constructor
    · rintro (h | h)
      · exact Or.inl h
      · exact Or.inr (Or.inr h)
    · rintro (h | h | h)
      · exact Or.inl h
      · unfold zw_ob at h; omega
      · exact Or.inr h
theorem zs_ls_a1 (hF : ∀ f, 0 ≤ f → f ≤ 2 → 0 ≤ F f ∧ F f ≤ 7) {m T : Int} (hm : 0 ≤ m ∧ m ≤ 127) (hT : 0 ≤ T ∧ T ≤ 9 ∧ T ≠ 3) : zw_ls F (zt_am1 m T) i ↔ zw_ls F m i ∨ zw_at F T (zs_sw i) := by
  obtain ⟨-, -, s9, s8, -⟩ := zs_sw_b i
  unfold zt_am1
  by_cases c : 6 ≤ T
  · rw [if_pos c, zs_ls_or hm (by decide), zs_ls_32]
    unfold zw_at
    rw [s8]
    constructor
    · rintro (h | h)
      · exact Or.inl h
      · exact Or.inr (Or.inr (Or.inr ⟨c, h⟩))
    · rintro (h | h | h | h)
      · exact Or.inl h
      · omega
      · omega
      · exact Or.inr h.2
  · have t := zu_nmb (x := T) (by omega) (Or.inl (by omega))
    rw [if_neg c, zs_ls_or hm t.1, zs_ls_b hF hT.1 (Or.inl (by omega)), (zt_rc_b T).2 (by omega)]
    unfold zw_os zw_at
    constructor
    · rintro (h | h | h | h | h)
      · exact Or.inl h
      · exact Or.inr (Or.inl h)
      · exact Or.inr (Or.inr (Or.inl h))
      · omega
      · omega
    · rintro (h | h | h | h)
      · exact Or.inl h
      · exact Or.inr (Or.inl h)
      · exact Or.inr (Or.inr (Or.inl h))
      · omega
/-- letters of n ACTS -/
theorem zs_ls_nK (hF : ∀ f, 0 ≤ f → f ≤ 2 → 0 ≤ F f ∧ F f ≤ 7) {T L S V A : Int → Int} {m p g d : Int} (hm : 0 ≤ m ∧ m ≤ 127) (hT : ∀ j, 0 ≤ T j ∧ T j ≤ 9) (hL : ∀ j, 0 ≤ L j ∧ (L j ≤ 9 ∨ 16 ≤ L j)) (hV : ∀ j, 0 ≤ V j ∧ (V j ≤ 9 ∨ 16 ≤ V j)) (h0 : zw_ls F m i ↔ (g ≠ 0 ∧ zw_os F d (zs_sw i))) : ∀ k : Nat, (∀ j : Int, 0 ≤ j → j < k → A (p + 6 * j) = T j ∧ A (p + 6 * j + 1) = zt_rc (L j) ∧ (0 < A (p + 6 * j + 3) ↔ S j ≠ 0) ∧ A (p + 6 * j + 4) = zt_rc (V j)) → (0 ≤ zt_nmF T L S V m k ∧ zt_nmF T L S V m k ≤ 127) ∧ (zw_ls F (zt_nmF T L S V m k) i ↔ zw_us F A p k g d (zs_sw i)) := by
  intro k
  induction k with
  | zero => intro _; exact ⟨hm, h0.trans zw_us_0.symm⟩
  | succ k ih =>
    intro h
    obtain ⟨b, e⟩ := ih (fun j j0 j1 => h j j0 (by omega))
    obtain ⟨a0, a1, a3, a4⟩ := h k (by omega) (by omega)
    have n := zu_nm1 (m := zt_nmF T L S V m k) (S := S k) b (hT k) (hL k).1 (hL k).2 (hV k).1 (hV k).2
    refine ⟨n.1, ?_⟩
    show zw_ls F (zt_nm1 (zt_nmF T L S V m k) (T k) (L k) (S k) (V k)) i ↔ zw_us F A p ((k : Int) + 1) g d (zs_sw i)
    rw [zs_ls_n1 hF b (hT k) (hL k).1 (hL k).2 (hV k).1 (hV k).2, e, zw_us_s (by omega), a0, a1, a3, a4]
theorem zs_ls_aK (hF : ∀ f, 0 ≤ f → f ≤ 2 → 0 ≤ F f ∧ F f ≤ 7) {T A : Int → Int} {p : Int} (hT : ∀ j, 0 ≤ T j ∧ T j ≤ 9) : ∀ k : Nat, (∀ j : Int, 0 ≤ j → j < k → A (p + 6 * j) = T j ∧ T j ≠ 3) → (0 ≤ zt_amF T 0 k ∧ zt_amF T 0 k ≤ 127) ∧ (zw_ls F (zt_amF T 0 k) i ↔ zw_ts F A p k (zs_sw i)) := by
  intro k
  induction k with
  | zero => intro _; exact ⟨⟨Int.le_refl (0 : Int), show (0 : Int) ≤ 127 by decide⟩, fun h => absurd h zs_ls_0, fun h => absurd h zw_ts_0⟩
  | succ k ih =>
    intro h
    obtain ⟨b, e⟩ := ih (fun j j0 j1 => h j j0 (by omega))
    obtain ⟨a0, a1⟩ := h k (by omega) (by omega)
    have n := zu_am1 (m := zt_amF T 0 k) b (hT k)
    refine ⟨n.1, ?_⟩
    show zw_ls F (zt_am1 (zt_amF T 0 k) (T k)) i ↔ zw_ts F A p ((k : Int) + 1) (zs_sw i)
    rw [zs_ls_a1 hF b ⟨(hT k).1, (hT k).2, a1⟩, e, zw_ts_s (by omega), a0]
end ZSL
/-- what an ORDER names and aims at, side by side -/
theorem zs_od {σ ρ : zq_S} {a o : Int} {F : Int → Int} (hσ : zc_T σ) (hρ : zx_T ρ) (ka : zc_kd a = 4) (h : zu_or σ ρ a o) (hF : ∀ f, 0 ≤ f → f ≤ 2 → 0 ≤ F f ∧ F f ≤ 7) : ((0 ≤ σ a 12 ∧ σ a 12 ≤ 127) ∧ (0 ≤ σ a 13 ∧ σ a 13 ≤ 127)) ∧ (∀ i : Nat, zw_ls F (σ a 12) i ↔ zw_us F (ρ 6) (18 * o) (ρ 5 o) (ρ 3 o) (ρ 4 o) (zs_sw i)) ∧ (∀ i : Nat, zw_ls F (σ a 13) i ↔ zw_ts F (ρ 6) (18 * o) (ρ 5 o) (zs_sw i)) := by
  obtain ⟨-, -, ⟨⟨g1, g2, g3, g4⟩, g5, g6, g7, g8⟩, -⟩ := h
  have z5 := zx_ga5 hρ o
  have z4 := zx_ga4 hρ o
  have hT : ∀ j, 0 ≤ σ (a + 2) j ∧ σ (a + 2) j ≤ 9 := fun j => zc_ga6 hσ (zc_p4_2 ka) j
  have hL : ∀ j, 0 ≤ σ (a + 3) j ∧ (σ (a + 3) j ≤ 9 ∨ 16 ≤ σ (a + 3) j) := fun j => by
    have z := zc_ga7 hσ (zc_p4_3 ka) j
    exact ⟨z.1, z.2.2⟩
  have hV : ∀ j, 0 ≤ σ (a + 5) j ∧ (σ (a + 5) j ≤ 9 ∨ 16 ≤ σ (a + 5) j) := fun j => by
    have z := zc_ga9 hσ (zc_p4_5 ka) j
    exact ⟨z.1, z.2.2⟩
  have hm : 0 ≤ (if σ a 4 = 0 then 0 else zq_or 0 (zt_nmb (σ a 5))) ∧ (if σ a 4 = 0 then 0 else zq_or 0 (zt_nmb (σ a 5))) ≤ 127 := by
    have n := zu_nmb (x := σ a 5) (by omega) (Or.inl (by omega))
    have o1 := zq_or_b (x := 0) (y := zt_nmb (σ a 5)) 7 128 (by decide) (by decide) (by decide) (by omega)
    split <;> omega
  have h0 : ∀ i : Nat, zw_ls F (if σ a 4 = 0 then 0 else zq_or 0 (zt_nmb (σ a 5))) i ↔ (ρ 3 o ≠ 0 ∧ zw_os F (ρ 4 o) (zs_sw i)) := fun i => by
    have n := zu_nmb (x := σ a 5) (by omega) (Or.inl (by omega))
    by_cases c : σ a 4 = 0
    · rw [if_pos c]; exact ⟨fun q => absurd q zs_ls_0, fun q => absurd (g1.symm.trans c) q.1⟩
    · rw [if_neg c, zs_ls_or (by decide) n.1, zs_ls_b hF (by omega) (Or.inl (by omega)), (zt_rc_b (σ a 5)).2 (by omega), g2]
      exact ⟨fun q => ⟨by omega, q.elim (fun q => absurd q zs_ls_0) id⟩, fun q => Or.inr q.2⟩
  have hr : ∀ j : Int, 0 ≤ j → j < ((σ a 6).toNat : Nat) → ρ 6 (18 * o + 6 * j) = σ (a + 2) j ∧ ρ 6 (18 * o + 6 * j + 1) = zt_rc (σ (a + 3) j) ∧ (0 < ρ 6 (18 * o + 6 * j + 3) ↔ σ (a + 4) j ≠ 0) ∧ ρ 6 (18 * o + 6 * j + 4) = zt_rc (σ (a + 5) j) := fun j j0 j1 => by
    obtain ⟨⟨e0, e1, -, e3, e4, -⟩, s⟩ := g6 j j0 (by omega)
    refine ⟨e0, e1, ?_, e4⟩
    have sb := zt_sn_b (σ (a + 4) j)
    rw [e3]
    constructor
    · intro q e
      rw [e, zt_sn_0] at q
      omega
    · intro q
      rcases s with s | s
      · exact absurd s q
      · omega
  have e6 : (((σ a 6).toNat : Nat) : Int) = ρ 5 o := by omega
  have r3 : ∀ j : Int, 0 ≤ j → j < ((σ a 6).toNat : Nat) → ρ 6 (18 * o + 6 * j) = σ (a + 2) j ∧ σ (a + 2) j ≠ 3 := fun j j0 j1 => by
    have q := (hr j j0 j1).1
    have z := zx_ac0 hρ (18 * o + 6 * j) (by omega)
    exact ⟨q, by omega⟩
  have nk := fun i : Nat => zs_ls_nK (i := i) hF (S := σ (a + 4)) (A := ρ 6) (p := 18 * o) hm hT hL hV (h0 i) (σ a 6).toNat hr
  have ak := fun i : Nat => zs_ls_aK (i := i) hF (A := ρ 6) (p := 18 * o) hT (σ a 6).toNat r3
  have e12 : σ a 12 = zt_nmF (σ (a + 2)) (σ (a + 3)) (σ (a + 4)) (σ (a + 5)) (if σ a 4 = 0 then 0 else zq_or 0 (zt_nmb (σ a 5))) (σ a 6).toNat := g7
  have e13 : σ a 13 = zt_amF (σ (a + 2)) 0 (σ a 6).toNat := g8
  rw [e12, e13]
  refine ⟨⟨(nk 0).1, (ak 0).1⟩, fun i => ?_, fun i => ?_⟩
  · rw [(nk i).2, e6]
  · rw [(ak i).2, e6]
