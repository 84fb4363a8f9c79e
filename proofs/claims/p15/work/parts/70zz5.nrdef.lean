/-! ===== the narrow machine: its states as rows ===== -/
def zn_v (x : Int) : Int := if x = 3 then 2 else 4
def zn_st (s : Int → Int) : Prop := ∀ x, 0 ≤ x → x ≤ 9 → 0 ≤ s x ∧ s x < zn_v x
theorem zn_v_b (x : Int) : 2 ≤ zn_v x ∧ zn_v x ≤ 4 ∧ (x ≠ 3 → zn_v x = 4) ∧ (x = 3 → zn_v x = 2) := by
  unfold zn_v
  by_cases c : x = 3
  · rw [if_pos c]; omega
  · rw [if_neg c]; omega
/-- slots 0 .. 8 as the wide machine's cells -/
def zn_row (s : Int → Int) : Int → Int := fun c => if c < 3 then s c else if 8 ≤ c ∧ c < 12 then s (c - 3) else if c = 264 then s 3 else if c = 265 then s 4 else 0
def zn_z (x : Int) : Int := if x < 3 then x else if x = 3 then 264 else if x = 4 then 265 else x + 3
def zn_F (i : Int) : Int → Int := fun f => if f = 3 then i else f
theorem zn_F_3 (i : Int) : zn_F i 3 = i := if_pos rfl
theorem zn_F_o {i f : Int} (h : f ≠ 3) : zn_F i f = f := if_neg h
theorem zn_row_r {s : Int → Int} {c : Int} (h : c < 3) : zn_row s c = s c := if_pos h
theorem zn_row_m {s : Int → Int} {c : Int} (h : 8 ≤ c ∧ c < 12) : zn_row s c = s (c - 3) := by
  unfold zn_row
  rw [if_neg (by omega), if_pos h]
theorem zn_row_Z {s : Int → Int} : zn_row s 264 = s 3 := rfl
theorem zn_row_P {s : Int → Int} : zn_row s 265 = s 4 := rfl
theorem zn_row_0 {s : Int → Int} {c : Int} (h1 : 3 ≤ c) (h2 : ¬ (8 ≤ c ∧ c < 12)) (h3 : c ≠ 264) (h4 : c ≠ 265) : zn_row s c = 0 := by
  unfold zn_row
  rw [if_neg (by omega), if_neg h2, if_neg h3, if_neg h4]
theorem zn_row_z {s : Int → Int} {x : Int} (h : 0 ≤ x ∧ x ≤ 8) : zn_row s (zn_z x) = s x := by
  unfold zn_z
  by_cases c0 : x < 3
  · rw [if_pos c0, zn_row_r c0]
  · rw [if_neg c0]
    by_cases c3 : x = 3
    · rw [if_pos c3, c3]; rfl
    · rw [if_neg c3]
      by_cases c4 : x = 4
      · rw [if_pos c4, c4]; rfl
      · rw [if_neg c4, zn_row_m (by omega), show x + 3 - 3 = x by omega]
theorem zn_z_b {x : Int} (h : 0 ≤ x ∧ x ≤ 8) : 0 ≤ zn_z x ∧ zn_z x ≤ 265 ∧ (x < 3 → zn_z x = x) ∧ (x = 3 → zn_z x = 264) ∧ (x = 4 → zn_z x = 265) ∧ (5 ≤ x → zn_z x = x + 3) := by
  unfold zn_z
  (repeat' split) <;> omega
theorem zn_row_up {s : Int → Int} {x v : Int} (h : 0 ≤ x ∧ x ≤ 8) : zn_row (zw_up s x v) = zw_up (zn_row s) (zn_z x) v := by
  funext c
  have z := zn_z_b h
  show zn_row (zw_up s x v) c = if c = zn_z x then v else zn_row s c
  by_cases c0 : c < 3
  · rw [zn_row_r c0, zn_row_r c0]
    show (if c = x then v else s c) = _
    by_cases d : c = x
    · rw [if_pos d, if_pos (by omega)]
    · rw [if_neg d, if_neg (by omega)]
  · by_cases c1 : 8 ≤ c ∧ c < 12
    · rw [zn_row_m c1, zn_row_m c1]
      show (if c - 3 = x then v else s (c - 3)) = _
      by_cases d : c - 3 = x
      · rw [if_pos d, if_pos (by omega)]
      · rw [if_neg d, if_neg (by omega)]
    · by_cases c2 : c = 264
      · rw [c2, zn_row_Z, zn_row_Z]
        show (if (3 : Int) = x then v else s 3) = _
        by_cases d : (3 : Int) = x
        · rw [if_pos d, if_pos (by omega)]
        · rw [if_neg d, if_neg (by omega)]
      · by_cases c3 : c = 265
        · rw [c3, zn_row_P, zn_row_P]
          show (if (4 : Int) = x then v else s 4) = _
          by_cases d : (4 : Int) = x
          · rw [if_pos d, if_pos (by omega)]
          · rw [if_neg d, if_neg (by omega)]
        · rw [zn_row_0 (by omega) c1 c2 c3, zn_row_0 (by omega) c1 c2 c3, if_neg (by omega)]
theorem zn_row_c {s t : Int → Int} (h : ∀ x, 0 ≤ x → x ≤ 8 → t x = s x) {c : Int} (c0 : 0 ≤ c) : zn_row t c = zn_row s c := by
  by_cases a : c < 3
  · rw [zn_row_r a, zn_row_r a]; exact h c c0 (by omega)
  · by_cases b : 8 ≤ c ∧ c < 12
    · rw [zn_row_m b, zn_row_m b]; exact h _ (by omega) (by omega)
    · by_cases d : c = 264
      · rw [d, zn_row_Z, zn_row_Z]; exact h 3 (by decide) (by decide)
      · by_cases e : c = 265
        · rw [e, zn_row_P, zn_row_P]; exact h 4 (by decide) (by decide)
        · rw [zn_row_0 (by omega) b d e, zn_row_0 (by omega) b d e]
theorem zn_m3 : (1 ≤ (3 : Int) ∧ (3 : Int) ≤ 255 ∧ ∀ x, 0 ≤ x → x ≤ 3 → zq_and x 3 = x) ∧ (∀ x, 0 ≤ zq_and x 3 ∧ zq_and x 3 ≤ 3) ∧ (∀ x y, 0 ≤ x → x ≤ 3 → 0 ≤ y → y ≤ 3 → (0 ≤ zq_or x y ∧ zq_or x y ≤ 3) ∧ (0 ≤ zq_xor x y ∧ zq_xor x y ≤ 3)) := zs_mk1 2 4 (by decide) (by decide) (by decide) (by decide)
theorem zn_ok {s : Int → Int} {i : Int} (h : ∀ x, 0 ≤ x → x ≤ 8 → 0 ≤ s x ∧ s x < zn_v x) (hi : 0 ≤ i ∧ i ≤ 3) : zw_ok (zn_F i) (zn_row s) 3 := by
  refine ⟨fun f f0 f2 => ?_, ?_, fun c c0 c1 => ?_, ?_, ?_, zn_m3⟩
  · rw [zn_F_o (by omega)]; omega
  · rw [zn_F_3]; exact hi
  · by_cases a : c < 3
    · rw [zn_row_r a]
      have z := h c c0 (by omega)
      have v := zn_v_b c
      omega
    · by_cases b : 8 ≤ c ∧ c < 12
      · rw [zn_row_m b]
        have z := h (c - 3) (by omega) (by omega)
        have v := zn_v_b (c - 3)
        omega
      · rw [zn_row_0 (by omega) b (by omega) (by omega)]; decide
  · rw [zn_row_Z]
    have z := h 3 (by decide) (by decide)
    have v := (zn_v_b 3).2.2.2 rfl
    omega
  · rw [zn_row_P]
    have z := h 4 (by decide) (by decide)
    have v := zn_v_b 4
    omega
theorem zn_ok_st {s : Int → Int} (h : zn_st s) : zw_ok (zn_F (s 9)) (zn_row s) 3 := zn_ok (fun x x0 x8 => h x x0 (by omega)) (by have z := h 9 (by decide) (by decide); have v := zn_v_b 9; omega)
/-- what an ORDER leaves in slot x -/
noncomputable def zn_o (A : Int → Int) (o g d n : Int) (s : Int → Int) (x : Int) : Int := zw_do (zn_F (s 9)) 3 A o g d n (zn_row s) (zn_z x)
/-! ===== states that are asked for one behind the other ===== -/
/-- asked: slots A 0 .. A (k - 1), each with a value; slot f is set from outside -/
def zn_wA (f k : Int) (al A : Int → Int) : Prop := (0 ≤ k ∧ k ≤ 10) ∧ (∀ j, 0 ≤ j → j < k → (0 ≤ A j ∧ A j ≤ 9 ∧ A j ≠ f) ∧ 0 ≤ al (A j) ∧ al (A j) < zn_v (A j)) ∧ (∀ i j, 0 ≤ i → i < j → j < k → A i ≠ A j) ∧ (∀ x, 0 ≤ x → x ≤ 9 → al x ≠ -1 → x = f ∨ ∃ j, 0 ≤ j ∧ j < k ∧ A j = x)
/-- more is asked -/
def zn_xA (k k' : Int) (al al' A A' : Int → Int) : Prop := k ≤ k' ∧ (∀ j, 0 ≤ j → j < k → A' j = A j) ∧ (∀ x, 0 ≤ x → x ≤ 9 → al x ≠ -1 → al' x = al x) ∧ (∀ j, k ≤ j → j < k' → al' (A' j) = 0)
/-- s is among what is not gone through -/
def zn_rA (k : Int) (al A s : Int → Int) : Prop := ∃ j, 0 ≤ j ∧ j ≤ k ∧ (∀ i, 0 ≤ i → i < j → s (A i) = al (A i)) ∧ (j < k → al (A j) < s (A j))
/-- s is what is asked -/
def zn_aA (k : Int) (al A s : Int → Int) : Prop := ∀ i, 0 ≤ i → i < k → s (A i) = al (A i)
section ZNA
variable {f k k' : Int} {al al' A A' s : Int → Int}
theorem zn_xA_r : zn_xA k k al al A A := ⟨Int.le_refl _, fun _ _ _ => rfl, fun _ _ _ _ => rfl, fun j j0 j1 => absurd j1 (by omega)⟩
theorem zn_xA_t {k2 : Int} {al2 A2 : Int → Int} (k0 : 0 ≤ k) (w : zn_wA f k' al' A') (h : zn_xA k k' al al' A A') (g : zn_xA k' k2 al' al2 A' A2) : zn_xA k k2 al al2 A A2 := by
  obtain ⟨h1, h2, h3, h4⟩ := h
  obtain ⟨g1, g2, g3, g4⟩ := g
  obtain ⟨w1, w2, w3, w4⟩ := w
  refine ⟨by omega, fun j j0 j1 => by rw [g2 j j0 (by omega), h2 j j0 j1], fun x x0 x9 q => ?_, fun j j0 j1 => ?_⟩
  · have e := h3 x x0 x9 q
    rw [g3 x x0 x9 (by rw [e]; exact q), e]
  · by_cases c : j < k'
    · have z := h4 j j0 c
      have y := w2 j (by omega) c
      rw [g2 j (by omega) c, g3 _ y.1.1 y.1.2.1 (by omega), z]
    · exact g4 j (by omega) j1
theorem zn_rA_x (w : zn_wA f k al A) (h : zn_xA k k' al al' A A') (w' : zn_wA f k' al' A') (hs : zn_st s) (r : zn_rA k al A s) : zn_rA k' al' A' s := by
  obtain ⟨h1, h2, h3, h4⟩ := h
  obtain ⟨w1, w2, w3, w4⟩ := w
  obtain ⟨v1, v2, v3, v4⟩ := w'
  obtain ⟨j, j0, j1, r1, r2⟩ := r
  have old : ∀ i, 0 ≤ i → i < k → A' i = A i ∧ al' (A' i) = al (A i) := fun i i0 i1 => by
    have e := h2 i i0 i1
    have y := w2 i i0 i1
    exact ⟨e, by rw [e, h3 _ y.1.1 y.1.2.1 (by omega)]⟩
  by_cases c : j < k
  · refine ⟨j, j0, by omega, fun i i0 i1 => ?_, fun _ => ?_⟩
    · obtain ⟨e1, e2⟩ := old i i0 (by omega)
      rw [e2, e1]; exact r1 i i0 i1
    · obtain ⟨e1, e2⟩ := old j j0 c
      rw [e2, e1]; exact r2 c
  · have key : ∀ m : Nat, k + m ≤ k' → zn_rA k' al' A' s ∨ ∀ i, 0 ≤ i → i < k + m → s (A' i) = al' (A' i) := by
      intro m
      induction m with
      | zero =>
        intro _
        refine Or.inr (fun i i0 i1 => ?_)
        obtain ⟨e1, e2⟩ := old i i0 (by omega)
        rw [e2, e1]; exact r1 i i0 (by omega)
      | succ m ih =>
        intro hm
        rcases ih (by omega) with q | q
        · exact Or.inl q
        · have z := h4 (k + m) (by omega) (by omega)
          have y := v2 (k + m) (by omega) (by omega)
          have u := hs _ y.1.1 y.1.2.1
          by_cases d : s (A' (k + m)) = 0
          · refine Or.inr (fun i i0 i1 => ?_)
            by_cases e : i = k + m
            · rw [e, z]; exact d
            · exact q i i0 (by omega)
          · exact Or.inl ⟨k + m, by omega, by omega, q, fun _ => by rw [z]; omega⟩
    rcases key (k' - k).toNat (by omega) with q | q
    · exact q
    · exact ⟨k', by omega, by omega, fun i i0 i1 => q i i0 (by omega), fun h => absurd h (by omega)⟩
theorem zn_aA_x (w : zn_wA f k al A) (h : zn_xA k k' al al' A A') (a : zn_aA k' al' A' s) : zn_aA k al A s := fun i i0 i1 => by
  obtain ⟨h1, h2, h3, h4⟩ := h
  have z := a i i0 (by omega)
  have y := w.2.1 i i0 i1
  rw [h2 i i0 i1, h3 _ y.1.1 y.1.2.1 (by omega)] at z
  exact z
/-- what is asked and slot f: all that stands there -/
theorem zn_aA_c (w : zn_wA f k al A) (a : zn_aA k al A s) (hf : 0 ≤ f → f ≤ 9 → s f = al f) {x : Int} (x0 : 0 ≤ x) (x9 : x ≤ 9) (h : al x ≠ -1) : s x = al x := by
  rcases w.2.2.2 x x0 x9 h with q | ⟨j, j0, j1, q⟩
  · rw [q]; exact hf (by omega) (by omega)
  · have z := a j j0 j1
    rw [q] at z
    exact z
/-! how many may be asked -/
def zn_ct (A : Int → Int) (x : Int) : Nat → Int
  | 0 => 0
  | n + 1 => zn_ct A x n + if A n = x then 1 else 0
def zn_ee (x : Int) : Int := if x = 3 then 1 else 2
def zn_S (A : Int → Int) : Nat → Int
  | 0 => 0
  | n + 1 => zn_S A n + zn_ee (A n)
theorem zn_ct_0 {x : Int} : ∀ n : Nat, (∀ j : Int, 0 ≤ j → j < n → A j ≠ x) → zn_ct A x n = 0 := by
  intro n
  induction n with
  | zero => intro _; rfl
  | succ n ih =>
    intro h
    show zn_ct A x n + (if A n = x then 1 else 0) = 0
    rw [ih (fun j j0 j1 => h j j0 (by omega)), if_neg (h n (by omega) (by omega))]
    rfl
theorem zn_ct_1 {x : Int} : ∀ n : Nat, (∀ i j : Int, 0 ≤ i → i < j → j < n → A i ≠ A j) → 0 ≤ zn_ct A x n ∧ zn_ct A x n ≤ 1 := by
  intro n
  induction n with
  | zero => intro _; exact ⟨Int.le_refl _, show (0 : Int) ≤ 1 by decide⟩
  | succ n ih =>
    intro h
    show 0 ≤ zn_ct A x n + (if A n = x then 1 else 0) ∧ zn_ct A x n + (if A n = x then 1 else 0) ≤ 1
    have z := ih (fun i j i0 ij jn => h i j i0 ij (by omega))
    by_cases c : A n = x
    · rw [if_pos c, zn_ct_0 n (fun j j0 j1 e => h j n j0 j1 (by omega) (e.trans c.symm))]
      decide
    · rw [if_neg c]; omega
theorem zn_ct_S : ∀ n : Nat, (∀ j : Int, 0 ≤ j → j < n → 0 ≤ A j ∧ A j ≤ 9) → zn_S A n = 2 * zn_ct A 0 n + 2 * zn_ct A 1 n + 2 * zn_ct A 2 n + zn_ct A 3 n + 2 * zn_ct A 4 n + 2 * zn_ct A 5 n + 2 * zn_ct A 6 n + 2 * zn_ct A 7 n + 2 * zn_ct A 8 n + 2 * zn_ct A 9 n ∧ (n : Int) = zn_ct A 0 n + zn_ct A 1 n + zn_ct A 2 n + zn_ct A 3 n + zn_ct A 4 n + zn_ct A 5 n + zn_ct A 6 n + zn_ct A 7 n + zn_ct A 8 n + zn_ct A 9 n := by
  intro n
  induction n with
  | zero => intro _; exact ⟨rfl, rfl⟩
  | succ n ih =>
    intro h
    obtain ⟨e1, e2⟩ := ih (fun j j0 j1 => h j j0 (by omega))
    have hn := h n (by omega) (by omega)
    have ct : ∀ x, zn_ct A x (n + 1) = zn_ct A x n + if A n = x then 1 else 0 := fun _ => rfl
    have es : zn_S A (n + 1) = zn_S A n + zn_ee (A n) := rfl
    rw [es, ct, ct, ct, ct, ct, ct, ct, ct, ct, ct]
    unfold zn_ee
    have hc : A n = 0 ∨ A n = 1 ∨ A n = 2 ∨ A n = 3 ∨ A n = 4 ∨ A n = 5 ∨ A n = 6 ∨ A n = 7 ∨ A n = 8 ∨ A n = 9 := by omega
    rcases hc with e | e | e | e | e | e | e | e | e | e <;> rw [e] <;> constructor <;> simp <;> omega
theorem zn_S_le (w : zn_wA f k al A) : zn_S A k.toNat ≤ 19 := by
  obtain ⟨w1, w2, w3, -⟩ := w
  have c := fun x => zn_ct_1 (A := A) (x := x) k.toNat (fun i j i0 ij jn => w3 i j i0 ij (by omega))
  have e := (zn_ct_S (A := A) k.toNat (fun j j0 j1 => ⟨(w2 j j0 (by omega)).1.1, (w2 j j0 (by omega)).1.2.1⟩)).1
  have c0 := c 0
  have c1 := c 1
  have c2 := c 2
  have c3 := c 3
  have c4 := c 4
  have c5 := c 5
  have c6 := c 6
  have c7 := c 7
  have c8 := c 8
  have c9 := c 9
  omega
/-- a slot that isn't asked: there is room for one more -/
theorem zn_k9 (w : zn_wA f k al A) {x : Int} (x0 : 0 ≤ x) (x9 : x ≤ 9) (h : ∀ j, 0 ≤ j → j < k → A j ≠ x) : k < 10 := by
  obtain ⟨w1, w2, w3, -⟩ := w
  have c := fun x => zn_ct_1 (A := A) (x := x) k.toNat (fun i j i0 ij jn => w3 i j i0 ij (by omega))
  have e := (zn_ct_S (A := A) k.toNat (fun j j0 j1 => ⟨(w2 j j0 (by omega)).1.1, (w2 j j0 (by omega)).1.2.1⟩)).2
  have z := zn_ct_0 (A := A) (x := x) k.toNat (fun j j0 j1 => h j j0 (by omega))
  have c0 := c 0
  have c1 := c 1
  have c2 := c 2
  have c3 := c 3
  have c4 := c 4
  have c5 := c 5
  have c6 := c 6
  have c7 := c 7
  have c8 := c 8
  have c9 := c 9
  have hx : x = 0 ∨ x = 1 ∨ x = 2 ∨ x = 3 ∨ x = 4 ∨ x = 5 ∨ x = 6 ∨ x = 7 ∨ x = 8 ∨ x = 9 := by omega
  rcases hx with e | e | e | e | e | e | e | e | e | e <;> rw [e] at z <;> omega
/-- one slot more -/
theorem zn_push {x : Int} (w : zn_wA f k al A) (x0 : 0 ≤ x) (x9 : x ≤ 9) (ho : al x = -1) (hf : x ≠ f) (hA : ∀ j, A' j = if j = k then x else A j) (hal : ∀ y, al' y = if y = x then 0 else al y) : zn_wA f (k + 1) al' A' ∧ zn_xA k (k + 1) al al' A A' := by
  have hn : ∀ j, 0 ≤ j → j < k → A j ≠ x := fun j j0 j1 e => by have z := (w.2.1 j j0 j1).2; rw [e] at z; omega
  have k9 := zn_k9 w x0 x9 hn
  obtain ⟨w1, w2, w3, w4⟩ := w
  refine ⟨⟨by omega, fun j j0 j1 => ?_, fun i j i0 ij jk => ?_, fun y y0 y9 q => ?_⟩, by omega, fun j j0 j1 => ?_, fun y y0 y9 q => ?_, fun j j0 j1 => ?_⟩
  · by_cases c : j = k
    · rw [hA, if_pos c, hal, if_pos rfl]
      have v := zn_v_b x
      exact ⟨⟨x0, x9, hf⟩, by decide, by omega⟩
    · have z := w2 j j0 (by omega)
      rw [hA, if_neg c, hal, if_neg (hn j j0 (by omega))]
      exact z
  · rw [hA, hA, if_neg (by omega)]
    by_cases c : j = k
    · rw [if_pos c]; exact hn i i0 (by omega)
    · rw [if_neg c]; exact w3 i j i0 ij (by omega)
  · rw [hal] at q
    by_cases c : y = x
    · exact Or.inr ⟨k, by omega, by omega, by rw [hA, if_pos rfl, c]⟩
    · rw [if_neg c] at q
      rcases w4 y y0 y9 q with z | ⟨j, j0, j1, z⟩
      · exact Or.inl z
      · exact Or.inr ⟨j, j0, by omega, by rw [hA, if_neg (by omega)]; exact z⟩
  · rw [hA, if_neg (by omega)]
  · rw [hal, if_neg (fun e => q (by rw [e]; exact ho))]
  · rw [hA, if_pos (by omega), hal, if_pos rfl]
/-! where one stands in going through -/
def zn_rk (al A : Int → Int) : Nat → Int
  | 0 => 0
  | n + 1 => zn_rk al A n + al (A n) * zx_p2 (19 - zn_S A (n + 1))
def zn_Ph (al A : Int → Int) (n : Nat) : Int := zn_rk al A n + zx_p2 (19 - zn_S A n)
theorem zn_rk_c : ∀ n : Nat, (∀ j : Int, 0 ≤ j → j < n → A' j = A j ∧ al' (A j) = al (A j)) → zn_rk al' A' n = zn_rk al A n ∧ zn_S A' n = zn_S A n := by
  intro n
  induction n with
  | zero => intro _; exact ⟨rfl, rfl⟩
  | succ n ih =>
    intro h
    obtain ⟨e1, e2⟩ := ih (fun j j0 j1 => h j j0 (by omega))
    obtain ⟨h1, h2⟩ := h n (by omega) (by omega)
    have es : zn_S A' (n + 1) = zn_S A (n + 1) := by
      show zn_S A' n + zn_ee (A' n) = zn_S A n + zn_ee (A n)
      rw [e2, h1]
    refine ⟨?_, es⟩
    show zn_rk al' A' n + al' (A' n) * zx_p2 (19 - zn_S A' (n + 1)) = zn_rk al A n + al (A n) * zx_p2 (19 - zn_S A (n + 1))
    rw [e1, es, h1, h2]
theorem zn_rk_0 (m : Nat) : ∀ n : Nat, (∀ j : Int, (m : Int) ≤ j → j < m + n → al (A j) = 0) → zn_rk al A (m + n) = zn_rk al A m := by
  intro n
  induction n with
  | zero => intro _; rfl
  | succ n ih =>
    intro h
    have e := ih (fun j j0 j1 => h j j0 (by omega))
    have z := h ((m + n : Nat) : Int) (by omega) (by omega)
    show zn_rk al A (m + n) + al (A ((m + n : Nat) : Int)) * _ = _
    rw [z, e, Int.zero_mul, Int.add_zero]
/-- what is asked for besides leaves one where one stands -/
theorem zn_rk_x (w : zn_wA f k al A) (h : zn_xA k k' al al' A A') : zn_rk al' A' k'.toNat = zn_rk al A k.toNat := by
  obtain ⟨h1, h2, h3, h4⟩ := h
  have w1 := w.1
  have e := (zn_rk_c (A := A) (A' := A') (al := al) (al' := al') k.toNat (fun j j0 j1 => ⟨h2 j j0 (by omega), by
    have y := w.2.1 j j0 (by omega)
    exact h3 _ y.1.1 y.1.2.1 (by omega)⟩)).1
  have z := zn_rk_0 (A := A') (al := al') k.toNat (k'.toNat - k.toNat) (fun j j0 j1 => h4 j (by omega) (by omega))
  rw [show k.toNat + (k'.toNat - k.toNat) = k'.toNat by omega] at z
  rw [z, e]
theorem zn_vol {n : Nat} (hS : zn_S A (n + 1) ≤ 19) : zx_p2 (19 - zn_S A n) = zn_v (A n) * zx_p2 (19 - zn_S A (n + 1)) := by
  have es : zn_S A (n + 1) = zn_S A n + zn_ee (A n) := rfl
  by_cases c : A n = 3
  · have e1 : zn_ee (A n) = 1 := by unfold zn_ee; rw [if_pos c]
    rw [(zn_v_b (A n)).2.2.2 c, show (19 : Int) - zn_S A n = 19 - zn_S A (n + 1) + 1 by omega, zx_p2_s _ (by omega)]
  · have e1 : zn_ee (A n) = 2 := by unfold zn_ee; rw [if_neg c]
    have z := zx_p2_s (19 - zn_S A (n + 1)) (by omega)
    rw [(zn_v_b (A n)).2.2.1 c, show (19 : Int) - zn_S A n = 19 - zn_S A (n + 1) + 1 + 1 by omega, zx_p2_s _ (by omega), z]
    omega
theorem zn_mul {a V : Int} (h0 : 0 ≤ a) (h3 : a ≤ 3) : (a = 0 ∧ a * V = 0) ∨ (a = 1 ∧ a * V = V) ∨ (a = 2 ∧ a * V = 2 * V) ∨ (a = 3 ∧ a * V = 3 * V) := by
  have h : a = 0 ∨ a = 1 ∨ a = 2 ∨ a = 3 := by omega
  rcases h with rfl | rfl | rfl | rfl
  · exact Or.inl ⟨rfl, Int.zero_mul _⟩
  · exact Or.inr (Or.inl ⟨rfl, Int.one_mul _⟩)
  · exact Or.inr (Or.inr (Or.inl ⟨rfl, rfl⟩))
  · exact Or.inr (Or.inr (Or.inr ⟨rfl, rfl⟩))
theorem zn_Ph_s {n : Nat} (hS : zn_S A (n + 1) ≤ 19) (h0 : 0 ≤ al (A n)) (h1 : al (A n) < zn_v (A n)) : zn_Ph al A (n + 1) ≤ zn_Ph al A n ∧ (zn_v (A n) ≤ al (A n) + 1 → zn_Ph al A (n + 1) = zn_Ph al A n) := by
  have v := zn_v_b (A n)
  have e := zn_vol hS
  have p := zx_p2_pos (19 - zn_S A (n + 1))
  have e1 : zn_Ph al A (n + 1) = zn_rk al A n + al (A n) * zx_p2 (19 - zn_S A (n + 1)) + zx_p2 (19 - zn_S A (n + 1)) := rfl
  have e2 : zn_Ph al A n = zn_rk al A n + zx_p2 (19 - zn_S A n) := rfl
  have m := zn_mul (a := al (A n)) (V := zx_p2 (19 - zn_S A (n + 1))) h0 (by omega)
  rw [e1, e2, e]
  by_cases c : A n = 3
  · have v2 := v.2.2.2 c
    rw [v2] at h1 ⊢
    omega
  · have v4 := v.2.2.1 c
    rw [v4] at h1 ⊢
    omega
theorem zn_S_m {n : Nat} : ∀ m : Nat, zn_S A n ≤ zn_S A (n + m) := by
  intro m
  induction m with
  | zero => exact Int.le_refl _
  | succ m ih =>
    show zn_S A n ≤ zn_S A (n + m) + zn_ee (A ((n + m : Nat) : Int))
    have h : 0 ≤ zn_ee (A ((n + m : Nat) : Int)) := by unfold zn_ee; split <;> decide
    omega
theorem zn_S_n (w : zn_wA f k al A) {n : Nat} (hn : (n : Int) ≤ k) : zn_S A n ≤ 19 := by
  have a := zn_S_le w
  have b := zn_S_m (A := A) (n := n) (k.toNat - n)
  rw [show n + (k.toNat - n) = k.toNat by omega] at b
  omega
theorem zn_Ph_le (w : zn_wA f k al A) : ∀ n : Nat, (n : Int) ≤ k → zn_Ph al A n ≤ 524288 := by
  intro n
  induction n with
  | zero =>
    intro _
    have e : zn_Ph al A 0 = 0 + zx_p2 (12 + 7) := rfl
    rw [e, zx_p2_add (by decide) (by decide), zx_p2_12, show zx_p2 7 = 128 from rfl]
    decide
  | succ n ih =>
    intro hn
    have y := w.2.1 n (by omega) (by omega)
    have z := (zn_Ph_s (al := al) (zn_S_n w (n := n + 1) hn) y.2.1 y.2.2).1
    have i := ih (by omega)
    omega
theorem zn_rk_le (w : zn_wA f k al A) : zn_rk al A k.toNat + 1 ≤ 524288 := by
  have h := zn_Ph_le w k.toNat (by have := w.1; omega)
  have p := zx_p2_pos (19 - zn_S A k.toNat)
  have e : zn_Ph al A k.toNat = zn_rk al A k.toNat + zx_p2 (19 - zn_S A k.toNat) := rfl
  omega
theorem zn_Ph_rk : zn_rk al A k.toNat + 1 ≤ zn_Ph al A k.toNat := by
  have p := zx_p2_pos (19 - zn_S A k.toNat)
  show _ ≤ zn_rk al A k.toNat + zx_p2 (19 - zn_S A k.toNat)
  omega
/-- what is behind, when all from l on is taken back -/
def zn_lA (l : Int) (al A s : Int → Int) : Prop := ∃ j, 0 ≤ j ∧ j < l ∧ (∀ i, 0 ≤ i → i < j → s (A i) = al (A i)) ∧ al (A j) < s (A j)
theorem zn_lA_0 (r : zn_rA k al A s) : zn_aA k al A s ∨ zn_lA k al A s := by
  obtain ⟨j, j0, j1, r1, r2⟩ := r
  by_cases c : j < k
  · exact Or.inr ⟨j, j0, c, r1, r2 c⟩
  · exact Or.inl (fun i i0 i1 => r1 i i0 (by omega))
/-- the last one taken back -/
theorem zn_pop (w : zn_wA f k al A) (k1 : 1 ≤ k) (hv : zn_v (A (k - 1)) ≤ al (A (k - 1)) + 1) (hal : ∀ y, al' y = if y = A (k - 1) then -1 else al y) : zn_wA f (k - 1) al' A ∧ zn_Ph al' A (k - 1).toNat = zn_Ph al A k.toNat ∧ ∀ s, zn_st s → zn_lA k al A s → zn_lA (k - 1) al' A s := by
  have w0 := w
  obtain ⟨w1, w2, w3, w4⟩ := w
  have ne : ∀ j, 0 ≤ j → j < k - 1 → al' (A j) = al (A j) := fun j j0 j1 => by rw [hal, if_neg (w3 j (k - 1) j0 j1 (by omega))]
  refine ⟨⟨by omega, fun j j0 j1 => ?_, fun i j i0 ij jk => w3 i j i0 ij (by omega), fun x x0 x9 q => ?_⟩, ?_, fun s hs r => ?_⟩
  · rw [ne j j0 j1]; exact w2 j j0 (by omega)
  · rw [hal] at q
    by_cases c : x = A (k - 1)
    · rw [if_pos c] at q; exact absurd rfl q
    · rw [if_neg c] at q
      rcases w4 x x0 x9 q with z | ⟨j, j0, j1, z⟩
      · exact Or.inl z
      · exact Or.inr ⟨j, j0, by by_cases d : j = k - 1; (exact absurd (by rw [← z, d]) c); omega, z⟩
  · have e := zn_rk_c (A := A) (A' := A) (al := al) (al' := al') (k - 1).toNat (fun j j0 j1 => ⟨rfl, ne j j0 (by omega)⟩)
    have y := w2 (k - 1) (by omega) (by omega)
    have kk : k.toNat = (k - 1).toNat + 1 := by omega
    have kc : (((k - 1).toNat : Nat) : Int) = k - 1 := by omega
    have z := (zn_Ph_s (A := A) (al := al) (n := (k - 1).toNat) (by have h := zn_S_n w0 (n := k.toNat) (by omega); rw [kk] at h; exact h) (by rw [kc]; exact y.2.1) (by rw [kc]; exact y.2.2)).2 (by rw [kc]; exact hv)
    rw [kk, z]
    show zn_rk al' A (k - 1).toNat + zx_p2 (19 - zn_S A (k - 1).toNat) = zn_rk al A (k - 1).toNat + zx_p2 (19 - zn_S A (k - 1).toNat)
    rw [e.1]
  · obtain ⟨j, j0, j1, r1, r2⟩ := r
    have y := w2 j j0 j1
    have u := hs _ y.1.1 y.1.2.1
    have c : j < k - 1 := by
      by_cases d : j = k - 1
      · rw [d] at r2 u; omega
      · omega
    exact ⟨j, j0, c, fun i i0 i1 => by rw [ne i i0 (by omega)]; exact r1 i i0 i1, by rw [ne j j0 c]; exact r2⟩
/-- the last one is one more -/
theorem zn_inc (w : zn_wA f k al A) (k1 : 1 ≤ k) (hv : al (A (k - 1)) + 1 < zn_v (A (k - 1))) (hal : ∀ y, al' y = if y = A (k - 1) then al (A (k - 1)) + 1 else al y) : zn_wA f k al' A ∧ zn_rk al' A k.toNat = zn_Ph al A k.toNat ∧ ∀ s, zn_lA k al A s → zn_rA k al' A s := by
  obtain ⟨w1, w2, w3, w4⟩ := w
  have ne : ∀ j, 0 ≤ j → j < k - 1 → al' (A j) = al (A j) := fun j j0 j1 => by rw [hal, if_neg (w3 j (k - 1) j0 j1 (by omega))]
  have at_ : al' (A (k - 1)) = al (A (k - 1)) + 1 := by rw [hal, if_pos rfl]
  refine ⟨⟨w1, fun j j0 j1 => ?_, w3, fun x x0 x9 q => ?_⟩, ?_, fun s r => ?_⟩
  · have y := w2 j j0 j1
    by_cases c : j = k - 1
    · rw [c] at y ⊢; rw [at_]; exact ⟨y.1, by omega, hv⟩
    · rw [ne j j0 (by omega)]; exact y
  · by_cases c : x = A (k - 1)
    · exact Or.inr ⟨k - 1, by omega, by omega, c.symm⟩
    · rw [hal, if_neg c] at q; exact w4 x x0 x9 q
  · have e := zn_rk_c (A := A) (A' := A) (al := al) (al' := al') (k - 1).toNat (fun j j0 j1 => ⟨rfl, ne j j0 (by omega)⟩)
    have kk : k.toNat = (k - 1).toNat + 1 := by omega
    have kc : (((k - 1).toNat : Nat) : Int) = k - 1 := by omega
    rw [kk]
    show zn_rk al' A (k - 1).toNat + al' (A (((k - 1).toNat : Nat) : Int)) * zx_p2 (19 - zn_S A ((k - 1).toNat + 1)) = zn_rk al A (k - 1).toNat + al (A (((k - 1).toNat : Nat) : Int)) * zx_p2 (19 - zn_S A ((k - 1).toNat + 1)) + zx_p2 (19 - zn_S A ((k - 1).toNat + 1))
    rw [e.1, kc, at_, Int.add_mul, Int.one_mul]
    omega
  · obtain ⟨j, j0, j1, r1, r2⟩ := r
    by_cases c : j = k - 1
    · rw [c] at r1 r2
      by_cases d : s (A (k - 1)) = al (A (k - 1)) + 1
      · refine ⟨k, by omega, by omega, fun i i0 i1 => ?_, fun h => absurd h (by omega)⟩
        by_cases q : i = k - 1
        · rw [q, at_]; exact d
        · rw [ne i i0 (by omega)]; exact r1 i i0 (by omega)
      · exact ⟨k - 1, by omega, by omega, fun i i0 i1 => by rw [ne i i0 i1]; exact r1 i i0 i1, fun _ => by rw [at_]; omega⟩
    · exact ⟨j, j0, by omega, fun i i0 i1 => by rw [ne i i0 (by omega)]; exact r1 i i0 i1, fun _ => by rw [ne j j0 (by omega)]; exact r2⟩
/-- at first all is before one -/
theorem zn_rA_0 : zn_rA 0 al A s := ⟨0, by decide, by decide, fun i i0 i1 => absurd i1 (by omega), fun h => absurd h (by decide)⟩
theorem zn_wA_0 (h : ∀ x, 0 ≤ x → x ≤ 9 → al x = -1) : zn_wA f 0 al A := ⟨by decide, fun j j0 j1 => absurd j1 (by omega), fun i j i0 ij jk => absurd jk (by omega), fun x x0 x9 q => absurd (h x x0 x9) q⟩
/-- slot f set anew -/
theorem zn_wA_f {v : Int} (w : zn_wA f k al A) (hal : ∀ y, al' y = if y = f then v else al y) : zn_wA f k al' A ∧ zn_rk al' A k.toNat = zn_rk al A k.toNat ∧ (∀ s, zn_rA k al' A s ↔ zn_rA k al A s) := by
  have ne : ∀ j, 0 ≤ j → j < k → al' (A j) = al (A j) := fun j j0 j1 => by rw [hal, if_neg (w.2.1 j j0 j1).1.2.2]
  refine ⟨⟨w.1, fun j j0 j1 => by rw [ne j j0 j1]; exact w.2.1 j j0 j1, w.2.2.1, fun x x0 x9 q => ?_⟩, (zn_rk_c (A := A) (A' := A) k.toNat (fun j j0 j1 => ⟨rfl, ne j j0 (by omega)⟩)).1, fun s => ⟨fun r => ?_, fun r => ?_⟩⟩
  · by_cases c : x = f
    · exact Or.inl c
    · rw [hal, if_neg c] at q; exact w.2.2.2 x x0 x9 q
  · obtain ⟨j, j0, j1, r1, r2⟩ := r
    exact ⟨j, j0, j1, fun i i0 i1 => by rw [← ne i i0 (by omega)]; exact r1 i i0 i1, fun h => by rw [← ne j j0 h]; exact r2 h⟩
  · obtain ⟨j, j0, j1, r1, r2⟩ := r
    exact ⟨j, j0, j1, fun i i0 i1 => by rw [ne i i0 (by omega)]; exact r1 i i0 i1, fun h => by rw [ne j j0 h]; exact r2 h⟩
/-- some state is what is asked -/
theorem zn_some (w : zn_wA f k al A) (hf : 0 ≤ f → f ≤ 9 → 0 ≤ al f ∧ al f < zn_v f) : ∃ s, zn_st s ∧ (∀ x, 0 ≤ x → x ≤ 9 → al x ≠ -1 → s x = al x) := by
  refine ⟨fun x => if al x = -1 then 0 else al x, fun x x0 x9 => ?_, fun x x0 x9 q => if_neg q⟩
  show 0 ≤ (if al x = -1 then 0 else al x) ∧ (if al x = -1 then 0 else al x) < zn_v x
  have v := zn_v_b x
  by_cases c : al x = -1
  · rw [if_pos c]; omega
  · rw [if_neg c]
    rcases w.2.2.2 x x0 x9 c with q | ⟨j, j0, j1, q⟩
    · rw [q] at x0 x9 ⊢; exact hf x0 x9
    · have y := (w.2.1 j j0 j1).2
      rw [q] at y
      exact y
end ZNA
