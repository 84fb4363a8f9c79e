/-! ===== fewer locals; switches ===== -/
def zq_le : List (Option zq_Z) → List (Option zq_Z) → Prop
  | [], _ => True
  | none :: r, _ :: r2 => zq_le r r2
  | none :: r, [] => zq_le r []
  | some v :: r, x :: r2 => x = some v ∧ zq_le r r2
  | some _ :: _, [] => False
theorem zq_le_at : ∀ {l l2 : List (Option zq_Z)}, zq_le l l2 → ∀ {i : Nat} {v : zq_Z}, l[i]? = some (some v) → l2[i]? = some (some v)
  | [], _, _, i, v, hv => by simp at hv
  | none :: r, x :: r2, h, 0, v, hv => by simp at hv
  | none :: r, x :: r2, h, i + 1, v, hv => by
    have := zq_le_at (l := r) (l2 := r2) h (i := i) (v := v) (by simpa using hv)
    simpa using this
  | none :: r, [], h, 0, v, hv => by simp at hv
  | none :: r, [], h, i + 1, v, hv => by
    have := zq_le_at (l := r) (l2 := []) h (i := i) (v := v) (by simpa using hv)
    simp at this
  | some u :: r, x :: r2, h, 0, v, hv => by
    have e : u = v := by simpa using hv
    subst e
    simp [h.1]
  | some u :: r, x :: r2, h, i + 1, v, hv => by
    have := zq_le_at (l := r) (l2 := r2) h.2 (i := i) (v := v) (by simpa using hv)
    simpa using this
  | some _ :: _, [], h, _, _, _ => h.elim
section ZQMore
variable {w : zq_W} {own : String} {cc : ByteArray} {nL fr lo n0 n1 : Nat} {nm : String} {rt : Option FieldType} {Po : Option zq_Z → zq_S → Prop} {V : Nat → List (Option zq_Z) → List zq_Z → Nat → zq_S → Prop} {pc n : Nat} {ls : List (Option zq_Z)} {st : List zq_Z} {σ : zq_S}
theorem zr_sub (hV : zq_R w own cc nL fr lo n0 n1 nm rt Po V) (ls2 : List (Option zq_Z)) (h : zq_le ls2 ls) (k : V pc ls2 st n σ) : V pc ls st n σ := by
  obtain ⟨p, l, e, s, m, args, below, meth, c, D, cA, b, hx, hb, hml, hown, hts, hK, hbs, hal, hrt, hlk, hnm, hXw, rfl⟩ := hV
  intro H locs lsA hnn hP hS hz hl
  refine k H locs lsA hnn hP hS hz (zq_lsub hl (fun q hq => ?_))
  obtain ⟨i, z, h1, rfl⟩ := zq_ll_mem hq
  exact zq_ll_in (zq_le_at h h1)
theorem zr_tableIn (hV : zq_R w own cc nL fr lo n0 n1 nm rt Po V) (tgt : Nat) {x dflt lo2 hi2 off : Int} {offs : Array Int} {len : Nat} (d : decode cc pc = .ok (.tableswitch dflt lo2 hi2 offs, len)) (hi : zq_in x) (h1 : lo2 ≤ x) (h2 : x ≤ hi2) (ho : offs[(x - lo2).toNat]? = some off) (ht : (pc : Int) + off = (tgt : Int)) (k : V tgt ls st n σ) : V pc ls (ZI x :: st) n σ := by
  obtain ⟨p, l, e, s, m, args, below, meth, c, D, cA, b, hx, hb, hml, hown, hts, hK, hbs, hal, hrt, hlk, hnm, hXw, rfl⟩ := hV
  intro H locs lsA hnn hP hS hz hl
  have e1 := zq_ofI hi
  exact lv_tableIn hx hb d (by rw [e1]; omega) (by rw [e1]; omega) (by rw [e1]; exact ho) ht (k H locs lsA hnn hP hS hz hl)
theorem zr_tableOut (hV : zq_R w own cc nL fr lo n0 n1 nm rt Po V) (tgt : Nat) {x dflt lo2 hi2 : Int} {offs : Array Int} {len : Nat} (d : decode cc pc = .ok (.tableswitch dflt lo2 hi2 offs, len)) (hi : zq_in x) (h : x < lo2 ∨ hi2 < x) (ht : (pc : Int) + dflt = (tgt : Int)) (k : V tgt ls st n σ) : V pc ls (ZI x :: st) n σ := by
  obtain ⟨p, l, e, s, m, args, below, meth, c, D, cA, b, hx, hb, hml, hown, hts, hK, hbs, hal, hrt, hlk, hnm, hXw, rfl⟩ := hV
  intro H locs lsA hnn hP hS hz hl
  have e1 := zq_ofI hi
  exact lv_tableOut hx hb d (by rw [e1]; exact h) ht (k H locs lsA hnn hP hS hz hl)
theorem zr_lookup (hV : zq_R w own cc nL fr lo n0 n1 nm rt Po V) (tgt : Nat) {x dflt off : Int} {ps : Array (Int × Int)} {len : Nat} (d : decode cc pc = .ok (.lookupswitch dflt ps, len)) (hi : zq_in x) (hp : (ps.toList.zip (ps.toList.drop 1)).all (fun (a, next) => a.1 < next.1) = true) (ho : Op.lookupswitch.offset ps.toList dflt x = off) (ht : (pc : Int) + off = (tgt : Int)) (k : V tgt ls st n σ) : V pc ls (ZI x :: st) n σ := by
  obtain ⟨p, l, e, s, m, args, below, meth, c, D, cA, b, hx, hb, hml, hown, hts, hK, hbs, hal, hrt, hlk, hnm, hXw, rfl⟩ := hV
  intro H locs lsA hnn hP hS hz hl
  exact lv_lookup hx hb d hp (by rw [zq_ofI hi]; exact ho) ht (k H locs lsA hnn hP hS hz hl)
end ZQMore
