/-! ===== the law from its entry to its end ===== -/
section ZLoop
variable {L : Nat} {xs : Nat → Int32} {b1 b : Nat} {V : Nat → Int → List Value → zq_S → zq_S → Prop} {pc : Nat} {i : Int} {st : List Value} {σ ρ : zq_S}
theorem zl_head (hV : zl_R L xs b1 b V) (hi : 0 ≤ i ∧ i ≤ (L : Int) + 5) (k1 : V 1317 i [] σ ρ) (k2 : i + 6 ≤ (L : Int) → V 27 i [] σ ρ) : V 18 i [] σ ρ := by
  refine zl_i3 hV dL_law_18 (zl_a0 hV dL_law_19 ?_)
  obtain ⟨p, l, e, s, m, below, meth, c, D, cA, E, hb1, rfl⟩ := hV
  intro H locs lsA hH hl
  obtain ⟨hx, hb, hr, hml, hown, hts, hK, hXw, hX, hbl, hlk, hL⟩ := E
  refine va_slen hx hb hX hbl (A := fun q => s.heap.size ≤ q) (Nat.not_le.mpr hbl) hH.2.2.1 dL_law_20 ?_
  refine lv_bipush (v := Int32.ofInt 6) hx hb dL_law_21 (by decide) ?_
  refine lv_isub hx hb dL_law_23 ?_
  have e1 : Int32.ofNat L - Int32.ofInt 6 = Int32.ofInt ((L : Int) - 6) := by
    rw [show Int32.ofNat L = Int32.ofInt (L : Int) from (by apply Int32.toBitVec_inj.mp; simp)]
    exact (zq_ofI_sub _ _)
  rw [e1]
  refine lv_icmp_gt (tgt := 1317) hx hb dL_law_24 (by decide) (fun h => ?_) (fun h => ?_)
  · exact k1 H locs lsA hH hl
  · rw [zq_ltI ⟨by omega, by omega⟩ ⟨by omega, by omega⟩] at h
    exact k2 (by omega) H locs lsA hH hl
theorem zl_what (hV : zl_R L xs b1 b V) (hi : 0 ≤ i ∧ i + 6 ≤ (L : Int)) (k : V 33 i [.int (Int32.ofInt (zq_and (zl_x xs i) 63))] σ ρ) : V 27 i [] σ ρ := by
  refine zl_a0 hV dL_law_27 (zl_i3 hV dL_law_28 (zl_ld hV (by omega) dL_law_29 ?_))
  obtain ⟨p, l, e, s, m, below, meth, c, D, cA, E, hb1, rfl⟩ := hV
  intro H locs lsA hH hl
  refine lv_bipush (v := Int32.ofInt 63) E.1 E.2.1 dL_law_30 (by decide) ?_
  refine lv_iand E.1 E.2.1 dL_law_32 ?_
  have e1 : Int32.ofInt (zl_x xs i) &&& Int32.ofInt 63 = Int32.ofInt (zq_and (zl_x xs i) 63) := (Int32.ofInt_toInt _).symm
  rw [e1]
  exact k H locs lsA hH hl
theorem zl_tabIn (hV : zl_R L xs b1 b V) (k0 : Int) (tgt : Nat) {dflt lo2 hi2 off : Int} {offs : Array Int} {len : Nat} (d : decode code 33 = .ok (.tableswitch dflt lo2 hi2 offs, len)) (h0 : zq_in k0) (h1 : lo2 ≤ k0) (h2 : k0 ≤ hi2) (ho : offs[(k0 - lo2).toNat]? = some off) (ht : (33 : Int) + off = (tgt : Int)) (k : V tgt i [] σ ρ) : V 33 i [.int (Int32.ofInt k0)] σ ρ := by
  obtain ⟨p, l, e, s, m, below, meth, c, D, cA, E, hb1, rfl⟩ := hV
  intro H locs lsA hH hl
  have e1 := zq_ofI h0
  exact lv_tableIn E.1 E.2.1 d (by rw [e1]; omega) (by rw [e1]; omega) (by rw [e1]; exact ho) ht (k H locs lsA hH hl)
theorem zl_tabOut (hV : zl_R L xs b1 b V) {k0 : Int} (tgt : Nat) {dflt lo2 hi2 : Int} {offs : Array Int} {len : Nat} (d : decode code 33 = .ok (.tableswitch dflt lo2 hi2 offs, len)) (h0 : zq_in k0) (h : k0 < lo2 ∨ hi2 < k0) (ht : (33 : Int) + dflt = (tgt : Int)) (k : V tgt i [] σ ρ) : V 33 i [.int (Int32.ofInt k0)] σ ρ := by
  obtain ⟨p, l, e, s, m, below, meth, c, D, cA, E, hb1, rfl⟩ := hV
  intro H locs lsA hH hl
  have e1 := zq_ofI h0
  exact lv_tableOut E.1 E.2.1 d (by rw [e1]; exact h) ht (k H locs lsA hH hl)
theorem zl_next (hV : zl_R L xs b1 b V) (k : V 18 (i + 6) [] σ ρ) : V 1311 i [] σ ρ := by
  have k2 := zl_goto hV 18 (pc := 1314) dL_law_1314 (by decide) k
  obtain ⟨p, l, e, s, m, below, meth, c, D, cA, E, rfl, rfl⟩ := hV
  intro H locs lsA hH hl
  refine lv_iinc (k := 0) (lv' := zl_ls s.heap.size b (i + 6)) E.1 E.2.1 dL_law_1311 hl rfl (v := Int32.ofInt (i + 6)) (by rw [zq_ofI_add]) (by decide) rfl (fun ls2 hl2 => ?_)
  exact k2 H locs ls2 hH hl2
theorem zl_end (hV : zl_R L xs b1 b V) : V 1317 i [] σ ρ := by
  obtain ⟨p, l, e, s, m, below, meth, c, D, cA, E, hb1, rfl⟩ := hV
  intro H locs lsA hH hl
  refine lv_iconst (v := 1) E.1 E.2.1 dL_law_1317 (by decide) ?_
  refine va_forget (fun q hq => hH.2.2.1.2.2 q hq) ?_
  refine W.widen (k := 600000) (n := 7302250) (by decide) zl_SL_le ?_
  exact lw_ret E.1 E.2.1 E.2.2.1 E.2.2.2.2.2.2.2.2.2.2.1 dL_law_1318
theorem zl_step (hV : zl_R L xs b1 b V) (hi : 0 ≤ i ∧ i + 6 ≤ (L : Int)) (hI : zl_I σ ρ) (hend : ∀ σ ρ, zl_I σ ρ → V 1311 i [] σ ρ) : V 27 i [] σ ρ := by
  refine zl_what hV hi ?_
  have hm := zq_and_mask (zl_x xs i) 6 63 64 (by decide) (by decide) (by decide)
  generalize zq_and (zl_x xs i) 63 = z at hm ⊢
  by_cases c0 : z = 0
  · rw [c0]; exact zl_tabIn hV 0 204 dL_law_33 ⟨by decide, by decide⟩ (by decide) (by decide) rfl (by decide) (zl_case0 hV hi hI hend)
  by_cases c1 : z = 1
  · rw [c1]; exact zl_tabIn hV 1 247 dL_law_33 ⟨by decide, by decide⟩ (by decide) (by decide) rfl (by decide) (zl_case1 hV hi hI hend)
  by_cases c2 : z = 2
  · rw [c2]; exact zl_tabIn hV 2 310 dL_law_33 ⟨by decide, by decide⟩ (by decide) (by decide) rfl (by decide) (zl_case2 hV hi hI hend)
  by_cases c3 : z = 3
  · rw [c3]; exact zl_tabIn hV 3 323 dL_law_33 ⟨by decide, by decide⟩ (by decide) (by decide) rfl (by decide) (zl_case3 hV hi hI hend)
  by_cases c4 : z = 4
  · rw [c4]; exact zl_tabIn hV 4 336 dL_law_33 ⟨by decide, by decide⟩ (by decide) (by decide) rfl (by decide) (zl_case4 hV hi hI hend)
  by_cases c5 : z = 5
  · rw [c5]; exact zl_tabIn hV 5 349 dL_law_33 ⟨by decide, by decide⟩ (by decide) (by decide) rfl (by decide) (zl_case5 hV hi hI hend)
  by_cases c6 : z = 6
  · rw [c6]; exact zl_tabIn hV 6 382 dL_law_33 ⟨by decide, by decide⟩ (by decide) (by decide) rfl (by decide) (zl_case6 hV hi hI hend)
  by_cases c7 : z = 7
  · rw [c7]; exact zl_tabIn hV 7 405 dL_law_33 ⟨by decide, by decide⟩ (by decide) (by decide) rfl (by decide) (zl_case7 hV hi hI hend)
  by_cases c8 : z = 8
  · rw [c8]; exact zl_tabIn hV 8 438 dL_law_33 ⟨by decide, by decide⟩ (by decide) (by decide) rfl (by decide) (zl_case8 hV hi hI hend)
  by_cases c9 : z = 9
  · rw [c9]; exact zl_tabIn hV 9 451 dL_law_33 ⟨by decide, by decide⟩ (by decide) (by decide) rfl (by decide) (zl_case9 hV hi hI hend)
  by_cases c10 : z = 10
  · rw [c10]; exact zl_tabIn hV 10 474 dL_law_33 ⟨by decide, by decide⟩ (by decide) (by decide) rfl (by decide) (zl_case10 hV hi hI hend)
  by_cases c11 : z = 11
  · rw [c11]; exact zl_tabIn hV 11 497 dL_law_33 ⟨by decide, by decide⟩ (by decide) (by decide) rfl (by decide) (zl_case11 hV hi hI hend)
  by_cases c12 : z = 12
  · rw [c12]; exact zl_tabIn hV 12 520 dL_law_33 ⟨by decide, by decide⟩ (by decide) (by decide) rfl (by decide) (zl_case12 hV hi hI hend)
  by_cases c13 : z = 13
  · rw [c13]; exact zl_tabIn hV 13 543 dL_law_33 ⟨by decide, by decide⟩ (by decide) (by decide) rfl (by decide) (zl_case13 hV hi hI hend)
  by_cases c14 : z = 14
  · rw [c14]; exact zl_tabIn hV 14 576 dL_law_33 ⟨by decide, by decide⟩ (by decide) (by decide) rfl (by decide) (zl_case14 hV hi hI hend)
  by_cases c15 : z = 15
  · rw [c15]; exact zl_tabIn hV 15 609 dL_law_33 ⟨by decide, by decide⟩ (by decide) (by decide) rfl (by decide) (zl_case15 hV hi hI hend)
  by_cases c16 : z = 16
  · rw [c16]; exact zl_tabIn hV 16 632 dL_law_33 ⟨by decide, by decide⟩ (by decide) (by decide) rfl (by decide) (zl_case16 hV hi hI hend)
  by_cases c17 : z = 17
  · rw [c17]; exact zl_tabIn hV 17 675 dL_law_33 ⟨by decide, by decide⟩ (by decide) (by decide) rfl (by decide) (zl_case17 hV hi hI hend)
  by_cases c18 : z = 18
  · rw [c18]; exact zl_tabIn hV 18 708 dL_law_33 ⟨by decide, by decide⟩ (by decide) (by decide) rfl (by decide) (zl_case18 hV hi hI hend)
  by_cases c19 : z = 19
  · rw [c19]; exact zl_tabIn hV 19 721 dL_law_33 ⟨by decide, by decide⟩ (by decide) (by decide) rfl (by decide) (zl_case19 hV hi hI hend)
  by_cases c20 : z = 20
  · rw [c20]; exact zl_tabIn hV 20 744 dL_law_33 ⟨by decide, by decide⟩ (by decide) (by decide) rfl (by decide) (zl_case20 hV hi hI hend)
  by_cases c21 : z = 21
  · rw [c21]; exact zl_tabIn hV 21 767 dL_law_33 ⟨by decide, by decide⟩ (by decide) (by decide) rfl (by decide) (zl_case21 hV hi hI hend)
  by_cases c22 : z = 22
  · rw [c22]; exact zl_tabIn hV 22 790 dL_law_33 ⟨by decide, by decide⟩ (by decide) (by decide) rfl (by decide) (zl_case22 hV hi hI hend)
  by_cases c23 : z = 23
  · rw [c23]; exact zl_tabIn hV 23 813 dL_law_33 ⟨by decide, by decide⟩ (by decide) (by decide) rfl (by decide) (zl_case23 hV hi hI hend)
  by_cases c24 : z = 24
  · rw [c24]; exact zl_tabIn hV 24 826 dL_law_33 ⟨by decide, by decide⟩ (by decide) (by decide) rfl (by decide) (zl_case24 hV hi hI hend)
  by_cases c25 : z = 25
  · rw [c25]; exact zl_tabIn hV 25 859 dL_law_33 ⟨by decide, by decide⟩ (by decide) (by decide) rfl (by decide) (zl_case25 hV hi hI hend)
  by_cases c26 : z = 26
  · rw [c26]; exact zl_tabIn hV 26 882 dL_law_33 ⟨by decide, by decide⟩ (by decide) (by decide) rfl (by decide) (zl_case26 hV hi hI hend)
  by_cases c27 : z = 27
  · rw [c27]; exact zl_tabIn hV 27 895 dL_law_33 ⟨by decide, by decide⟩ (by decide) (by decide) rfl (by decide) (zl_case27 hV hi hI hend)
  by_cases c28 : z = 28
  · rw [c28]; exact zl_tabIn hV 28 908 dL_law_33 ⟨by decide, by decide⟩ (by decide) (by decide) rfl (by decide) (zl_case28 hV hi hI hend)
  by_cases c29 : z = 29
  · rw [c29]; exact zl_tabIn hV 29 931 dL_law_33 ⟨by decide, by decide⟩ (by decide) (by decide) rfl (by decide) (zl_case29 hV hi hI hend)
  by_cases c30 : z = 30
  · rw [c30]; exact zl_tabIn hV 30 944 dL_law_33 ⟨by decide, by decide⟩ (by decide) (by decide) rfl (by decide) (zl_case30 hV hi hI hend)
  by_cases c31 : z = 31
  · rw [c31]; exact zl_tabIn hV 31 987 dL_law_33 ⟨by decide, by decide⟩ (by decide) (by decide) rfl (by decide) (zl_case31 hV hi hI hend)
  by_cases c32 : z = 32
  · rw [c32]; exact zl_tabIn hV 32 1020 dL_law_33 ⟨by decide, by decide⟩ (by decide) (by decide) rfl (by decide) (zl_case32 hV hi hI hend)
  by_cases c33 : z = 33
  · rw [c33]; exact zl_tabIn hV 33 1043 dL_law_33 ⟨by decide, by decide⟩ (by decide) (by decide) rfl (by decide) (zl_case33 hV hi hI hend)
  by_cases c34 : z = 34
  · rw [c34]; exact zl_tabIn hV 34 1076 dL_law_33 ⟨by decide, by decide⟩ (by decide) (by decide) rfl (by decide) (zl_case34 hV hi hI hend)
  by_cases c35 : z = 35
  · rw [c35]; exact zl_tabIn hV 35 1129 dL_law_33 ⟨by decide, by decide⟩ (by decide) (by decide) rfl (by decide) (zl_case35 hV hi hI hend)
  by_cases c36 : z = 36
  · rw [c36]; exact zl_tabIn hV 36 1192 dL_law_33 ⟨by decide, by decide⟩ (by decide) (by decide) rfl (by decide) (zl_case36 hV hi hI hend)
  by_cases c37 : z = 37
  · rw [c37]; exact zl_tabIn hV 37 1235 dL_law_33 ⟨by decide, by decide⟩ (by decide) (by decide) rfl (by decide) (zl_case37 hV hi hI hend)
  by_cases c38 : z = 38
  · rw [c38]; exact zl_tabIn hV 38 1258 dL_law_33 ⟨by decide, by decide⟩ (by decide) (by decide) rfl (by decide) (zl_case38 hV hi hI hend)
  exact zl_tabOut hV 1311 dL_law_33 ⟨by omega, by omega⟩ (Or.inr (by omega)) (by decide) (hend _ _ hI)
theorem zl_loop (hV : zl_R L xs b1 b V) : ∀ (fuel : Nat) (i : Int) (σ ρ : zq_S), 0 ≤ i ∧ i ≤ (L : Int) + 5 → zl_I σ ρ → (L : Int) + 6 - i < (fuel : Int) → V 18 i [] σ ρ := by
  intro fuel
  induction fuel with
  | zero => intro i σ ρ hi _ hm; exfalso; omega
  | succ fuel ih =>
    intro i σ ρ hi hI hm
    refine zl_head hV hi (zl_end hV) (fun h => ?_)
    exact zl_step hV (by omega) hI (fun σ' ρ' hI' => zl_next hV (ih (i + 6) σ' ρ' (by omega) hI' (by omega)))
end ZLoop
section ZLNew
variable {p : Program} {l : Launch} {e : Env} {s : State} {m : MethodId} {below : List Frame} {meth : Method} {c : Code} {D : va_G} {cA : Nat → ClassId} {b L : Nat} {xs : Nat → Int32} {H : Heap} {locs : List Loc} {lsA : Array Slot} {Q : State → Prop} {pc : Nat} {rest : List Value} {cells slots : Nat}
theorem zl_new (E : zl_E p s m meth c b L xs D cA) {w : zq_W} {ci idx N : Nat} {C : String} {T : u_T} {ws2 : va_W} (d : decode code pc = .ok (.new idx, 3)) (hc : zq_cl[ci]? = some (C, T, N)) (hin : ∀ q ∈ u_ws C T N, q ∈ zq_tb) (hty : ∀ k, k < N → parseFieldDescriptor (T k).2.2.1 = some (zq_ty ci k)) (htc : ∀ k, k < N → zq_tc ci k ≤ 2) (hcl : Cond.classLink "OrdersToldLaw" idx C ∈ zq_tb) (hins : Cond.instantiable C N ∈ zq_tb) (hini : Cond.initialized C ∈ zq_tb) (hw : w.2 (w.1 0) = .inr ci) (h1 : cells + 1 ≤ 600000) (h2 : slots + N ≤ 7302250) (hP2 : va_P D zq_cl ws2 H) (hS : va_S (fun q => s.heap.size ≤ q) s.heap H locs)
    (k : ∀ H1 : Heap, va_P D zq_cl (zq_ws w cA H.size 1 (zq_cell (fun _ _ => 0) 0 (zq_df ci))) H1 → va_P D zq_cl ws2 H1 → va_S (fun q => s.heap.size ≤ q) s.heap H1 locs → H1.size = H.size + 1 → W p l e room_1 s m #[Value.ref b] below meth c H1 locs (cells + 1) (slots + N) Q (F0 m (pc + 3) lsA (.ref H.size :: rest))) :
    W p l e room_1 s m #[Value.ref b] below meth c H locs cells slots Q (F0 m pc lsA rest) := by
  obtain ⟨hx, hb, hr, hml, hown, hts, hK, hXw, hX, hbl, hlk, hL⟩ := E
  have hKn := hK.1 ci _ hc
  have hnf : zq_nf ci = N := zq_nf_of hc
  refine W.newcK hx hb hown (hts _ hcl) (hts _ hins) (hts _ hini) rfl d h1 h2 hKn.2.1 rfl fun H1 kC hkC e1 z1 o1 => ?_
  refine k H1 (fun a q hq => ?_) (hP2.kept (fun k9 x hx9 => o1 x.1 ((hP2 k9 x hx9).lt))) ⟨by have := hS.1; omega, fun q g1 g2 => (o1 q (by have := hS.1; omega)).trans (hS.2.1 q g1 g2), hS.2.2⟩ z1
  obtain ⟨ha, rfl⟩ := zq_at_inv hq
  have ha0 : a = 0 := by omega
  subst ha0
  rw [show w.2 (w.1 ((0 : Nat) : Int)) = .inr ci from hw, zq_ent_obj]
  refine ⟨_, hc, ?_⟩
  have g1 := u_born (zq_ty ci) hts hin hKn hkC e1 hty
  refine g1.to (fun j hj => ?_)
  have hj2 : j < zq_nf ci := by rw [hnf]; exact hj
  have hz : zq_cell (fun _ _ => 0) 0 (zq_df ci) ((0 : Nat) : Int) = zq_df ci := if_pos rfl
  rw [hz]
  simp [vp_V, hj2, zq_df_val (b := H.size) (htc j hj)]
end ZLNew
theorem zl_over {A : Array Value} {U : State} (h : (Cond.arrayOver (.array .int)).before A U = true) : ∃ comp c k, U.vm.classes[c]? = some k ∧ k.kind = .array comp (.array .int) ∧ U.vm.findClass ("[" ++ (FieldType.array .int).toString) = some c := by
  simp only [Cond.before, Cond.holds, Cond.value, beq_iff_eq] at h
  cases hc : U.vm.findClass (FieldType.array .int).toString with
  | none => simp [hc] at h
  | some comp =>
    simp only [hc, Option.bind_some, Option.bind_eq_some_iff, Option.map_eq_some_iff] at h
    obtain ⟨c, hi, k, hk, hb⟩ := h
    obtain ⟨hlt, hp, -⟩ := Array.findIdx?_eq_some_iff_getElem.mp hi
    have hkk : U.vm.classes[c] = k := (Array.getElem?_eq_some_iff.mp hk).2
    rw [hkk] at hp
    cases hkind : k.kind with
    | array component ty =>
      rw [hkind] at hb hp
      simp at hb hp
      exact ⟨comp, c, k, hk, by rw [hkind, hp, hb.1], hb.2⟩
    | _ => rw [hkind] at hb; simp at hb
theorem zl_known {A : Array Value} {s : State} (hts : ∀ q ∈ lw_tbl, q.before A s = true) : ∃ (D : va_G) (cA : Nat → ClassId), va_K D zq_cl (zq_tys cA) s := by
  have hk : ∀ k : Nat, ∃ (cC : ClassId) (iS : Nat → Nat), ∀ q : vw_C, zq_cl[k]? = some q → u_Kn s q.1 q.2.1 q.2.2 cC iS := by
    intro k
    match k with
    | 0 =>
      obtain ⟨cN, iN, hN⟩ := u_known (C := RX2) (T := TX2) (N := 6) (n := 6) hts zq_inX2 (hts (.instantiable RX2 6) (by decide +kernel))
      obtain ⟨pc, kk, kp, hf, -, hkp, -, -, hkind, -⟩ := Cond.superclass_spec hN.2.1 (hts (.superclass RX2 RX0) (by decide +kernel))
      exact ⟨pc, fun _ => 0, fun q hq => by cases hq; exact ⟨fun j hj => absurd hj (Nat.not_lt_zero j), hf, kp, hkp, hkind⟩⟩
    | 1 =>
      obtain ⟨cN, iN, hN⟩ := u_known (C := RX1) (T := TX1) (N := 10) (n := 10) hts zq_inX1 (hts (.instantiable RX1 10) (by decide +kernel))
      exact ⟨cN, iN, fun q hq => by cases hq; exact hN⟩
    | 2 =>
      obtain ⟨cN, iN, hN⟩ := u_known (C := RX2) (T := TX2) (N := 6) (n := 6) hts zq_inX2 (hts (.instantiable RX2 6) (by decide +kernel))
      exact ⟨cN, iN, fun q hq => by cases hq; exact hN⟩
    | 3 =>
      obtain ⟨cN, iN, hN⟩ := u_known (C := RX3) (T := TX3) (N := 17) (n := 17) hts zq_inX3 (hts (.instantiable RX3 17) (by decide +kernel))
      exact ⟨cN, iN, fun q hq => by cases hq; exact hN⟩
    | 4 =>
      obtain ⟨cN, iN, hN⟩ := u_known (C := RX4) (T := TX4) (N := 4) (n := 4) hts zq_inX4 (hts (.instantiable RX4 4) (by decide +kernel))
      exact ⟨cN, iN, fun q hq => by cases hq; exact hN⟩
    | 5 =>
      obtain ⟨cN, iN, hN⟩ := u_known (C := RX5) (T := TX5) (N := 3) (n := 3) hts zq_inX5 (hts (.instantiable RX5 3) (by decide +kernel))
      exact ⟨cN, iN, fun q hq => by cases hq; exact hN⟩
    | 6 =>
      obtain ⟨cN, iN, hN⟩ := u_known (C := RX6) (T := TX6) (N := 15) (n := 15) hts zq_inX6 (hts (.instantiable RX6 15) (by decide +kernel))
      exact ⟨cN, iN, fun q hq => by cases hq; exact hN⟩
    | 7 =>
      obtain ⟨cN, iN, hN⟩ := u_known (C := RX7) (T := TX7) (N := 10) (n := 10) hts zq_inX7 (hts (.instantiable RX7 10) (by decide +kernel))
      exact ⟨cN, iN, fun q hq => by cases hq; exact hN⟩
    | 8 =>
      obtain ⟨cN, iN, hN⟩ := u_known (C := RX8) (T := TX8) (N := 4) (n := 4) hts zq_inX8 (hts (.instantiable RX8 4) (by decide +kernel))
      exact ⟨cN, iN, fun q hq => by cases hq; exact hN⟩
    | 9 =>
      obtain ⟨cN, iN, hN⟩ := u_known (C := RX9) (T := TX9) (N := 8) (n := 8) hts zq_inX9 (hts (.instantiable RX9 8) (by decide +kernel))
      exact ⟨cN, iN, fun q hq => by cases hq; exact hN⟩
    | 10 =>
      obtain ⟨cN, iN, hN⟩ := u_known (C := RX10) (T := TX10) (N := 9) (n := 9) hts zq_inX10 (hts (.instantiable RX10 9) (by decide +kernel))
      exact ⟨cN, iN, fun q hq => by cases hq; exact hN⟩
    | 11 =>
      obtain ⟨cN, iN, hN⟩ := u_known (C := RX11) (T := TX11) (N := 8) (n := 8) hts zq_inX11 (hts (.instantiable RX11 8) (by decide +kernel))
      exact ⟨cN, iN, fun q hq => by cases hq; exact hN⟩
    | 12 =>
      obtain ⟨cN, iN, hN⟩ := u_known (C := RX12) (T := TX12) (N := 65) (n := 65) hts zq_inX12 (hts (.instantiable RX12 65) (by decide +kernel))
      exact ⟨cN, iN, fun q hq => by cases hq; exact hN⟩
    | k + 13 => exact ⟨0, fun _ => 0, fun q hq => by simp [zq_cl] at hq⟩
  obtain ⟨c0, k0, m0, a1, a2, a3⟩ := Cond.arrayClass_spec (hts (.arrayClass .int) (by decide +kernel))
  obtain ⟨m1, c1, k1, b1, b2, b3, b4, b5⟩ := Cond.arrayOver_spec (hts (.arrayOver (.object RX3)) (by decide +kernel))
  obtain ⟨m2, c2, k2, d1, d2, d3⟩ := zl_over (hts (.arrayOver (.array .int)) (by decide +kernel))
  refine ⟨(fun k => Classical.choose (hk k), fun k => Classical.choose (Classical.choose_spec (hk k))), fun t => if t = 0 then c0 else if t = 1 then c1 else c2, fun k q hq => Classical.choose_spec (Classical.choose_spec (hk k)) q hq, fun k q hq => ?_⟩
  match k, hq with
  | 0, hq => cases hq; exact ⟨fun N z => ⟨(fun q h => by cases h), k0, a2, m0, a3⟩, a1⟩
  | 1, hq => cases hq; exact ⟨fun N z => ⟨(fun q h => by cases h), k1, b3, m1, b4⟩, k1, m1, b3, b4, b1, b5⟩
  | 2, hq => cases hq; exact ⟨fun N z => ⟨(fun q h => by cases h), k2, d1, m2, d2⟩, d3⟩
  | k + 3, hq => simp [zq_tys] at hq
theorem whole_start {p : Program} {e : Env} {s : State} {m : MethodId} {below : List Frame} {meth : Method} {c : Code} (l : Launch) {b L : Nat} {xs : Nat → Int32} (hL : L ≤ 3072) (C0 : lw_At p s m meth c b L xs) : W p l e room_1 s m #[Value.ref b] below meth c s.heap [] 0 0 (lw_Z below #[Value.ref b] s) (entryFrame m ([Value.ref b] : List Value).toArray 4) := by
  obtain ⟨hx, hb, hr, hml, hown, hts0, hX, hbl, hlocks, hgv⟩ := id C0
  obtain ⟨D, cA, hK⟩ := zl_known hts0
  have E : zl_E p s m meth c b L xs D cA := ⟨hx, hb, hr, hml, hown, fun q hq => hts0 q (List.mem_filter.mp hq).1, hK, zq_X_of hts0, hX, hbl, hlocks, hL⟩
  have hV : zl_R L xs s.heap.size b (zl_V p l e s m below meth c D cA b) := ⟨p, l, e, s, m, below, meth, c, D, cA, E, rfl, rfl⟩
  have hS : va_S (fun q : Nat => s.heap.size ≤ q) s.heap s.heap [] := va_S.rf
  have hl := lv_entry ([.ref b]) (n := 4) (Nat.le_of_ble_eq_true rfl)
  rw [lg_entry_eq]
  generalize (lg_sl ([.ref b]) ++ List.replicate (4 - (lg_sl ([.ref b])).length) Slot.unset).toArray = ls at hl ⊢
  have hl : lv_has ls 4 [(0, .ref b)] := hl
  have hP0 : va_P D zq_cl [] s.heap := fun k q h => by simp at h
  refine zl_new E (w := zc_w) (ci := 11) (ws2 := []) dL_law_0 rfl zq_tbX11 tyX11_ok ct11 cL_7 ci11 cn11 rfl (by decide) (by decide) hP0 hS (fun H1 hP1 _ hS1 hz1 => ?_)
  refine lv_dup hx hb dL_law_3 rfl ?_
  refine zl_callI E (w := zc_w) (bb := s.heap.size) (n := 1) (n' := 284) (ws2 := []) (c_X11_init_1 (fun i => rfl)) iL_9 dL_law_4 (by decide) (Nat.le_of_ble_eq_true rfl) (Nat.le_refl _) hz1 (fun k q h => by simp at h) hP1 (fun k q h => by simp at h) hS1 hl.1 (by decide) (by decide +kernel) (fun σ H2 locs2 hI1 hP2 _ hS2 hz2 => ?_)
  refine lv_astore_n (lv' := [(1, .ref s.heap.size), (0, .ref b)]) hx hb dL_law_7 rfl hl (by decide) rfl (fun ls hl => ?_)
  have hz2' : H2.size = s.heap.size + 284 := by omega
  refine zl_new E (w := zx_w) (ci := 12) (ws2 := zq_ws zc_w cA s.heap.size 284 σ) dL_law_8 rfl zq_tbX12 tyX12_ok ct12 cL_10 ci12 cn12 rfl (by decide) (by decide +kernel) hP2 hS2 (fun H3 hP3 hP2 hS3 hz3 => ?_)
  rw [hz2'] at hP3
  rw [hz2']
  refine lv_dup hx hb dL_law_11 rfl ?_
  refine zl_callI E (w := zx_w) (bb := s.heap.size + 284) (n := 1) (n' := 41) (ws2 := zq_ws zc_w cA s.heap.size 284 σ) (c_X12_init_1 (fun i => rfl) (fun a i ha => zq_cell_no ha)) iL_12 dL_law_12 (by decide) (Nat.le_of_ble_eq_true rfl) (by omega) (by omega) (fun k q hq => ?_) hP3 hP2 hS3 hl.1 (by decide) (by decide +kernel) (fun ρ H4 locs4 hI2 hP4 hP2 hS4 hz4 => ?_)
  · obtain ⟨h1, rfl⟩ := zq_at_inv hq
    exact ⟨by show s.heap.size + k < H3.size; omega, Or.inl (by show s.heap.size + k < s.heap.size + 284; omega)⟩
  refine lv_astore_n (lv' := [(2, .ref (s.heap.size + 284)), (1, .ref s.heap.size), (0, .ref b)]) hx hb dL_law_15 rfl hl (by decide) rfl (fun ls hl => ?_)
  refine lv_iconst (v := 0) hx hb dL_law_16 (by decide) ?_
  refine lv_istore_n (lv' := zl_ls s.heap.size b 0) hx hb dL_law_17 rfl hl (by decide) rfl (fun ls hl => ?_)
  refine W.widen (k := 325) (n := zl_SL) (by decide) (by decide +kernel) ?_
  exact zl_loop hV (L + 7) 0 σ ρ (by omega) ⟨hI1.1, hI1.2.1, hI2.1, hI2.2.1, hI2.2.2.1, hI2.2.2.2.1, hI2.2.2.2.2.1, hI2.2.2.2.2.2.1, hI2.2.2.2.2.2.2.1, zu_start hI1.2.2 hI2.2.2.2.2.2.2.2, zu_startN hI1.2.2 hI2.2.2.2.2.2.2.2⟩ (by omega) H4 locs4 ls ⟨hP2, hP4, hS4, by omega⟩ hl
