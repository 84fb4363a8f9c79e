/-! ===== a LINE read ===== -/
section ZUln
variable (H : Int → Bool) (X : Int → Int) (t : Int → Int) (n : Int)
end ZUln
section ZUln2
variable {H : Int → Bool} {X : Int → Int} {t : Int → Int} {n a k : Int}
end ZUln2
/-! ===== a FIELD put into bits ===== -/
def zu_wfF (m b r : Int) : Nat → Int × Int
  | 0 => (b, r)
  | k + 1 => if zq_and m (zx_p2 k) ≠ 0 then (zq_or (zu_wfF m b r k).1 (if zq_and (zu_wfF m b r k).2 1 = 0 then 0 else zx_p2 k), zq_shr (zu_wfF m b r k).2 1) else zu_wfF m b r k
def zu_wf (m b r k : Int) : Int × Int := zu_wfF m b r k.toNat
section ZUwf
variable {m b r k : Int}
theorem zu_wf_e (h : 0 ≤ k) : zu_wf m b r (k + 1) = if zq_and m (zx_p2 k) ≠ 0 then (zq_or (zu_wf m b r k).1 (if zq_and (zu_wf m b r k).2 1 = 0 then 0 else zx_p2 k), zq_shr (zu_wf m b r k).2 1) else zu_wf m b r k := by
  obtain ⟨j, rfl⟩ := Int.eq_ofNat_of_zero_le h
  rfl
theorem zu_wf_n (h : 0 ≤ k) (hm : zq_and m (zx_p2 k) = 0) : zu_wf m b r (k + 1) = zu_wf m b r k := by rw [zu_wf_e h, if_neg (fun q => q hm)]
theorem zu_wf_y0 (h : 0 ≤ k) (hm : zq_and m (zx_p2 k) ≠ 0) (hr : zq_and (zu_wf m b r k).2 1 = 0) : zu_wf m b r (k + 1) = (zq_or (zu_wf m b r k).1 0, zq_shr (zu_wf m b r k).2 1) := by rw [zu_wf_e h, if_pos hm, if_pos hr]
theorem zu_wf_y1 (h : 0 ≤ k) (hm : zq_and m (zx_p2 k) ≠ 0) (hr : ¬ zq_and (zu_wf m b r k).2 1 = 0) : zu_wf m b r (k + 1) = (zq_or (zu_wf m b r k).1 (zx_p2 k), zq_shr (zu_wf m b r k).2 1) := by rw [zu_wf_e h, if_pos hm, if_neg hr]
end ZUwf
def zu_btF (H : Int → Bool) (M V : Int → Int) (b : Int) : Nat → Int
  | 0 => b
  | k + 1 => if H k = true then (zu_wf (M k) (zu_btF H M V b k) (V k) 12).1 else zu_btF H M V b k
/-- bits with the first k FIELDS put in -/
def zu_bt (H : Int → Bool) (M V : Int → Int) (b k : Int) : Int := zu_btF H M V b k.toNat
theorem zu_bt_0 (H : Int → Bool) (M V : Int → Int) (b : Int) : zu_bt H M V b 0 = b := rfl
theorem zu_bt_y {H : Int → Bool} {M V : Int → Int} {b k : Int} (h : 0 ≤ k) (hH : H k = true) : zu_bt H M V b (k + 1) = (zu_wf (M k) (zu_bt H M V b k) (V k) 12).1 := by
  obtain ⟨j, rfl⟩ := Int.eq_ofNat_of_zero_le h
  show (if H j = true then (zu_wf (M j) (zu_btF H M V b j) (V j) 12).1 else zu_btF H M V b j) = _
  rw [if_pos hH]
  rfl
theorem zu_bt_n {H : Int → Bool} {M V : Int → Int} {b k : Int} (h : 0 ≤ k) (hH : ¬ H k = true) : zu_bt H M V b (k + 1) = zu_bt H M V b k := by
  obtain ⟨j, rfl⟩ := Int.eq_ofNat_of_zero_le h
  show (if H j = true then (zu_wf (M j) (zu_btF H M V b j) (V j) 12).1 else zu_btF H M V b j) = _
  rw [if_neg hH]
  rfl
/-- bits of the reference, by numbers for FIELDS -/
def zu_rbi (ρ : zq_S) (o : Int) (V : Int → Int) (i : Int) : Int := if zt_L ρ o i = 2 then zq_and (zq_shr (V 0) (zx_cnt ρ o 0 (ρ 0 2) - zx_cnt ρ o 0 (i + 1))) 1 else if zt_L ρ o i = 3 then zq_and (zq_shr (V 1) (zx_cnt ρ o 1 (ρ 0 2) - zx_cnt ρ o 1 (i + 1))) 1 else if zt_L ρ o i = 4 then zq_and (zq_shr (V 2) (zx_cnt ρ o 2 (ρ 0 2) - zx_cnt ρ o 2 (i + 1))) 1 else if zt_L ρ o i = 5 then zq_and (zq_shr (V 3) (zx_cnt ρ o 3 (ρ 0 2) - zx_cnt ρ o 3 (i + 1))) 1 else zt_L ρ o i
def zu_rbt (ρ : zq_S) (o : Int) (V : Int → Int) (k : Int) : Int := zt_mk (fun i => decide (zu_rbi ρ o V i = 1)) k
section ZUrbi
variable {ρ : zq_S} {o : Int} {V : Int → Int} {i c : Int}
theorem zu_rbi_2 (hL : zt_L ρ o i = 2) (hc : zx_cnt ρ o 0 (ρ 0 2) - zx_cnt ρ o 0 (i + 1) = c) : zu_rbi ρ o V i = zq_and (zq_shr (V 0) c) 1 := by unfold zu_rbi; rw [if_pos hL, hc]
theorem zu_rbi_3 (hL : zt_L ρ o i = 3) (hc : zx_cnt ρ o 1 (ρ 0 2) - zx_cnt ρ o 1 (i + 1) = c) : zu_rbi ρ o V i = zq_and (zq_shr (V 1) c) 1 := by unfold zu_rbi; rw [if_neg (by omega), if_pos hL, hc]
theorem zu_rbi_4 (hL : zt_L ρ o i = 4) (hc : zx_cnt ρ o 2 (ρ 0 2) - zx_cnt ρ o 2 (i + 1) = c) : zu_rbi ρ o V i = zq_and (zq_shr (V 2) c) 1 := by unfold zu_rbi; rw [if_neg (by omega), if_neg (by omega), if_pos hL, hc]
theorem zu_rbi_5 (hL : zt_L ρ o i = 5) (hc : zx_cnt ρ o 3 (ρ 0 2) - zx_cnt ρ o 3 (i + 1) = c) : zu_rbi ρ o V i = zq_and (zq_shr (V 3) c) 1 := by unfold zu_rbi; rw [if_neg (by omega), if_neg (by omega), if_neg (by omega), if_pos hL, hc]
theorem zu_rbi_b (hL : zt_L ρ o i ≤ 1) : zu_rbi ρ o V i = zt_L ρ o i := by unfold zu_rbi; rw [if_neg (by omega), if_neg (by omega), if_neg (by omega), if_neg (by omega)]
theorem zu_rbt_s {k bit : Int} (h : 0 ≤ k) (hb : zu_rbi ρ o V k = bit) (h01 : bit = 0 ∨ bit = 1) : zu_rbt ρ o V (k + 1) = 2 * zu_rbt ρ o V k + bit := by
  unfold zu_rbt
  rw [zt_mk_e _ h]
  show 2 * zt_mk (fun i => decide (zu_rbi ρ o V i = 1)) k + (if decide (zu_rbi ρ o V k = 1) = true then 1 else 0) = _
  rw [hb]
  rcases h01 with e | e
  · rw [if_neg (fun q => absurd (of_decide_eq_true q) (by omega)), e]
  · rw [if_pos (decide_eq_true e), e]
end ZUrbi
theorem zu_rbt_fr {σ τ : zq_S} {o k : Int} {V : Int → Int} (h2 : ∀ i, τ 2 i = σ 2 i) (hb : τ 0 2 = σ 0 2) : zu_rbt τ o V k = zu_rbt σ o V k := by
  have e : ∀ i, zu_rbi τ o V i = zu_rbi σ o V i := fun i => by
    unfold zu_rbi
    rw [zt_L_fr h2, hb]
    simp only [zx_cnt_fr h2]
  unfold zu_rbt
  simp only [e]

