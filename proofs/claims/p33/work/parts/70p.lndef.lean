/-! ===== a LINE read ===== -/
section ZUln
variable (H : Int → Bool) (X : Int → Int) (t : Int → Int) (n : Int)
end ZUln
section ZUln2
variable {H : Int → Bool} {X : Int → Int} {t : Int → Int} {n a k : Int}
end ZUln2
/-! ===== a FIELD put into bits ===== -/
section ZUwf
variable {m b r k : Int}
end ZUwf
/-- bits of the reference, by numbers for FIELDS -/
def zu_rbi (ρ : zq_S) (o : Int) (V : Int → Int) (i : Int) : Int := if zt_L ρ o i = 2 then zq_and (zq_shr (V 0) (zx_cnt ρ o 0 (ρ 0 2) - zx_cnt ρ o 0 (i + 1))) 1 else if zt_L ρ o i = 3 then zq_and (zq_shr (V 1) (zx_cnt ρ o 1 (ρ 0 2) - zx_cnt ρ o 1 (i + 1))) 1 else if zt_L ρ o i = 4 then zq_and (zq_shr (V 2) (zx_cnt ρ o 2 (ρ 0 2) - zx_cnt ρ o 2 (i + 1))) 1 else if zt_L ρ o i = 5 then zq_and (zq_shr (V 3) (zx_cnt ρ o 3 (ρ 0 2) - zx_cnt ρ o 3 (i + 1))) 1 else zt_L ρ o i
def zu_rbt (ρ : zq_S) (o : Int) (V : Int → Int) (k : Int) : Int := zt_mk (fun i => decide (zu_rbi ρ o V i = 1)) k
section ZUrbi
variable {ρ : zq_S} {o : Int} {V : Int → Int} {i c : Int}
end ZUrbi
