/-! FURTHER ROWS -/
section XF
variable {G : xG} {d : Nat} {k : xM} {pc : Nat} {lc : List (Nat × Value)} {st : List Value} {w : xW} {P : Option Value → xW → Prop}
/-- the locals, by what they hold -/
theorem xE.fit {lc' : List (Nat × Value)} (h : xE G d k pc lc' st w P) (hs : lc'.map (fun q => xlk lc q.1) = lc'.map (fun q => some q.2)) : xE G d k pc lc st w P := by
  refine xE.few h (fun q hq => ?_)
  have := List.map_inj_left.mp hs q hq
  exact xlk_mem this
end XF
theorem z0 : narrow .boolean (.int 0) = .int 0 := by decide
theorem z1 : narrow .boolean (.int 1) = .int 1 := by decide
