/-! the end by a throw -/
theorem j_throw {w : Wd} {Y : MD} {pc : Nat} {L : List (Nat × Value)} {sh : Shp} {g : Mem} {kc ks : Nat} {Q : Post} (cls : String) (hT : ThrowAt Y pc cls) (hk : 1 ≤ kc ∧ 6 ≤ ks) (hq : Q (.inr cls) (sh.1, none) g) : J w Y pc L [] sh g kc ks Q := by
  intro p l e s m args below meth c H locs cells slots Z ls C hZ hR hlo hc hs hl
  exact hZ.2 cls sh g H locs cells slots pc ls hq hR hlo (by omega) (by omega) hT hl.1
theorem th_X9_pass_12 : ThrowAt mX9_pass 12 "java/lang/IllegalArgumentException" := by
  refine ⟨48, 50, ["java/lang/RuntimeException", "java/lang/Exception"], by decide +kernel, by decide +kernel, by decide +kernel, by decide +kernel, ?_, by decide +kernel, dX9_pass_12, dX9_pass_15, dX9_pass_16, dX9_pass_19, rfl, by decide +kernel, by decide +kernel⟩
  decide +kernel
