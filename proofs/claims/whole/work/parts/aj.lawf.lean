section ZWID
/-- the law's end -/
theorem finL {G : zG} {l : Launch} {R : Room} {Z : zZ} {L : Nat} (hZ : ∀ (P : zP) (M : zM), Z (some (aI 1)) (LAY L) P M) (P : zP) (M : zM) (k n : Nat) (i : Int) (x5 x6 : Option av) (kn : k ≤ R.cells ∧ n ≤ R.slots) : AW G l (mdL R) Z 1656 (lsL i x5 x6) [] (LAY L) P M k n := by
  refine a_widen kn.1 kn.2 ?_
  refine a_iconst dL_law_1656 ?_
  exact a_zreturn dL_law_1657 rfl rfl rfl (Or.inr rfl) (hZ P M)
end ZWID
