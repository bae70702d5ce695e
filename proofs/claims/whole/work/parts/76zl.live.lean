/-! ===== most: blocks that live ===== -/
theorem sm_live {N : Nat → Nat → Int} {Z : Nat} (w : PW N Z) : sm (fun z => (cd_nl N z : Int)) Z = (cnt (lvb N) 128 : Int) := by
  have hZ := w.2.1
  have key : ∀ z, z ≤ Z → sm (fun z => (cd_nl N z : Int)) z = (cnt (fun p => pr N p && cd_live N p) (16 * z) : Int) := by
    intro z
    induction z with
    | zero => intro _; rfl
    | succ z ih =>
      intro hz
      have h3 := w.2.2 z (by omega)
      have e1 : cnt (fun i => pr N (16 * z + i) && cd_live N (16 * z + i)) 16 = cd_nl N z := by
        have h1 : cnt (fun i => pr N (16 * z + i) && cd_live N (16 * z + i)) 16 = cnt (fun i => decide (i < (N 3 z).toNat) && cd_live N (16 * z + i)) 16 := cnt_congr (fun i hi => by
          rw [pr_at hi]
          congr 1
          exact decide_eq_decide.mpr (by omega))
        rw [h1, cnt_cut (Q := fun i => cd_live N (16 * z + i)) (n := (N 3 z).toNat) (m := 16) (by omega)]
        rfl
      show sm (fun z => (cd_nl N z : Int)) z + (cd_nl N z : Int) = _
      rw [ih (by omega), show 16 * (z + 1) = 16 * z + 16 by omega, cnt_app, e1]
      omega
  rw [key Z (Nat.le_refl Z), show 128 = 16 * Z + (128 - 16 * Z) by omega, cnt_app, cnt_zero (P := fun i => lvb N (16 * Z + i)) (fun j _ => by
    unfold lvb
    rw [← has_pr w, decide_eq_false (show ¬ 16 * Z + j < 16 * Z by omega)]; rfl), Nat.add_zero]
  refine congrArg (fun n : Nat => (n : Int)) (cnt_congr (fun p hp => ?_))
  unfold lvb
  rw [← has_pr w, decide_eq_true (show p < 16 * Z by omega), Bool.true_and]
