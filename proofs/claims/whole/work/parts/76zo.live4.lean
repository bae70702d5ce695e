/-! ===== most: deletions that live ===== -/
theorem cnt_split (P Q : Nat → Bool) (n : Nat) : cnt (fun p => P p && Q p) n + cnt (fun p => P p && !(Q p)) n = cnt P n := by
  induction n with
  | zero => rfl
  | succ n ih =>
    cases e : P n with
    | false =>
      rw [cnt_f (P := fun p => P p && Q p) (show (P n && Q n) = false by rw [e]; rfl), cnt_f (P := fun p => P p && !(Q p)) (show (P n && !(Q n)) = false by rw [e]; rfl), cnt_f e]
      exact ih
    | true =>
      cases e2 : Q n with
      | false =>
        rw [cnt_f (P := fun p => P p && Q p) (show (P n && Q n) = false by rw [e, e2]; rfl), cnt_t (P := fun p => P p && !(Q p)) (show (P n && !(Q n)) = true by rw [e, e2]; rfl), cnt_t e]
        omega
      | true =>
        rw [cnt_t (P := fun p => P p && Q p) (show (P n && Q n) = true by rw [e, e2]; rfl), cnt_f (P := fun p => P p && !(Q p)) (show (P n && !(Q n)) = false by rw [e, e2]; rfl), cnt_t e]
        omega
section LIVED
variable {N : Nat → Nat → Int} {Z x : Nat}
theorem kv_cnt (iv : IV N Z x) : cnt (fun k => decide (¬ cd_val N k = -1)) 32 = cnt (fun p => lvb N p && !(decide (N 8 p = -1))) 128 := by
  refine cnt_bij (f := fun k => (N 10 k).toNat) (g := fun p => (N 7 p).toNat) (fun k hk hq => ?_) (fun p hp hr => ?_)
  · have hv := of_decide_eq_true hq
    rcases (iv.2.1 k hk).1 with ⟨b1, _⟩ | ⟨p, p1, p2, p3, p4, _⟩
    · exact absurd (if_pos b1) hv
    · have e : (N 10 k).toNat = p := by omega
      have ev : cd_val N k = N 8 p := by
        unfold cd_val
        rw [if_neg (by omega), e]
      rw [ev] at hv
      (try dsimp only)
      rw [e]
      refine ⟨p1, ?_, by omega⟩
      have hl : cd_live N p = true := decide_eq_true ⟨by rw [p3, Int.toNat_natCast]; exact p4, Or.inl hv⟩
      unfold lvb
      rw [p2, hl, decide_eq_false hv]
      rfl
  · rw [Bool.and_eq_true] at hr
    obtain ⟨r1, r3⟩ := hr
    have hv : ¬ N 8 p = -1 := fun t => by rw [decide_eq_true t] at r3; exact absurd r3 (by decide)
    unfold lvb at r1
    rw [Bool.and_eq_true] at r1
    have hk := iv.key hp r1.1
    have r2 := r1.2
    unfold cd_live at r2
    have hl := (of_decide_eq_true r2).1
    have e : (N 10 (N 7 p).toNat).toNat = p := by omega
    (try dsimp only)
    refine ⟨by omega, ?_, e⟩
    refine decide_eq_true ?_
    unfold cd_val
    rw [if_neg (by omega), e]
    exact hv
theorem del_cnt (iv : IV N Z x) : cnt (lvm N 1) 128 + cnt (fun k => decide (¬ cd_val N k = -1)) 32 = cnt (lvb N) 128 := by
  have h1 := cnt_split (lvb N) (fun p => decide (N 8 p = -1)) 128
  have h2 : cnt (lvm N 1) 128 = cnt (fun p => lvb N p && decide (N 8 p = -1)) 128 := cnt_congr (fun p _ => by
    unfold lvm
    rw [show decide ((1 : Int) = 0 ∨ N 8 p = -1) = decide (N 8 p = -1) from decide_eq_decide.mpr (by omega)])
  rw [kv_cnt iv, h2]
  exact h1
end LIVED
