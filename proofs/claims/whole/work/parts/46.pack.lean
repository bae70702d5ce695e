/-! ===== a row of the model, in the shape of a drive ===== -/
def pack (A : Nat → Nat → Int) : Nat → Int := fun i => if i < 8 then A 2 i else if i < 16 then A 3 (i - 8) else if i < 24 then A 4 (i - 16) else if i < 32 then A 5 (i - 24) else if i < 160 then A 7 (i - 32) else if i < 288 then A 8 (i - 160) else if i < 416 then A 9 (i - 288) else if i < 419 then A 6 (i - 416) else if i = 419 then A 1 4 else if i = 420 then A 0 6 else if i = 421 then A 1 5 else if i = 422 then A 1 0 else if i = 423 then A 1 1 else if i = 424 then A 1 2 else if i = 425 then A 1 3 else if i = 426 then A 1 6 else if i = 427 then A 1 7 else A 13 (i - 428)
theorem pkr2 (A : Nat → Nat → Int) {z : Nat} (hz : z < 8) : pack A (0 + z) = A 2 z := by
  unfold pack
  repeat (first | rw [if_pos (by omega)] | rw [if_neg (by omega)])
  rw [Nat.zero_add]
theorem pku2 (A : Nat → Nat → Int) {z : Nat} (hz : z < 8) (v : Int) : va_up (pack A) (0 + z) v = pack (dup A 2 z v) := by
  funext i
  unfold va_up
  by_cases e : i = 0 + z
  · rw [if_pos e, e, pkr2 _ hz, dup_t, va_up_self]
  · rw [if_neg e]
    unfold pack
    by_cases h0 : i < 8
    · rw [if_pos h0, if_pos h0, dup_t, va_up_ne _ _ (by omega)]
    rw [if_neg h0, if_neg h0]
    by_cases h1 : i < 16
    · rw [if_pos h1, if_pos h1, dup_o _ _ _ (by omega)]
    rw [if_neg h1, if_neg h1]
    by_cases h2 : i < 24
    · rw [if_pos h2, if_pos h2, dup_o _ _ _ (by omega)]
    rw [if_neg h2, if_neg h2]
    by_cases h3 : i < 32
    · rw [if_pos h3, if_pos h3, dup_o _ _ _ (by omega)]
    rw [if_neg h3, if_neg h3]
    by_cases h4 : i < 160
    · rw [if_pos h4, if_pos h4, dup_o _ _ _ (by omega)]
    rw [if_neg h4, if_neg h4]
    by_cases h5 : i < 288
    · rw [if_pos h5, if_pos h5, dup_o _ _ _ (by omega)]
    rw [if_neg h5, if_neg h5]
    by_cases h6 : i < 416
    · rw [if_pos h6, if_pos h6, dup_o _ _ _ (by omega)]
    rw [if_neg h6, if_neg h6]
    by_cases h7 : i < 419
    · rw [if_pos h7, if_pos h7, dup_o _ _ _ (by omega)]
    rw [if_neg h7, if_neg h7]
    by_cases h8 : i = 419
    · rw [if_pos h8, if_pos h8, dup_o _ _ _ (by omega)]
    rw [if_neg h8, if_neg h8]
    by_cases h9 : i = 420
    · rw [if_pos h9, if_pos h9, dup_o _ _ _ (by omega)]
    rw [if_neg h9, if_neg h9]
    by_cases h10 : i = 421
    · rw [if_pos h10, if_pos h10, dup_o _ _ _ (by omega)]
    rw [if_neg h10, if_neg h10]
    by_cases h11 : i = 422
    · rw [if_pos h11, if_pos h11, dup_o _ _ _ (by omega)]
    rw [if_neg h11, if_neg h11]
    by_cases h12 : i = 423
    · rw [if_pos h12, if_pos h12, dup_o _ _ _ (by omega)]
    rw [if_neg h12, if_neg h12]
    by_cases h13 : i = 424
    · rw [if_pos h13, if_pos h13, dup_o _ _ _ (by omega)]
    rw [if_neg h13, if_neg h13]
    by_cases h14 : i = 425
    · rw [if_pos h14, if_pos h14, dup_o _ _ _ (by omega)]
    rw [if_neg h14, if_neg h14]
    by_cases h15 : i = 426
    · rw [if_pos h15, if_pos h15, dup_o _ _ _ (by omega)]
    rw [if_neg h15, if_neg h15]
    by_cases h16 : i = 427
    · rw [if_pos h16, if_pos h16, dup_o _ _ _ (by omega)]
    rw [if_neg h16, if_neg h16]
    rw [dup_o _ _ _ (by omega)]
theorem pkr3 (A : Nat → Nat → Int) {z : Nat} (hz : z < 8) : pack A (8 + z) = A 3 z := by
  unfold pack
  repeat (first | rw [if_pos (by omega)] | rw [if_neg (by omega)])
  rw [Nat.add_sub_cancel_left]
theorem pku3 (A : Nat → Nat → Int) {z : Nat} (hz : z < 8) (v : Int) : va_up (pack A) (8 + z) v = pack (dup A 3 z v) := by
  funext i
  unfold va_up
  by_cases e : i = 8 + z
  · rw [if_pos e, e, pkr3 _ hz, dup_t, va_up_self]
  · rw [if_neg e]
    unfold pack
    by_cases h0 : i < 8
    · rw [if_pos h0, if_pos h0, dup_o _ _ _ (by omega)]
    rw [if_neg h0, if_neg h0]
    by_cases h1 : i < 16
    · rw [if_pos h1, if_pos h1, dup_t, va_up_ne _ _ (by omega)]
    rw [if_neg h1, if_neg h1]
    by_cases h2 : i < 24
    · rw [if_pos h2, if_pos h2, dup_o _ _ _ (by omega)]
    rw [if_neg h2, if_neg h2]
    by_cases h3 : i < 32
    · rw [if_pos h3, if_pos h3, dup_o _ _ _ (by omega)]
    rw [if_neg h3, if_neg h3]
    by_cases h4 : i < 160
    · rw [if_pos h4, if_pos h4, dup_o _ _ _ (by omega)]
    rw [if_neg h4, if_neg h4]
    by_cases h5 : i < 288
    · rw [if_pos h5, if_pos h5, dup_o _ _ _ (by omega)]
    rw [if_neg h5, if_neg h5]
    by_cases h6 : i < 416
    · rw [if_pos h6, if_pos h6, dup_o _ _ _ (by omega)]
    rw [if_neg h6, if_neg h6]
    by_cases h7 : i < 419
    · rw [if_pos h7, if_pos h7, dup_o _ _ _ (by omega)]
    rw [if_neg h7, if_neg h7]
    by_cases h8 : i = 419
    · rw [if_pos h8, if_pos h8, dup_o _ _ _ (by omega)]
    rw [if_neg h8, if_neg h8]
    by_cases h9 : i = 420
    · rw [if_pos h9, if_pos h9, dup_o _ _ _ (by omega)]
    rw [if_neg h9, if_neg h9]
    by_cases h10 : i = 421
    · rw [if_pos h10, if_pos h10, dup_o _ _ _ (by omega)]
    rw [if_neg h10, if_neg h10]
    by_cases h11 : i = 422
    · rw [if_pos h11, if_pos h11, dup_o _ _ _ (by omega)]
    rw [if_neg h11, if_neg h11]
    by_cases h12 : i = 423
    · rw [if_pos h12, if_pos h12, dup_o _ _ _ (by omega)]
    rw [if_neg h12, if_neg h12]
    by_cases h13 : i = 424
    · rw [if_pos h13, if_pos h13, dup_o _ _ _ (by omega)]
    rw [if_neg h13, if_neg h13]
    by_cases h14 : i = 425
    · rw [if_pos h14, if_pos h14, dup_o _ _ _ (by omega)]
    rw [if_neg h14, if_neg h14]
    by_cases h15 : i = 426
    · rw [if_pos h15, if_pos h15, dup_o _ _ _ (by omega)]
    rw [if_neg h15, if_neg h15]
    by_cases h16 : i = 427
    · rw [if_pos h16, if_pos h16, dup_o _ _ _ (by omega)]
    rw [if_neg h16, if_neg h16]
    rw [dup_o _ _ _ (by omega)]
theorem pkr4 (A : Nat → Nat → Int) {z : Nat} (hz : z < 8) : pack A (16 + z) = A 4 z := by
  unfold pack
  repeat (first | rw [if_pos (by omega)] | rw [if_neg (by omega)])
  rw [Nat.add_sub_cancel_left]
theorem pku4 (A : Nat → Nat → Int) {z : Nat} (hz : z < 8) (v : Int) : va_up (pack A) (16 + z) v = pack (dup A 4 z v) := by
  funext i
  unfold va_up
  by_cases e : i = 16 + z
  · rw [if_pos e, e, pkr4 _ hz, dup_t, va_up_self]
  · rw [if_neg e]
    unfold pack
    by_cases h0 : i < 8
    · rw [if_pos h0, if_pos h0, dup_o _ _ _ (by omega)]
    rw [if_neg h0, if_neg h0]
    by_cases h1 : i < 16
    · rw [if_pos h1, if_pos h1, dup_o _ _ _ (by omega)]
    rw [if_neg h1, if_neg h1]
    by_cases h2 : i < 24
    · rw [if_pos h2, if_pos h2, dup_t, va_up_ne _ _ (by omega)]
    rw [if_neg h2, if_neg h2]
    by_cases h3 : i < 32
    · rw [if_pos h3, if_pos h3, dup_o _ _ _ (by omega)]
    rw [if_neg h3, if_neg h3]
    by_cases h4 : i < 160
    · rw [if_pos h4, if_pos h4, dup_o _ _ _ (by omega)]
    rw [if_neg h4, if_neg h4]
    by_cases h5 : i < 288
    · rw [if_pos h5, if_pos h5, dup_o _ _ _ (by omega)]
    rw [if_neg h5, if_neg h5]
    by_cases h6 : i < 416
    · rw [if_pos h6, if_pos h6, dup_o _ _ _ (by omega)]
    rw [if_neg h6, if_neg h6]
    by_cases h7 : i < 419
    · rw [if_pos h7, if_pos h7, dup_o _ _ _ (by omega)]
    rw [if_neg h7, if_neg h7]
    by_cases h8 : i = 419
    · rw [if_pos h8, if_pos h8, dup_o _ _ _ (by omega)]
    rw [if_neg h8, if_neg h8]
    by_cases h9 : i = 420
    · rw [if_pos h9, if_pos h9, dup_o _ _ _ (by omega)]
    rw [if_neg h9, if_neg h9]
    by_cases h10 : i = 421
    · rw [if_pos h10, if_pos h10, dup_o _ _ _ (by omega)]
    rw [if_neg h10, if_neg h10]
    by_cases h11 : i = 422
    · rw [if_pos h11, if_pos h11, dup_o _ _ _ (by omega)]
    rw [if_neg h11, if_neg h11]
    by_cases h12 : i = 423
    · rw [if_pos h12, if_pos h12, dup_o _ _ _ (by omega)]
    rw [if_neg h12, if_neg h12]
    by_cases h13 : i = 424
    · rw [if_pos h13, if_pos h13, dup_o _ _ _ (by omega)]
    rw [if_neg h13, if_neg h13]
    by_cases h14 : i = 425
    · rw [if_pos h14, if_pos h14, dup_o _ _ _ (by omega)]
    rw [if_neg h14, if_neg h14]
    by_cases h15 : i = 426
    · rw [if_pos h15, if_pos h15, dup_o _ _ _ (by omega)]
    rw [if_neg h15, if_neg h15]
    by_cases h16 : i = 427
    · rw [if_pos h16, if_pos h16, dup_o _ _ _ (by omega)]
    rw [if_neg h16, if_neg h16]
    rw [dup_o _ _ _ (by omega)]
theorem pkr5 (A : Nat → Nat → Int) {z : Nat} (hz : z < 8) : pack A (24 + z) = A 5 z := by
  unfold pack
  repeat (first | rw [if_pos (by omega)] | rw [if_neg (by omega)])
  rw [Nat.add_sub_cancel_left]
theorem pku5 (A : Nat → Nat → Int) {z : Nat} (hz : z < 8) (v : Int) : va_up (pack A) (24 + z) v = pack (dup A 5 z v) := by
  funext i
  unfold va_up
  by_cases e : i = 24 + z
  · rw [if_pos e, e, pkr5 _ hz, dup_t, va_up_self]
  · rw [if_neg e]
    unfold pack
    by_cases h0 : i < 8
    · rw [if_pos h0, if_pos h0, dup_o _ _ _ (by omega)]
    rw [if_neg h0, if_neg h0]
    by_cases h1 : i < 16
    · rw [if_pos h1, if_pos h1, dup_o _ _ _ (by omega)]
    rw [if_neg h1, if_neg h1]
    by_cases h2 : i < 24
    · rw [if_pos h2, if_pos h2, dup_o _ _ _ (by omega)]
    rw [if_neg h2, if_neg h2]
    by_cases h3 : i < 32
    · rw [if_pos h3, if_pos h3, dup_t, va_up_ne _ _ (by omega)]
    rw [if_neg h3, if_neg h3]
    by_cases h4 : i < 160
    · rw [if_pos h4, if_pos h4, dup_o _ _ _ (by omega)]
    rw [if_neg h4, if_neg h4]
    by_cases h5 : i < 288
    · rw [if_pos h5, if_pos h5, dup_o _ _ _ (by omega)]
    rw [if_neg h5, if_neg h5]
    by_cases h6 : i < 416
    · rw [if_pos h6, if_pos h6, dup_o _ _ _ (by omega)]
    rw [if_neg h6, if_neg h6]
    by_cases h7 : i < 419
    · rw [if_pos h7, if_pos h7, dup_o _ _ _ (by omega)]
    rw [if_neg h7, if_neg h7]
    by_cases h8 : i = 419
    · rw [if_pos h8, if_pos h8, dup_o _ _ _ (by omega)]
    rw [if_neg h8, if_neg h8]
    by_cases h9 : i = 420
    · rw [if_pos h9, if_pos h9, dup_o _ _ _ (by omega)]
    rw [if_neg h9, if_neg h9]
    by_cases h10 : i = 421
    · rw [if_pos h10, if_pos h10, dup_o _ _ _ (by omega)]
    rw [if_neg h10, if_neg h10]
    by_cases h11 : i = 422
    · rw [if_pos h11, if_pos h11, dup_o _ _ _ (by omega)]
    rw [if_neg h11, if_neg h11]
    by_cases h12 : i = 423
    · rw [if_pos h12, if_pos h12, dup_o _ _ _ (by omega)]
    rw [if_neg h12, if_neg h12]
    by_cases h13 : i = 424
    · rw [if_pos h13, if_pos h13, dup_o _ _ _ (by omega)]
    rw [if_neg h13, if_neg h13]
    by_cases h14 : i = 425
    · rw [if_pos h14, if_pos h14, dup_o _ _ _ (by omega)]
    rw [if_neg h14, if_neg h14]
    by_cases h15 : i = 426
    · rw [if_pos h15, if_pos h15, dup_o _ _ _ (by omega)]
    rw [if_neg h15, if_neg h15]
    by_cases h16 : i = 427
    · rw [if_pos h16, if_pos h16, dup_o _ _ _ (by omega)]
    rw [if_neg h16, if_neg h16]
    rw [dup_o _ _ _ (by omega)]
theorem pkr7 (A : Nat → Nat → Int) {z : Nat} (hz : z < 128) : pack A (32 + z) = A 7 z := by
  unfold pack
  repeat (first | rw [if_pos (by omega)] | rw [if_neg (by omega)])
  rw [Nat.add_sub_cancel_left]
theorem pku7 (A : Nat → Nat → Int) {z : Nat} (hz : z < 128) (v : Int) : va_up (pack A) (32 + z) v = pack (dup A 7 z v) := by
  funext i
  unfold va_up
  by_cases e : i = 32 + z
  · rw [if_pos e, e, pkr7 _ hz, dup_t, va_up_self]
  · rw [if_neg e]
    unfold pack
    by_cases h0 : i < 8
    · rw [if_pos h0, if_pos h0, dup_o _ _ _ (by omega)]
    rw [if_neg h0, if_neg h0]
    by_cases h1 : i < 16
    · rw [if_pos h1, if_pos h1, dup_o _ _ _ (by omega)]
    rw [if_neg h1, if_neg h1]
    by_cases h2 : i < 24
    · rw [if_pos h2, if_pos h2, dup_o _ _ _ (by omega)]
    rw [if_neg h2, if_neg h2]
    by_cases h3 : i < 32
    · rw [if_pos h3, if_pos h3, dup_o _ _ _ (by omega)]
    rw [if_neg h3, if_neg h3]
    by_cases h4 : i < 160
    · rw [if_pos h4, if_pos h4, dup_t, va_up_ne _ _ (by omega)]
    rw [if_neg h4, if_neg h4]
    by_cases h5 : i < 288
    · rw [if_pos h5, if_pos h5, dup_o _ _ _ (by omega)]
    rw [if_neg h5, if_neg h5]
    by_cases h6 : i < 416
    · rw [if_pos h6, if_pos h6, dup_o _ _ _ (by omega)]
    rw [if_neg h6, if_neg h6]
    by_cases h7 : i < 419
    · rw [if_pos h7, if_pos h7, dup_o _ _ _ (by omega)]
    rw [if_neg h7, if_neg h7]
    by_cases h8 : i = 419
    · rw [if_pos h8, if_pos h8, dup_o _ _ _ (by omega)]
    rw [if_neg h8, if_neg h8]
    by_cases h9 : i = 420
    · rw [if_pos h9, if_pos h9, dup_o _ _ _ (by omega)]
    rw [if_neg h9, if_neg h9]
    by_cases h10 : i = 421
    · rw [if_pos h10, if_pos h10, dup_o _ _ _ (by omega)]
    rw [if_neg h10, if_neg h10]
    by_cases h11 : i = 422
    · rw [if_pos h11, if_pos h11, dup_o _ _ _ (by omega)]
    rw [if_neg h11, if_neg h11]
    by_cases h12 : i = 423
    · rw [if_pos h12, if_pos h12, dup_o _ _ _ (by omega)]
    rw [if_neg h12, if_neg h12]
    by_cases h13 : i = 424
    · rw [if_pos h13, if_pos h13, dup_o _ _ _ (by omega)]
    rw [if_neg h13, if_neg h13]
    by_cases h14 : i = 425
    · rw [if_pos h14, if_pos h14, dup_o _ _ _ (by omega)]
    rw [if_neg h14, if_neg h14]
    by_cases h15 : i = 426
    · rw [if_pos h15, if_pos h15, dup_o _ _ _ (by omega)]
    rw [if_neg h15, if_neg h15]
    by_cases h16 : i = 427
    · rw [if_pos h16, if_pos h16, dup_o _ _ _ (by omega)]
    rw [if_neg h16, if_neg h16]
    rw [dup_o _ _ _ (by omega)]
theorem pkr8 (A : Nat → Nat → Int) {z : Nat} (hz : z < 128) : pack A (160 + z) = A 8 z := by
  unfold pack
  repeat (first | rw [if_pos (by omega)] | rw [if_neg (by omega)])
  rw [Nat.add_sub_cancel_left]
theorem pku8 (A : Nat → Nat → Int) {z : Nat} (hz : z < 128) (v : Int) : va_up (pack A) (160 + z) v = pack (dup A 8 z v) := by
  funext i
  unfold va_up
  by_cases e : i = 160 + z
  · rw [if_pos e, e, pkr8 _ hz, dup_t, va_up_self]
  · rw [if_neg e]
    unfold pack
    by_cases h0 : i < 8
    · rw [if_pos h0, if_pos h0, dup_o _ _ _ (by omega)]
    rw [if_neg h0, if_neg h0]
    by_cases h1 : i < 16
    · rw [if_pos h1, if_pos h1, dup_o _ _ _ (by omega)]
    rw [if_neg h1, if_neg h1]
    by_cases h2 : i < 24
    · rw [if_pos h2, if_pos h2, dup_o _ _ _ (by omega)]
    rw [if_neg h2, if_neg h2]
    by_cases h3 : i < 32
    · rw [if_pos h3, if_pos h3, dup_o _ _ _ (by omega)]
    rw [if_neg h3, if_neg h3]
    by_cases h4 : i < 160
    · rw [if_pos h4, if_pos h4, dup_o _ _ _ (by omega)]
    rw [if_neg h4, if_neg h4]
    by_cases h5 : i < 288
    · rw [if_pos h5, if_pos h5, dup_t, va_up_ne _ _ (by omega)]
    rw [if_neg h5, if_neg h5]
    by_cases h6 : i < 416
    · rw [if_pos h6, if_pos h6, dup_o _ _ _ (by omega)]
    rw [if_neg h6, if_neg h6]
    by_cases h7 : i < 419
    · rw [if_pos h7, if_pos h7, dup_o _ _ _ (by omega)]
    rw [if_neg h7, if_neg h7]
    by_cases h8 : i = 419
    · rw [if_pos h8, if_pos h8, dup_o _ _ _ (by omega)]
    rw [if_neg h8, if_neg h8]
    by_cases h9 : i = 420
    · rw [if_pos h9, if_pos h9, dup_o _ _ _ (by omega)]
    rw [if_neg h9, if_neg h9]
    by_cases h10 : i = 421
    · rw [if_pos h10, if_pos h10, dup_o _ _ _ (by omega)]
    rw [if_neg h10, if_neg h10]
    by_cases h11 : i = 422
    · rw [if_pos h11, if_pos h11, dup_o _ _ _ (by omega)]
    rw [if_neg h11, if_neg h11]
    by_cases h12 : i = 423
    · rw [if_pos h12, if_pos h12, dup_o _ _ _ (by omega)]
    rw [if_neg h12, if_neg h12]
    by_cases h13 : i = 424
    · rw [if_pos h13, if_pos h13, dup_o _ _ _ (by omega)]
    rw [if_neg h13, if_neg h13]
    by_cases h14 : i = 425
    · rw [if_pos h14, if_pos h14, dup_o _ _ _ (by omega)]
    rw [if_neg h14, if_neg h14]
    by_cases h15 : i = 426
    · rw [if_pos h15, if_pos h15, dup_o _ _ _ (by omega)]
    rw [if_neg h15, if_neg h15]
    by_cases h16 : i = 427
    · rw [if_pos h16, if_pos h16, dup_o _ _ _ (by omega)]
    rw [if_neg h16, if_neg h16]
    rw [dup_o _ _ _ (by omega)]
theorem pkr9 (A : Nat → Nat → Int) {z : Nat} (hz : z < 128) : pack A (288 + z) = A 9 z := by
  unfold pack
  repeat (first | rw [if_pos (by omega)] | rw [if_neg (by omega)])
  rw [Nat.add_sub_cancel_left]
theorem pku9 (A : Nat → Nat → Int) {z : Nat} (hz : z < 128) (v : Int) : va_up (pack A) (288 + z) v = pack (dup A 9 z v) := by
  funext i
  unfold va_up
  by_cases e : i = 288 + z
  · rw [if_pos e, e, pkr9 _ hz, dup_t, va_up_self]
  · rw [if_neg e]
    unfold pack
    by_cases h0 : i < 8
    · rw [if_pos h0, if_pos h0, dup_o _ _ _ (by omega)]
    rw [if_neg h0, if_neg h0]
    by_cases h1 : i < 16
    · rw [if_pos h1, if_pos h1, dup_o _ _ _ (by omega)]
    rw [if_neg h1, if_neg h1]
    by_cases h2 : i < 24
    · rw [if_pos h2, if_pos h2, dup_o _ _ _ (by omega)]
    rw [if_neg h2, if_neg h2]
    by_cases h3 : i < 32
    · rw [if_pos h3, if_pos h3, dup_o _ _ _ (by omega)]
    rw [if_neg h3, if_neg h3]
    by_cases h4 : i < 160
    · rw [if_pos h4, if_pos h4, dup_o _ _ _ (by omega)]
    rw [if_neg h4, if_neg h4]
    by_cases h5 : i < 288
    · rw [if_pos h5, if_pos h5, dup_o _ _ _ (by omega)]
    rw [if_neg h5, if_neg h5]
    by_cases h6 : i < 416
    · rw [if_pos h6, if_pos h6, dup_t, va_up_ne _ _ (by omega)]
    rw [if_neg h6, if_neg h6]
    by_cases h7 : i < 419
    · rw [if_pos h7, if_pos h7, dup_o _ _ _ (by omega)]
    rw [if_neg h7, if_neg h7]
    by_cases h8 : i = 419
    · rw [if_pos h8, if_pos h8, dup_o _ _ _ (by omega)]
    rw [if_neg h8, if_neg h8]
    by_cases h9 : i = 420
    · rw [if_pos h9, if_pos h9, dup_o _ _ _ (by omega)]
    rw [if_neg h9, if_neg h9]
    by_cases h10 : i = 421
    · rw [if_pos h10, if_pos h10, dup_o _ _ _ (by omega)]
    rw [if_neg h10, if_neg h10]
    by_cases h11 : i = 422
    · rw [if_pos h11, if_pos h11, dup_o _ _ _ (by omega)]
    rw [if_neg h11, if_neg h11]
    by_cases h12 : i = 423
    · rw [if_pos h12, if_pos h12, dup_o _ _ _ (by omega)]
    rw [if_neg h12, if_neg h12]
    by_cases h13 : i = 424
    · rw [if_pos h13, if_pos h13, dup_o _ _ _ (by omega)]
    rw [if_neg h13, if_neg h13]
    by_cases h14 : i = 425
    · rw [if_pos h14, if_pos h14, dup_o _ _ _ (by omega)]
    rw [if_neg h14, if_neg h14]
    by_cases h15 : i = 426
    · rw [if_pos h15, if_pos h15, dup_o _ _ _ (by omega)]
    rw [if_neg h15, if_neg h15]
    by_cases h16 : i = 427
    · rw [if_pos h16, if_pos h16, dup_o _ _ _ (by omega)]
    rw [if_neg h16, if_neg h16]
    rw [dup_o _ _ _ (by omega)]
theorem pkr6 (A : Nat → Nat → Int) {z : Nat} (hz : z < 3) : pack A (416 + z) = A 6 z := by
  unfold pack
  repeat (first | rw [if_pos (by omega)] | rw [if_neg (by omega)])
  rw [Nat.add_sub_cancel_left]
theorem pku6 (A : Nat → Nat → Int) {z : Nat} (hz : z < 3) (v : Int) : va_up (pack A) (416 + z) v = pack (dup A 6 z v) := by
  funext i
  unfold va_up
  by_cases e : i = 416 + z
  · rw [if_pos e, e, pkr6 _ hz, dup_t, va_up_self]
  · rw [if_neg e]
    unfold pack
    by_cases h0 : i < 8
    · rw [if_pos h0, if_pos h0, dup_o _ _ _ (by omega)]
    rw [if_neg h0, if_neg h0]
    by_cases h1 : i < 16
    · rw [if_pos h1, if_pos h1, dup_o _ _ _ (by omega)]
    rw [if_neg h1, if_neg h1]
    by_cases h2 : i < 24
    · rw [if_pos h2, if_pos h2, dup_o _ _ _ (by omega)]
    rw [if_neg h2, if_neg h2]
    by_cases h3 : i < 32
    · rw [if_pos h3, if_pos h3, dup_o _ _ _ (by omega)]
    rw [if_neg h3, if_neg h3]
    by_cases h4 : i < 160
    · rw [if_pos h4, if_pos h4, dup_o _ _ _ (by omega)]
    rw [if_neg h4, if_neg h4]
    by_cases h5 : i < 288
    · rw [if_pos h5, if_pos h5, dup_o _ _ _ (by omega)]
    rw [if_neg h5, if_neg h5]
    by_cases h6 : i < 416
    · rw [if_pos h6, if_pos h6, dup_o _ _ _ (by omega)]
    rw [if_neg h6, if_neg h6]
    by_cases h7 : i < 419
    · rw [if_pos h7, if_pos h7, dup_t, va_up_ne _ _ (by omega)]
    rw [if_neg h7, if_neg h7]
    by_cases h8 : i = 419
    · rw [if_pos h8, if_pos h8, dup_o _ _ _ (by omega)]
    rw [if_neg h8, if_neg h8]
    by_cases h9 : i = 420
    · rw [if_pos h9, if_pos h9, dup_o _ _ _ (by omega)]
    rw [if_neg h9, if_neg h9]
    by_cases h10 : i = 421
    · rw [if_pos h10, if_pos h10, dup_o _ _ _ (by omega)]
    rw [if_neg h10, if_neg h10]
    by_cases h11 : i = 422
    · rw [if_pos h11, if_pos h11, dup_o _ _ _ (by omega)]
    rw [if_neg h11, if_neg h11]
    by_cases h12 : i = 423
    · rw [if_pos h12, if_pos h12, dup_o _ _ _ (by omega)]
    rw [if_neg h12, if_neg h12]
    by_cases h13 : i = 424
    · rw [if_pos h13, if_pos h13, dup_o _ _ _ (by omega)]
    rw [if_neg h13, if_neg h13]
    by_cases h14 : i = 425
    · rw [if_pos h14, if_pos h14, dup_o _ _ _ (by omega)]
    rw [if_neg h14, if_neg h14]
    by_cases h15 : i = 426
    · rw [if_pos h15, if_pos h15, dup_o _ _ _ (by omega)]
    rw [if_neg h15, if_neg h15]
    by_cases h16 : i = 427
    · rw [if_pos h16, if_pos h16, dup_o _ _ _ (by omega)]
    rw [if_neg h16, if_neg h16]
    rw [dup_o _ _ _ (by omega)]
theorem pkr1_4 (A : Nat → Nat → Int)  : pack A (419) = A 1 4 := by
  unfold pack
  repeat (first | rw [if_pos (by omega)] | rw [if_neg (by omega)])

theorem pku1_4 (A : Nat → Nat → Int)  (v : Int) : va_up (pack A) (419) v = pack (dup A 1 4 v) := by
  funext i
  unfold va_up
  by_cases e : i = 419
  · rw [if_pos e, e, pkr1_4 _, dup_t, va_up_self]
  · rw [if_neg e]
    unfold pack
    by_cases h0 : i < 8
    · rw [if_pos h0, if_pos h0, dup_o _ _ _ (by omega)]
    rw [if_neg h0, if_neg h0]
    by_cases h1 : i < 16
    · rw [if_pos h1, if_pos h1, dup_o _ _ _ (by omega)]
    rw [if_neg h1, if_neg h1]
    by_cases h2 : i < 24
    · rw [if_pos h2, if_pos h2, dup_o _ _ _ (by omega)]
    rw [if_neg h2, if_neg h2]
    by_cases h3 : i < 32
    · rw [if_pos h3, if_pos h3, dup_o _ _ _ (by omega)]
    rw [if_neg h3, if_neg h3]
    by_cases h4 : i < 160
    · rw [if_pos h4, if_pos h4, dup_o _ _ _ (by omega)]
    rw [if_neg h4, if_neg h4]
    by_cases h5 : i < 288
    · rw [if_pos h5, if_pos h5, dup_o _ _ _ (by omega)]
    rw [if_neg h5, if_neg h5]
    by_cases h6 : i < 416
    · rw [if_pos h6, if_pos h6, dup_o _ _ _ (by omega)]
    rw [if_neg h6, if_neg h6]
    by_cases h7 : i < 419
    · rw [if_pos h7, if_pos h7, dup_o _ _ _ (by omega)]
    rw [if_neg h7, if_neg h7]
    by_cases h8 : i = 419
    · exact absurd h8 e
    rw [if_neg h8, if_neg h8]
    by_cases h9 : i = 420
    · rw [if_pos h9, if_pos h9, dup_o _ _ _ (by omega)]
    rw [if_neg h9, if_neg h9]
    by_cases h10 : i = 421
    · rw [if_pos h10, if_pos h10, dup_t, va_up_ne _ _ (by omega)]
    rw [if_neg h10, if_neg h10]
    by_cases h11 : i = 422
    · rw [if_pos h11, if_pos h11, dup_t, va_up_ne _ _ (by omega)]
    rw [if_neg h11, if_neg h11]
    by_cases h12 : i = 423
    · rw [if_pos h12, if_pos h12, dup_t, va_up_ne _ _ (by omega)]
    rw [if_neg h12, if_neg h12]
    by_cases h13 : i = 424
    · rw [if_pos h13, if_pos h13, dup_t, va_up_ne _ _ (by omega)]
    rw [if_neg h13, if_neg h13]
    by_cases h14 : i = 425
    · rw [if_pos h14, if_pos h14, dup_t, va_up_ne _ _ (by omega)]
    rw [if_neg h14, if_neg h14]
    by_cases h15 : i = 426
    · rw [if_pos h15, if_pos h15, dup_t, va_up_ne _ _ (by omega)]
    rw [if_neg h15, if_neg h15]
    by_cases h16 : i = 427
    · rw [if_pos h16, if_pos h16, dup_t, va_up_ne _ _ (by omega)]
    rw [if_neg h16, if_neg h16]
    rw [dup_o _ _ _ (by omega)]
theorem pkr0_6 (A : Nat → Nat → Int)  : pack A (420) = A 0 6 := by
  unfold pack
  repeat (first | rw [if_pos (by omega)] | rw [if_neg (by omega)])

theorem pku0_6 (A : Nat → Nat → Int)  (v : Int) : va_up (pack A) (420) v = pack (dup A 0 6 v) := by
  funext i
  unfold va_up
  by_cases e : i = 420
  · rw [if_pos e, e, pkr0_6 _, dup_t, va_up_self]
  · rw [if_neg e]
    unfold pack
    by_cases h0 : i < 8
    · rw [if_pos h0, if_pos h0, dup_o _ _ _ (by omega)]
    rw [if_neg h0, if_neg h0]
    by_cases h1 : i < 16
    · rw [if_pos h1, if_pos h1, dup_o _ _ _ (by omega)]
    rw [if_neg h1, if_neg h1]
    by_cases h2 : i < 24
    · rw [if_pos h2, if_pos h2, dup_o _ _ _ (by omega)]
    rw [if_neg h2, if_neg h2]
    by_cases h3 : i < 32
    · rw [if_pos h3, if_pos h3, dup_o _ _ _ (by omega)]
    rw [if_neg h3, if_neg h3]
    by_cases h4 : i < 160
    · rw [if_pos h4, if_pos h4, dup_o _ _ _ (by omega)]
    rw [if_neg h4, if_neg h4]
    by_cases h5 : i < 288
    · rw [if_pos h5, if_pos h5, dup_o _ _ _ (by omega)]
    rw [if_neg h5, if_neg h5]
    by_cases h6 : i < 416
    · rw [if_pos h6, if_pos h6, dup_o _ _ _ (by omega)]
    rw [if_neg h6, if_neg h6]
    by_cases h7 : i < 419
    · rw [if_pos h7, if_pos h7, dup_o _ _ _ (by omega)]
    rw [if_neg h7, if_neg h7]
    by_cases h8 : i = 419
    · rw [if_pos h8, if_pos h8, dup_o _ _ _ (by omega)]
    rw [if_neg h8, if_neg h8]
    by_cases h9 : i = 420
    · exact absurd h9 e
    rw [if_neg h9, if_neg h9]
    by_cases h10 : i = 421
    · rw [if_pos h10, if_pos h10, dup_o _ _ _ (by omega)]
    rw [if_neg h10, if_neg h10]
    by_cases h11 : i = 422
    · rw [if_pos h11, if_pos h11, dup_o _ _ _ (by omega)]
    rw [if_neg h11, if_neg h11]
    by_cases h12 : i = 423
    · rw [if_pos h12, if_pos h12, dup_o _ _ _ (by omega)]
    rw [if_neg h12, if_neg h12]
    by_cases h13 : i = 424
    · rw [if_pos h13, if_pos h13, dup_o _ _ _ (by omega)]
    rw [if_neg h13, if_neg h13]
    by_cases h14 : i = 425
    · rw [if_pos h14, if_pos h14, dup_o _ _ _ (by omega)]
    rw [if_neg h14, if_neg h14]
    by_cases h15 : i = 426
    · rw [if_pos h15, if_pos h15, dup_o _ _ _ (by omega)]
    rw [if_neg h15, if_neg h15]
    by_cases h16 : i = 427
    · rw [if_pos h16, if_pos h16, dup_o _ _ _ (by omega)]
    rw [if_neg h16, if_neg h16]
    rw [dup_o _ _ _ (by omega)]
theorem pkr1_5 (A : Nat → Nat → Int)  : pack A (421) = A 1 5 := by
  unfold pack
  repeat (first | rw [if_pos (by omega)] | rw [if_neg (by omega)])

theorem pku1_5 (A : Nat → Nat → Int)  (v : Int) : va_up (pack A) (421) v = pack (dup A 1 5 v) := by
  funext i
  unfold va_up
  by_cases e : i = 421
  · rw [if_pos e, e, pkr1_5 _, dup_t, va_up_self]
  · rw [if_neg e]
    unfold pack
    by_cases h0 : i < 8
    · rw [if_pos h0, if_pos h0, dup_o _ _ _ (by omega)]
    rw [if_neg h0, if_neg h0]
    by_cases h1 : i < 16
    · rw [if_pos h1, if_pos h1, dup_o _ _ _ (by omega)]
    rw [if_neg h1, if_neg h1]
    by_cases h2 : i < 24
    · rw [if_pos h2, if_pos h2, dup_o _ _ _ (by omega)]
    rw [if_neg h2, if_neg h2]
    by_cases h3 : i < 32
    · rw [if_pos h3, if_pos h3, dup_o _ _ _ (by omega)]
    rw [if_neg h3, if_neg h3]
    by_cases h4 : i < 160
    · rw [if_pos h4, if_pos h4, dup_o _ _ _ (by omega)]
    rw [if_neg h4, if_neg h4]
    by_cases h5 : i < 288
    · rw [if_pos h5, if_pos h5, dup_o _ _ _ (by omega)]
    rw [if_neg h5, if_neg h5]
    by_cases h6 : i < 416
    · rw [if_pos h6, if_pos h6, dup_o _ _ _ (by omega)]
    rw [if_neg h6, if_neg h6]
    by_cases h7 : i < 419
    · rw [if_pos h7, if_pos h7, dup_o _ _ _ (by omega)]
    rw [if_neg h7, if_neg h7]
    by_cases h8 : i = 419
    · rw [if_pos h8, if_pos h8, dup_t, va_up_ne _ _ (by omega)]
    rw [if_neg h8, if_neg h8]
    by_cases h9 : i = 420
    · rw [if_pos h9, if_pos h9, dup_o _ _ _ (by omega)]
    rw [if_neg h9, if_neg h9]
    by_cases h10 : i = 421
    · exact absurd h10 e
    rw [if_neg h10, if_neg h10]
    by_cases h11 : i = 422
    · rw [if_pos h11, if_pos h11, dup_t, va_up_ne _ _ (by omega)]
    rw [if_neg h11, if_neg h11]
    by_cases h12 : i = 423
    · rw [if_pos h12, if_pos h12, dup_t, va_up_ne _ _ (by omega)]
    rw [if_neg h12, if_neg h12]
    by_cases h13 : i = 424
    · rw [if_pos h13, if_pos h13, dup_t, va_up_ne _ _ (by omega)]
    rw [if_neg h13, if_neg h13]
    by_cases h14 : i = 425
    · rw [if_pos h14, if_pos h14, dup_t, va_up_ne _ _ (by omega)]
    rw [if_neg h14, if_neg h14]
    by_cases h15 : i = 426
    · rw [if_pos h15, if_pos h15, dup_t, va_up_ne _ _ (by omega)]
    rw [if_neg h15, if_neg h15]
    by_cases h16 : i = 427
    · rw [if_pos h16, if_pos h16, dup_t, va_up_ne _ _ (by omega)]
    rw [if_neg h16, if_neg h16]
    rw [dup_o _ _ _ (by omega)]
theorem pkr1_0 (A : Nat → Nat → Int)  : pack A (422) = A 1 0 := by
  unfold pack
  repeat (first | rw [if_pos (by omega)] | rw [if_neg (by omega)])

theorem pku1_0 (A : Nat → Nat → Int)  (v : Int) : va_up (pack A) (422) v = pack (dup A 1 0 v) := by
  funext i
  unfold va_up
  by_cases e : i = 422
  · rw [if_pos e, e, pkr1_0 _, dup_t, va_up_self]
  · rw [if_neg e]
    unfold pack
    by_cases h0 : i < 8
    · rw [if_pos h0, if_pos h0, dup_o _ _ _ (by omega)]
    rw [if_neg h0, if_neg h0]
    by_cases h1 : i < 16
    · rw [if_pos h1, if_pos h1, dup_o _ _ _ (by omega)]
    rw [if_neg h1, if_neg h1]
    by_cases h2 : i < 24
    · rw [if_pos h2, if_pos h2, dup_o _ _ _ (by omega)]
    rw [if_neg h2, if_neg h2]
    by_cases h3 : i < 32
    · rw [if_pos h3, if_pos h3, dup_o _ _ _ (by omega)]
    rw [if_neg h3, if_neg h3]
    by_cases h4 : i < 160
    · rw [if_pos h4, if_pos h4, dup_o _ _ _ (by omega)]
    rw [if_neg h4, if_neg h4]
    by_cases h5 : i < 288
    · rw [if_pos h5, if_pos h5, dup_o _ _ _ (by omega)]
    rw [if_neg h5, if_neg h5]
    by_cases h6 : i < 416
    · rw [if_pos h6, if_pos h6, dup_o _ _ _ (by omega)]
    rw [if_neg h6, if_neg h6]
    by_cases h7 : i < 419
    · rw [if_pos h7, if_pos h7, dup_o _ _ _ (by omega)]
    rw [if_neg h7, if_neg h7]
    by_cases h8 : i = 419
    · rw [if_pos h8, if_pos h8, dup_t, va_up_ne _ _ (by omega)]
    rw [if_neg h8, if_neg h8]
    by_cases h9 : i = 420
    · rw [if_pos h9, if_pos h9, dup_o _ _ _ (by omega)]
    rw [if_neg h9, if_neg h9]
    by_cases h10 : i = 421
    · rw [if_pos h10, if_pos h10, dup_t, va_up_ne _ _ (by omega)]
    rw [if_neg h10, if_neg h10]
    by_cases h11 : i = 422
    · exact absurd h11 e
    rw [if_neg h11, if_neg h11]
    by_cases h12 : i = 423
    · rw [if_pos h12, if_pos h12, dup_t, va_up_ne _ _ (by omega)]
    rw [if_neg h12, if_neg h12]
    by_cases h13 : i = 424
    · rw [if_pos h13, if_pos h13, dup_t, va_up_ne _ _ (by omega)]
    rw [if_neg h13, if_neg h13]
    by_cases h14 : i = 425
    · rw [if_pos h14, if_pos h14, dup_t, va_up_ne _ _ (by omega)]
    rw [if_neg h14, if_neg h14]
    by_cases h15 : i = 426
    · rw [if_pos h15, if_pos h15, dup_t, va_up_ne _ _ (by omega)]
    rw [if_neg h15, if_neg h15]
    by_cases h16 : i = 427
    · rw [if_pos h16, if_pos h16, dup_t, va_up_ne _ _ (by omega)]
    rw [if_neg h16, if_neg h16]
    rw [dup_o _ _ _ (by omega)]
theorem pkr1_1 (A : Nat → Nat → Int)  : pack A (423) = A 1 1 := by
  unfold pack
  repeat (first | rw [if_pos (by omega)] | rw [if_neg (by omega)])

theorem pku1_1 (A : Nat → Nat → Int)  (v : Int) : va_up (pack A) (423) v = pack (dup A 1 1 v) := by
  funext i
  unfold va_up
  by_cases e : i = 423
  · rw [if_pos e, e, pkr1_1 _, dup_t, va_up_self]
  · rw [if_neg e]
    unfold pack
    by_cases h0 : i < 8
    · rw [if_pos h0, if_pos h0, dup_o _ _ _ (by omega)]
    rw [if_neg h0, if_neg h0]
    by_cases h1 : i < 16
    · rw [if_pos h1, if_pos h1, dup_o _ _ _ (by omega)]
    rw [if_neg h1, if_neg h1]
    by_cases h2 : i < 24
    · rw [if_pos h2, if_pos h2, dup_o _ _ _ (by omega)]
    rw [if_neg h2, if_neg h2]
    by_cases h3 : i < 32
    · rw [if_pos h3, if_pos h3, dup_o _ _ _ (by omega)]
    rw [if_neg h3, if_neg h3]
    by_cases h4 : i < 160
    · rw [if_pos h4, if_pos h4, dup_o _ _ _ (by omega)]
    rw [if_neg h4, if_neg h4]
    by_cases h5 : i < 288
    · rw [if_pos h5, if_pos h5, dup_o _ _ _ (by omega)]
    rw [if_neg h5, if_neg h5]
    by_cases h6 : i < 416
    · rw [if_pos h6, if_pos h6, dup_o _ _ _ (by omega)]
    rw [if_neg h6, if_neg h6]
    by_cases h7 : i < 419
    · rw [if_pos h7, if_pos h7, dup_o _ _ _ (by omega)]
    rw [if_neg h7, if_neg h7]
    by_cases h8 : i = 419
    · rw [if_pos h8, if_pos h8, dup_t, va_up_ne _ _ (by omega)]
    rw [if_neg h8, if_neg h8]
    by_cases h9 : i = 420
    · rw [if_pos h9, if_pos h9, dup_o _ _ _ (by omega)]
    rw [if_neg h9, if_neg h9]
    by_cases h10 : i = 421
    · rw [if_pos h10, if_pos h10, dup_t, va_up_ne _ _ (by omega)]
    rw [if_neg h10, if_neg h10]
    by_cases h11 : i = 422
    · rw [if_pos h11, if_pos h11, dup_t, va_up_ne _ _ (by omega)]
    rw [if_neg h11, if_neg h11]
    by_cases h12 : i = 423
    · exact absurd h12 e
    rw [if_neg h12, if_neg h12]
    by_cases h13 : i = 424
    · rw [if_pos h13, if_pos h13, dup_t, va_up_ne _ _ (by omega)]
    rw [if_neg h13, if_neg h13]
    by_cases h14 : i = 425
    · rw [if_pos h14, if_pos h14, dup_t, va_up_ne _ _ (by omega)]
    rw [if_neg h14, if_neg h14]
    by_cases h15 : i = 426
    · rw [if_pos h15, if_pos h15, dup_t, va_up_ne _ _ (by omega)]
    rw [if_neg h15, if_neg h15]
    by_cases h16 : i = 427
    · rw [if_pos h16, if_pos h16, dup_t, va_up_ne _ _ (by omega)]
    rw [if_neg h16, if_neg h16]
    rw [dup_o _ _ _ (by omega)]
theorem pkr1_2 (A : Nat → Nat → Int)  : pack A (424) = A 1 2 := by
  unfold pack
  repeat (first | rw [if_pos (by omega)] | rw [if_neg (by omega)])

theorem pku1_2 (A : Nat → Nat → Int)  (v : Int) : va_up (pack A) (424) v = pack (dup A 1 2 v) := by
  funext i
  unfold va_up
  by_cases e : i = 424
  · rw [if_pos e, e, pkr1_2 _, dup_t, va_up_self]
  · rw [if_neg e]
    unfold pack
    by_cases h0 : i < 8
    · rw [if_pos h0, if_pos h0, dup_o _ _ _ (by omega)]
    rw [if_neg h0, if_neg h0]
    by_cases h1 : i < 16
    · rw [if_pos h1, if_pos h1, dup_o _ _ _ (by omega)]
    rw [if_neg h1, if_neg h1]
    by_cases h2 : i < 24
    · rw [if_pos h2, if_pos h2, dup_o _ _ _ (by omega)]
    rw [if_neg h2, if_neg h2]
    by_cases h3 : i < 32
    · rw [if_pos h3, if_pos h3, dup_o _ _ _ (by omega)]
    rw [if_neg h3, if_neg h3]
    by_cases h4 : i < 160
    · rw [if_pos h4, if_pos h4, dup_o _ _ _ (by omega)]
    rw [if_neg h4, if_neg h4]
    by_cases h5 : i < 288
    · rw [if_pos h5, if_pos h5, dup_o _ _ _ (by omega)]
    rw [if_neg h5, if_neg h5]
    by_cases h6 : i < 416
    · rw [if_pos h6, if_pos h6, dup_o _ _ _ (by omega)]
    rw [if_neg h6, if_neg h6]
    by_cases h7 : i < 419
    · rw [if_pos h7, if_pos h7, dup_o _ _ _ (by omega)]
    rw [if_neg h7, if_neg h7]
    by_cases h8 : i = 419
    · rw [if_pos h8, if_pos h8, dup_t, va_up_ne _ _ (by omega)]
    rw [if_neg h8, if_neg h8]
    by_cases h9 : i = 420
    · rw [if_pos h9, if_pos h9, dup_o _ _ _ (by omega)]
    rw [if_neg h9, if_neg h9]
    by_cases h10 : i = 421
    · rw [if_pos h10, if_pos h10, dup_t, va_up_ne _ _ (by omega)]
    rw [if_neg h10, if_neg h10]
    by_cases h11 : i = 422
    · rw [if_pos h11, if_pos h11, dup_t, va_up_ne _ _ (by omega)]
    rw [if_neg h11, if_neg h11]
    by_cases h12 : i = 423
    · rw [if_pos h12, if_pos h12, dup_t, va_up_ne _ _ (by omega)]
    rw [if_neg h12, if_neg h12]
    by_cases h13 : i = 424
    · exact absurd h13 e
    rw [if_neg h13, if_neg h13]
    by_cases h14 : i = 425
    · rw [if_pos h14, if_pos h14, dup_t, va_up_ne _ _ (by omega)]
    rw [if_neg h14, if_neg h14]
    by_cases h15 : i = 426
    · rw [if_pos h15, if_pos h15, dup_t, va_up_ne _ _ (by omega)]
    rw [if_neg h15, if_neg h15]
    by_cases h16 : i = 427
    · rw [if_pos h16, if_pos h16, dup_t, va_up_ne _ _ (by omega)]
    rw [if_neg h16, if_neg h16]
    rw [dup_o _ _ _ (by omega)]
theorem pkr1_3 (A : Nat → Nat → Int)  : pack A (425) = A 1 3 := by
  unfold pack
  repeat (first | rw [if_pos (by omega)] | rw [if_neg (by omega)])

theorem pku1_3 (A : Nat → Nat → Int)  (v : Int) : va_up (pack A) (425) v = pack (dup A 1 3 v) := by
  funext i
  unfold va_up
  by_cases e : i = 425
  · rw [if_pos e, e, pkr1_3 _, dup_t, va_up_self]
  · rw [if_neg e]
    unfold pack
    by_cases h0 : i < 8
    · rw [if_pos h0, if_pos h0, dup_o _ _ _ (by omega)]
    rw [if_neg h0, if_neg h0]
    by_cases h1 : i < 16
    · rw [if_pos h1, if_pos h1, dup_o _ _ _ (by omega)]
    rw [if_neg h1, if_neg h1]
    by_cases h2 : i < 24
    · rw [if_pos h2, if_pos h2, dup_o _ _ _ (by omega)]
    rw [if_neg h2, if_neg h2]
    by_cases h3 : i < 32
    · rw [if_pos h3, if_pos h3, dup_o _ _ _ (by omega)]
    rw [if_neg h3, if_neg h3]
    by_cases h4 : i < 160
    · rw [if_pos h4, if_pos h4, dup_o _ _ _ (by omega)]
    rw [if_neg h4, if_neg h4]
    by_cases h5 : i < 288
    · rw [if_pos h5, if_pos h5, dup_o _ _ _ (by omega)]
    rw [if_neg h5, if_neg h5]
    by_cases h6 : i < 416
    · rw [if_pos h6, if_pos h6, dup_o _ _ _ (by omega)]
    rw [if_neg h6, if_neg h6]
    by_cases h7 : i < 419
    · rw [if_pos h7, if_pos h7, dup_o _ _ _ (by omega)]
    rw [if_neg h7, if_neg h7]
    by_cases h8 : i = 419
    · rw [if_pos h8, if_pos h8, dup_t, va_up_ne _ _ (by omega)]
    rw [if_neg h8, if_neg h8]
    by_cases h9 : i = 420
    · rw [if_pos h9, if_pos h9, dup_o _ _ _ (by omega)]
    rw [if_neg h9, if_neg h9]
    by_cases h10 : i = 421
    · rw [if_pos h10, if_pos h10, dup_t, va_up_ne _ _ (by omega)]
    rw [if_neg h10, if_neg h10]
    by_cases h11 : i = 422
    · rw [if_pos h11, if_pos h11, dup_t, va_up_ne _ _ (by omega)]
    rw [if_neg h11, if_neg h11]
    by_cases h12 : i = 423
    · rw [if_pos h12, if_pos h12, dup_t, va_up_ne _ _ (by omega)]
    rw [if_neg h12, if_neg h12]
    by_cases h13 : i = 424
    · rw [if_pos h13, if_pos h13, dup_t, va_up_ne _ _ (by omega)]
    rw [if_neg h13, if_neg h13]
    by_cases h14 : i = 425
    · exact absurd h14 e
    rw [if_neg h14, if_neg h14]
    by_cases h15 : i = 426
    · rw [if_pos h15, if_pos h15, dup_t, va_up_ne _ _ (by omega)]
    rw [if_neg h15, if_neg h15]
    by_cases h16 : i = 427
    · rw [if_pos h16, if_pos h16, dup_t, va_up_ne _ _ (by omega)]
    rw [if_neg h16, if_neg h16]
    rw [dup_o _ _ _ (by omega)]
theorem pkr1_6 (A : Nat → Nat → Int)  : pack A (426) = A 1 6 := by
  unfold pack
  repeat (first | rw [if_pos (by omega)] | rw [if_neg (by omega)])

theorem pku1_6 (A : Nat → Nat → Int)  (v : Int) : va_up (pack A) (426) v = pack (dup A 1 6 v) := by
  funext i
  unfold va_up
  by_cases e : i = 426
  · rw [if_pos e, e, pkr1_6 _, dup_t, va_up_self]
  · rw [if_neg e]
    unfold pack
    by_cases h0 : i < 8
    · rw [if_pos h0, if_pos h0, dup_o _ _ _ (by omega)]
    rw [if_neg h0, if_neg h0]
    by_cases h1 : i < 16
    · rw [if_pos h1, if_pos h1, dup_o _ _ _ (by omega)]
    rw [if_neg h1, if_neg h1]
    by_cases h2 : i < 24
    · rw [if_pos h2, if_pos h2, dup_o _ _ _ (by omega)]
    rw [if_neg h2, if_neg h2]
    by_cases h3 : i < 32
    · rw [if_pos h3, if_pos h3, dup_o _ _ _ (by omega)]
    rw [if_neg h3, if_neg h3]
    by_cases h4 : i < 160
    · rw [if_pos h4, if_pos h4, dup_o _ _ _ (by omega)]
    rw [if_neg h4, if_neg h4]
    by_cases h5 : i < 288
    · rw [if_pos h5, if_pos h5, dup_o _ _ _ (by omega)]
    rw [if_neg h5, if_neg h5]
    by_cases h6 : i < 416
    · rw [if_pos h6, if_pos h6, dup_o _ _ _ (by omega)]
    rw [if_neg h6, if_neg h6]
    by_cases h7 : i < 419
    · rw [if_pos h7, if_pos h7, dup_o _ _ _ (by omega)]
    rw [if_neg h7, if_neg h7]
    by_cases h8 : i = 419
    · rw [if_pos h8, if_pos h8, dup_t, va_up_ne _ _ (by omega)]
    rw [if_neg h8, if_neg h8]
    by_cases h9 : i = 420
    · rw [if_pos h9, if_pos h9, dup_o _ _ _ (by omega)]
    rw [if_neg h9, if_neg h9]
    by_cases h10 : i = 421
    · rw [if_pos h10, if_pos h10, dup_t, va_up_ne _ _ (by omega)]
    rw [if_neg h10, if_neg h10]
    by_cases h11 : i = 422
    · rw [if_pos h11, if_pos h11, dup_t, va_up_ne _ _ (by omega)]
    rw [if_neg h11, if_neg h11]
    by_cases h12 : i = 423
    · rw [if_pos h12, if_pos h12, dup_t, va_up_ne _ _ (by omega)]
    rw [if_neg h12, if_neg h12]
    by_cases h13 : i = 424
    · rw [if_pos h13, if_pos h13, dup_t, va_up_ne _ _ (by omega)]
    rw [if_neg h13, if_neg h13]
    by_cases h14 : i = 425
    · rw [if_pos h14, if_pos h14, dup_t, va_up_ne _ _ (by omega)]
    rw [if_neg h14, if_neg h14]
    by_cases h15 : i = 426
    · exact absurd h15 e
    rw [if_neg h15, if_neg h15]
    by_cases h16 : i = 427
    · rw [if_pos h16, if_pos h16, dup_t, va_up_ne _ _ (by omega)]
    rw [if_neg h16, if_neg h16]
    rw [dup_o _ _ _ (by omega)]
theorem pkr1_7 (A : Nat → Nat → Int)  : pack A (427) = A 1 7 := by
  unfold pack
  repeat (first | rw [if_pos (by omega)] | rw [if_neg (by omega)])

theorem pku1_7 (A : Nat → Nat → Int)  (v : Int) : va_up (pack A) (427) v = pack (dup A 1 7 v) := by
  funext i
  unfold va_up
  by_cases e : i = 427
  · rw [if_pos e, e, pkr1_7 _, dup_t, va_up_self]
  · rw [if_neg e]
    unfold pack
    by_cases h0 : i < 8
    · rw [if_pos h0, if_pos h0, dup_o _ _ _ (by omega)]
    rw [if_neg h0, if_neg h0]
    by_cases h1 : i < 16
    · rw [if_pos h1, if_pos h1, dup_o _ _ _ (by omega)]
    rw [if_neg h1, if_neg h1]
    by_cases h2 : i < 24
    · rw [if_pos h2, if_pos h2, dup_o _ _ _ (by omega)]
    rw [if_neg h2, if_neg h2]
    by_cases h3 : i < 32
    · rw [if_pos h3, if_pos h3, dup_o _ _ _ (by omega)]
    rw [if_neg h3, if_neg h3]
    by_cases h4 : i < 160
    · rw [if_pos h4, if_pos h4, dup_o _ _ _ (by omega)]
    rw [if_neg h4, if_neg h4]
    by_cases h5 : i < 288
    · rw [if_pos h5, if_pos h5, dup_o _ _ _ (by omega)]
    rw [if_neg h5, if_neg h5]
    by_cases h6 : i < 416
    · rw [if_pos h6, if_pos h6, dup_o _ _ _ (by omega)]
    rw [if_neg h6, if_neg h6]
    by_cases h7 : i < 419
    · rw [if_pos h7, if_pos h7, dup_o _ _ _ (by omega)]
    rw [if_neg h7, if_neg h7]
    by_cases h8 : i = 419
    · rw [if_pos h8, if_pos h8, dup_t, va_up_ne _ _ (by omega)]
    rw [if_neg h8, if_neg h8]
    by_cases h9 : i = 420
    · rw [if_pos h9, if_pos h9, dup_o _ _ _ (by omega)]
    rw [if_neg h9, if_neg h9]
    by_cases h10 : i = 421
    · rw [if_pos h10, if_pos h10, dup_t, va_up_ne _ _ (by omega)]
    rw [if_neg h10, if_neg h10]
    by_cases h11 : i = 422
    · rw [if_pos h11, if_pos h11, dup_t, va_up_ne _ _ (by omega)]
    rw [if_neg h11, if_neg h11]
    by_cases h12 : i = 423
    · rw [if_pos h12, if_pos h12, dup_t, va_up_ne _ _ (by omega)]
    rw [if_neg h12, if_neg h12]
    by_cases h13 : i = 424
    · rw [if_pos h13, if_pos h13, dup_t, va_up_ne _ _ (by omega)]
    rw [if_neg h13, if_neg h13]
    by_cases h14 : i = 425
    · rw [if_pos h14, if_pos h14, dup_t, va_up_ne _ _ (by omega)]
    rw [if_neg h14, if_neg h14]
    by_cases h15 : i = 426
    · rw [if_pos h15, if_pos h15, dup_t, va_up_ne _ _ (by omega)]
    rw [if_neg h15, if_neg h15]
    by_cases h16 : i = 427
    · exact absurd h16 e
    rw [if_neg h16, if_neg h16]
    rw [dup_o _ _ _ (by omega)]
theorem pkr13 (A : Nat → Nat → Int) (j : Nat) : pack A (428 + j) = A 13 j := by
  unfold pack
  repeat (first | rw [if_pos (by omega)] | rw [if_neg (by omega)])
  rw [Nat.add_sub_cancel_left]
theorem pku13 (A : Nat → Nat → Int) (j : Nat) (v : Int) : va_up (pack A) (428 + j) v = pack (dup A 13 j v) := by
  funext i
  unfold va_up
  by_cases e : i = 428 + j
  · rw [if_pos e, e, pkr13 _ j, dup_t, va_up_self]
  · rw [if_neg e]
    unfold pack
    by_cases h0 : i < 8
    · rw [if_pos h0, if_pos h0, dup_o _ _ _ (by omega)]
    rw [if_neg h0, if_neg h0]
    by_cases h1 : i < 16
    · rw [if_pos h1, if_pos h1, dup_o _ _ _ (by omega)]
    rw [if_neg h1, if_neg h1]
    by_cases h2 : i < 24
    · rw [if_pos h2, if_pos h2, dup_o _ _ _ (by omega)]
    rw [if_neg h2, if_neg h2]
    by_cases h3 : i < 32
    · rw [if_pos h3, if_pos h3, dup_o _ _ _ (by omega)]
    rw [if_neg h3, if_neg h3]
    by_cases h4 : i < 160
    · rw [if_pos h4, if_pos h4, dup_o _ _ _ (by omega)]
    rw [if_neg h4, if_neg h4]
    by_cases h5 : i < 288
    · rw [if_pos h5, if_pos h5, dup_o _ _ _ (by omega)]
    rw [if_neg h5, if_neg h5]
    by_cases h6 : i < 416
    · rw [if_pos h6, if_pos h6, dup_o _ _ _ (by omega)]
    rw [if_neg h6, if_neg h6]
    by_cases h7 : i < 419
    · rw [if_pos h7, if_pos h7, dup_o _ _ _ (by omega)]
    rw [if_neg h7, if_neg h7]
    by_cases h8 : i = 419
    · rw [if_pos h8, if_pos h8, dup_o _ _ _ (by omega)]
    rw [if_neg h8, if_neg h8]
    by_cases h9 : i = 420
    · rw [if_pos h9, if_pos h9, dup_o _ _ _ (by omega)]
    rw [if_neg h9, if_neg h9]
    by_cases h10 : i = 421
    · rw [if_pos h10, if_pos h10, dup_o _ _ _ (by omega)]
    rw [if_neg h10, if_neg h10]
    by_cases h11 : i = 422
    · rw [if_pos h11, if_pos h11, dup_o _ _ _ (by omega)]
    rw [if_neg h11, if_neg h11]
    by_cases h12 : i = 423
    · rw [if_pos h12, if_pos h12, dup_o _ _ _ (by omega)]
    rw [if_neg h12, if_neg h12]
    by_cases h13 : i = 424
    · rw [if_pos h13, if_pos h13, dup_o _ _ _ (by omega)]
    rw [if_neg h13, if_neg h13]
    by_cases h14 : i = 425
    · rw [if_pos h14, if_pos h14, dup_o _ _ _ (by omega)]
    rw [if_neg h14, if_neg h14]
    by_cases h15 : i = 426
    · rw [if_pos h15, if_pos h15, dup_o _ _ _ (by omega)]
    rw [if_neg h15, if_neg h15]
    by_cases h16 : i = 427
    · rw [if_pos h16, if_pos h16, dup_o _ _ _ (by omega)]
    rw [if_neg h16, if_neg h16]
    rw [dup_t, va_up_ne _ _ (by omega)]
def unpk (f : Nat → Int) : Nat → Nat → Int
  | 2, j => f (0 + j)
  | 3, j => f (8 + j)
  | 4, j => f (16 + j)
  | 5, j => f (24 + j)
  | 7, j => f (32 + j)
  | 8, j => f (160 + j)
  | 9, j => f (288 + j)
  | 6, j => f (416 + j)
  | 0, _ => f 420
  | 1, 0 => f 422
  | 1, 1 => f 423
  | 1, 2 => f 424
  | 1, 3 => f 425
  | 1, 4 => f 419
  | 1, 5 => f 421
  | 1, 6 => f 426
  | 1, _ => f 427
  | _, j => f (428 + j)
theorem pack_unpk (f : Nat → Int) : pack (unpk f) = f := by
  funext i
  unfold pack
  by_cases h0 : i < 8
  · rw [if_pos h0]; show f (0 + i) = f i; rw [show 0 + i = i by omega]
  rw [if_neg h0]
  by_cases h1 : i < 16
  · rw [if_pos h1]; show f (8 + (i - 8)) = f i; rw [show 8 + (i - 8) = i by omega]
  rw [if_neg h1]
  by_cases h2 : i < 24
  · rw [if_pos h2]; show f (16 + (i - 16)) = f i; rw [show 16 + (i - 16) = i by omega]
  rw [if_neg h2]
  by_cases h3 : i < 32
  · rw [if_pos h3]; show f (24 + (i - 24)) = f i; rw [show 24 + (i - 24) = i by omega]
  rw [if_neg h3]
  by_cases h4 : i < 160
  · rw [if_pos h4]; show f (32 + (i - 32)) = f i; rw [show 32 + (i - 32) = i by omega]
  rw [if_neg h4]
  by_cases h5 : i < 288
  · rw [if_pos h5]; show f (160 + (i - 160)) = f i; rw [show 160 + (i - 160) = i by omega]
  rw [if_neg h5]
  by_cases h6 : i < 416
  · rw [if_pos h6]; show f (288 + (i - 288)) = f i; rw [show 288 + (i - 288) = i by omega]
  rw [if_neg h6]
  by_cases h7 : i < 419
  · rw [if_pos h7]; show f (416 + (i - 416)) = f i; rw [show 416 + (i - 416) = i by omega]
  rw [if_neg h7]
  by_cases h8 : i = 419
  · rw [if_pos h8]; subst h8; rfl
  rw [if_neg h8]
  by_cases h9 : i = 420
  · rw [if_pos h9]; subst h9; rfl
  rw [if_neg h9]
  by_cases h10 : i = 421
  · rw [if_pos h10]; subst h10; rfl
  rw [if_neg h10]
  by_cases h11 : i = 422
  · rw [if_pos h11]; subst h11; rfl
  rw [if_neg h11]
  by_cases h12 : i = 423
  · rw [if_pos h12]; subst h12; rfl
  rw [if_neg h12]
  by_cases h13 : i = 424
  · rw [if_pos h13]; subst h13; rfl
  rw [if_neg h13]
  by_cases h14 : i = 425
  · rw [if_pos h14]; subst h14; rfl
  rw [if_neg h14]
  by_cases h15 : i = 426
  · rw [if_pos h15]; subst h15; rfl
  rw [if_neg h15]
  by_cases h16 : i = 427
  · rw [if_pos h16]; subst h16; rfl
  rw [if_neg h16]
  show f (428 + (i - 428)) = f i
  rw [show 428 + (i - 428) = i by omega]
section MPK
variable {m : Nat} {M A : Nat → Nat → Int} {h : am_H} {c : Nat}
theorem mvc_rd (hc : 8 ≤ c ∧ c ≤ 11) {j : Int} (h0 : 0 ≤ j) (h1 : j < 609) : am_rd (mv m M h) (m + c) 0 j = some (M c j.toNat) := by
  rcases (show c = 8 ∨ c = 9 ∨ c = 10 ∨ c = 11 by omega) with e | e | e | e
  · subst e; exact mv_r8 h0 h1
  · subst e; exact mv_r9 h0 h1
  · subst e; exact mv_r10 h0 h1
  · subst e; exact mv_r11 h0 h1
theorem mvc_wr (hc : 8 ≤ c ∧ c ≤ 11) {j : Int} (x : Int) (h0 : 0 ≤ j) (h1 : j < 609) : am_wr (mv m M h) (m + c) 0 j x = some (mv m (dup M c j.toNat x) h) := by
  rcases (show c = 8 ∨ c = 9 ∨ c = 10 ∨ c = 11 by omega) with e | e | e | e
  · subst e; exact mv_w8 x h0 h1
  · subst e; exact mv_w9 x h0 h1
  · subst e; exact mv_w10 x h0 h1
  · subst e; exact mv_w11 x h0 h1
theorem mpk_up (j : Nat) (x : Int) : dup (drow M c (pack A)) c j x = drow M c (va_up (pack A) j x) := by
  funext i
  unfold dup
  split
  · rename_i q; rw [q, drow_t, drow_t]
  · rename_i q; rw [drow_o _ _ q, drow_o _ _ q]
theorem mr2 (hc : 8 ≤ c ∧ c ≤ 11) {z : Nat} (hz : z < 8) : am_rd (mv m (drow M c (pack A)) h) (m + c) 0 (0 + (z : Int)) = some (A 2 z) := by
  rw [mvc_rd hc (by omega) (by omega), drow_t, show ((0 + (z : Int) : Int)).toNat = 0 + z by omega, pkr2 _ hz]
theorem mw2 (hc : 8 ≤ c ∧ c ≤ 11) {z : Nat} (hz : z < 8) (x : Int) : am_wr (mv m (drow M c (pack A)) h) (m + c) 0 (0 + (z : Int)) x = some (mv m (drow M c (pack (dup A 2 z x))) h) := by
  rw [mvc_wr hc x (by omega) (by omega), mpk_up, show ((0 + (z : Int) : Int)).toNat = 0 + z by omega, pku2 _ hz]
theorem mr3 (hc : 8 ≤ c ∧ c ≤ 11) {z : Nat} (hz : z < 8) : am_rd (mv m (drow M c (pack A)) h) (m + c) 0 (8 + (z : Int)) = some (A 3 z) := by
  rw [mvc_rd hc (by omega) (by omega), drow_t, show ((8 + (z : Int) : Int)).toNat = 8 + z by omega, pkr3 _ hz]
theorem mw3 (hc : 8 ≤ c ∧ c ≤ 11) {z : Nat} (hz : z < 8) (x : Int) : am_wr (mv m (drow M c (pack A)) h) (m + c) 0 (8 + (z : Int)) x = some (mv m (drow M c (pack (dup A 3 z x))) h) := by
  rw [mvc_wr hc x (by omega) (by omega), mpk_up, show ((8 + (z : Int) : Int)).toNat = 8 + z by omega, pku3 _ hz]
theorem mr4 (hc : 8 ≤ c ∧ c ≤ 11) {z : Nat} (hz : z < 8) : am_rd (mv m (drow M c (pack A)) h) (m + c) 0 (16 + (z : Int)) = some (A 4 z) := by
  rw [mvc_rd hc (by omega) (by omega), drow_t, show ((16 + (z : Int) : Int)).toNat = 16 + z by omega, pkr4 _ hz]
theorem mw4 (hc : 8 ≤ c ∧ c ≤ 11) {z : Nat} (hz : z < 8) (x : Int) : am_wr (mv m (drow M c (pack A)) h) (m + c) 0 (16 + (z : Int)) x = some (mv m (drow M c (pack (dup A 4 z x))) h) := by
  rw [mvc_wr hc x (by omega) (by omega), mpk_up, show ((16 + (z : Int) : Int)).toNat = 16 + z by omega, pku4 _ hz]
theorem mr5 (hc : 8 ≤ c ∧ c ≤ 11) {z : Nat} (hz : z < 8) : am_rd (mv m (drow M c (pack A)) h) (m + c) 0 (24 + (z : Int)) = some (A 5 z) := by
  rw [mvc_rd hc (by omega) (by omega), drow_t, show ((24 + (z : Int) : Int)).toNat = 24 + z by omega, pkr5 _ hz]
theorem mw5 (hc : 8 ≤ c ∧ c ≤ 11) {z : Nat} (hz : z < 8) (x : Int) : am_wr (mv m (drow M c (pack A)) h) (m + c) 0 (24 + (z : Int)) x = some (mv m (drow M c (pack (dup A 5 z x))) h) := by
  rw [mvc_wr hc x (by omega) (by omega), mpk_up, show ((24 + (z : Int) : Int)).toNat = 24 + z by omega, pku5 _ hz]
theorem mr7 (hc : 8 ≤ c ∧ c ≤ 11) {z : Nat} (hz : z < 128) : am_rd (mv m (drow M c (pack A)) h) (m + c) 0 (32 + (z : Int)) = some (A 7 z) := by
  rw [mvc_rd hc (by omega) (by omega), drow_t, show ((32 + (z : Int) : Int)).toNat = 32 + z by omega, pkr7 _ hz]
theorem mw7 (hc : 8 ≤ c ∧ c ≤ 11) {z : Nat} (hz : z < 128) (x : Int) : am_wr (mv m (drow M c (pack A)) h) (m + c) 0 (32 + (z : Int)) x = some (mv m (drow M c (pack (dup A 7 z x))) h) := by
  rw [mvc_wr hc x (by omega) (by omega), mpk_up, show ((32 + (z : Int) : Int)).toNat = 32 + z by omega, pku7 _ hz]
theorem mr8 (hc : 8 ≤ c ∧ c ≤ 11) {z : Nat} (hz : z < 128) : am_rd (mv m (drow M c (pack A)) h) (m + c) 0 (160 + (z : Int)) = some (A 8 z) := by
  rw [mvc_rd hc (by omega) (by omega), drow_t, show ((160 + (z : Int) : Int)).toNat = 160 + z by omega, pkr8 _ hz]
theorem mw8 (hc : 8 ≤ c ∧ c ≤ 11) {z : Nat} (hz : z < 128) (x : Int) : am_wr (mv m (drow M c (pack A)) h) (m + c) 0 (160 + (z : Int)) x = some (mv m (drow M c (pack (dup A 8 z x))) h) := by
  rw [mvc_wr hc x (by omega) (by omega), mpk_up, show ((160 + (z : Int) : Int)).toNat = 160 + z by omega, pku8 _ hz]
theorem mr9 (hc : 8 ≤ c ∧ c ≤ 11) {z : Nat} (hz : z < 128) : am_rd (mv m (drow M c (pack A)) h) (m + c) 0 (288 + (z : Int)) = some (A 9 z) := by
  rw [mvc_rd hc (by omega) (by omega), drow_t, show ((288 + (z : Int) : Int)).toNat = 288 + z by omega, pkr9 _ hz]
theorem mw9 (hc : 8 ≤ c ∧ c ≤ 11) {z : Nat} (hz : z < 128) (x : Int) : am_wr (mv m (drow M c (pack A)) h) (m + c) 0 (288 + (z : Int)) x = some (mv m (drow M c (pack (dup A 9 z x))) h) := by
  rw [mvc_wr hc x (by omega) (by omega), mpk_up, show ((288 + (z : Int) : Int)).toNat = 288 + z by omega, pku9 _ hz]
theorem mr6 (hc : 8 ≤ c ∧ c ≤ 11) {z : Nat} (hz : z < 3) : am_rd (mv m (drow M c (pack A)) h) (m + c) 0 (416 + (z : Int)) = some (A 6 z) := by
  rw [mvc_rd hc (by omega) (by omega), drow_t, show ((416 + (z : Int) : Int)).toNat = 416 + z by omega, pkr6 _ hz]
theorem mw6 (hc : 8 ≤ c ∧ c ≤ 11) {z : Nat} (hz : z < 3) (x : Int) : am_wr (mv m (drow M c (pack A)) h) (m + c) 0 (416 + (z : Int)) x = some (mv m (drow M c (pack (dup A 6 z x))) h) := by
  rw [mvc_wr hc x (by omega) (by omega), mpk_up, show ((416 + (z : Int) : Int)).toNat = 416 + z by omega, pku6 _ hz]
theorem mr1_4 (hc : 8 ≤ c ∧ c ≤ 11) : am_rd (mv m (drow M c (pack A)) h) (m + c) 0 (419) = some (A 1 4) := by
  rw [mvc_rd hc (by omega) (by omega), drow_t, show ((419 : Int)).toNat = 419 by omega, pkr1_4]
theorem mw1_4 (hc : 8 ≤ c ∧ c ≤ 11) (x : Int) : am_wr (mv m (drow M c (pack A)) h) (m + c) 0 (419) x = some (mv m (drow M c (pack (dup A 1 4 x))) h) := by
  rw [mvc_wr hc x (by omega) (by omega), mpk_up, show ((419 : Int)).toNat = 419 by omega, pku1_4]
theorem mr0_6 (hc : 8 ≤ c ∧ c ≤ 11) : am_rd (mv m (drow M c (pack A)) h) (m + c) 0 (420) = some (A 0 6) := by
  rw [mvc_rd hc (by omega) (by omega), drow_t, show ((420 : Int)).toNat = 420 by omega, pkr0_6]
theorem mw0_6 (hc : 8 ≤ c ∧ c ≤ 11) (x : Int) : am_wr (mv m (drow M c (pack A)) h) (m + c) 0 (420) x = some (mv m (drow M c (pack (dup A 0 6 x))) h) := by
  rw [mvc_wr hc x (by omega) (by omega), mpk_up, show ((420 : Int)).toNat = 420 by omega, pku0_6]
theorem mr1_5 (hc : 8 ≤ c ∧ c ≤ 11) : am_rd (mv m (drow M c (pack A)) h) (m + c) 0 (421) = some (A 1 5) := by
  rw [mvc_rd hc (by omega) (by omega), drow_t, show ((421 : Int)).toNat = 421 by omega, pkr1_5]
theorem mw1_5 (hc : 8 ≤ c ∧ c ≤ 11) (x : Int) : am_wr (mv m (drow M c (pack A)) h) (m + c) 0 (421) x = some (mv m (drow M c (pack (dup A 1 5 x))) h) := by
  rw [mvc_wr hc x (by omega) (by omega), mpk_up, show ((421 : Int)).toNat = 421 by omega, pku1_5]
theorem mr1_0 (hc : 8 ≤ c ∧ c ≤ 11) : am_rd (mv m (drow M c (pack A)) h) (m + c) 0 (422) = some (A 1 0) := by
  rw [mvc_rd hc (by omega) (by omega), drow_t, show ((422 : Int)).toNat = 422 by omega, pkr1_0]
theorem mw1_0 (hc : 8 ≤ c ∧ c ≤ 11) (x : Int) : am_wr (mv m (drow M c (pack A)) h) (m + c) 0 (422) x = some (mv m (drow M c (pack (dup A 1 0 x))) h) := by
  rw [mvc_wr hc x (by omega) (by omega), mpk_up, show ((422 : Int)).toNat = 422 by omega, pku1_0]
theorem mr1_1 (hc : 8 ≤ c ∧ c ≤ 11) : am_rd (mv m (drow M c (pack A)) h) (m + c) 0 (423) = some (A 1 1) := by
  rw [mvc_rd hc (by omega) (by omega), drow_t, show ((423 : Int)).toNat = 423 by omega, pkr1_1]
theorem mw1_1 (hc : 8 ≤ c ∧ c ≤ 11) (x : Int) : am_wr (mv m (drow M c (pack A)) h) (m + c) 0 (423) x = some (mv m (drow M c (pack (dup A 1 1 x))) h) := by
  rw [mvc_wr hc x (by omega) (by omega), mpk_up, show ((423 : Int)).toNat = 423 by omega, pku1_1]
theorem mr1_2 (hc : 8 ≤ c ∧ c ≤ 11) : am_rd (mv m (drow M c (pack A)) h) (m + c) 0 (424) = some (A 1 2) := by
  rw [mvc_rd hc (by omega) (by omega), drow_t, show ((424 : Int)).toNat = 424 by omega, pkr1_2]
theorem mw1_2 (hc : 8 ≤ c ∧ c ≤ 11) (x : Int) : am_wr (mv m (drow M c (pack A)) h) (m + c) 0 (424) x = some (mv m (drow M c (pack (dup A 1 2 x))) h) := by
  rw [mvc_wr hc x (by omega) (by omega), mpk_up, show ((424 : Int)).toNat = 424 by omega, pku1_2]
theorem mr1_3 (hc : 8 ≤ c ∧ c ≤ 11) : am_rd (mv m (drow M c (pack A)) h) (m + c) 0 (425) = some (A 1 3) := by
  rw [mvc_rd hc (by omega) (by omega), drow_t, show ((425 : Int)).toNat = 425 by omega, pkr1_3]
theorem mw1_3 (hc : 8 ≤ c ∧ c ≤ 11) (x : Int) : am_wr (mv m (drow M c (pack A)) h) (m + c) 0 (425) x = some (mv m (drow M c (pack (dup A 1 3 x))) h) := by
  rw [mvc_wr hc x (by omega) (by omega), mpk_up, show ((425 : Int)).toNat = 425 by omega, pku1_3]
theorem mr1_6 (hc : 8 ≤ c ∧ c ≤ 11) : am_rd (mv m (drow M c (pack A)) h) (m + c) 0 (426) = some (A 1 6) := by
  rw [mvc_rd hc (by omega) (by omega), drow_t, show ((426 : Int)).toNat = 426 by omega, pkr1_6]
theorem mw1_6 (hc : 8 ≤ c ∧ c ≤ 11) (x : Int) : am_wr (mv m (drow M c (pack A)) h) (m + c) 0 (426) x = some (mv m (drow M c (pack (dup A 1 6 x))) h) := by
  rw [mvc_wr hc x (by omega) (by omega), mpk_up, show ((426 : Int)).toNat = 426 by omega, pku1_6]
theorem mr1_7 (hc : 8 ≤ c ∧ c ≤ 11) : am_rd (mv m (drow M c (pack A)) h) (m + c) 0 (427) = some (A 1 7) := by
  rw [mvc_rd hc (by omega) (by omega), drow_t, show ((427 : Int)).toNat = 427 by omega, pkr1_7]
theorem mw1_7 (hc : 8 ≤ c ∧ c ≤ 11) (x : Int) : am_wr (mv m (drow M c (pack A)) h) (m + c) 0 (427) x = some (mv m (drow M c (pack (dup A 1 7 x))) h) := by
  rw [mvc_wr hc x (by omega) (by omega), mpk_up, show ((427 : Int)).toNat = 427 by omega, pku1_7]
theorem mr13 (hc : 8 ≤ c ∧ c ≤ 11) {j : Nat} (hj : j < 181) : am_rd (mv m (drow M c (pack A)) h) (m + c) 0 (428 + (j : Int)) = some (A 13 j) := by
  rw [mvc_rd hc (by omega) (by omega), drow_t, show ((428 + (j : Int) : Int)).toNat = 428 + j by omega, pkr13 _ j]
theorem mw13 (hc : 8 ≤ c ∧ c ≤ 11) {j : Nat} (hj : j < 181) (x : Int) : am_wr (mv m (drow M c (pack A)) h) (m + c) 0 (428 + (j : Int)) x = some (mv m (drow M c (pack (dup A 13 j x))) h) := by
  rw [mvc_wr hc x (by omega) (by omega), mpk_up, show ((428 + (j : Int) : Int)).toNat = 428 + j by omega, pku13 _ j]
end MPK
