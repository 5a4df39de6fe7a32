theorem tb_out8 {w : Int32} (h0 : ¬ w = 0) (h1 : ¬ w = 1) (h2 : ¬ w = 2) (h3 : ¬ w = 3) (h4 : ¬ w = 4) (h5 : ¬ w = 5) (h6 : ¬ w = 6) (h7 : ¬ w = 7) : w.toInt < 0 ∨ 7 < w.toInt := by
  have k : ∀ j : Int32, ¬ w = j → w.toInt ≠ j.toInt := fun j h e => h (Int32.toInt_inj.mp e)
  have e0 := k 0 h0
  have e1 := k 1 h1
  have e2 := k 2 h2
  have e3 := k 3 h3
  have e4 := k 4 h4
  have e5 := k 5 h5
  have e6 := k 6 h6
  have e7 := k 7 h7
  rw [show (0 : Int32).toInt = 0 by decide] at e0
  rw [show (1 : Int32).toInt = 1 by decide] at e1
  rw [show (2 : Int32).toInt = 2 by decide] at e2
  rw [show (3 : Int32).toInt = 3 by decide] at e3
  rw [show (4 : Int32).toInt = 4 by decide] at e4
  rw [show (5 : Int32).toInt = 5 by decide] at e5
  rw [show (6 : Int32).toInt = 6 by decide] at e6
  rw [show (7 : Int32).toInt = 7 by decide] at e7
  omega
theorem oneIf_bI (b : Bool) : bI (!decide (bI b = 0)) = bI b := by cases b <;> decide
theorem xBr_m1 : xBr (-1) = true := by decide
