theorem cw_all : ∀ j, j < lawM → lw_tbl[(mPc j).1]? = some (mW j) := by sorry
theorem io_all : ∀ j, j < lawM + 1 → (lcode j).all (insOk j (mC j)) = true := by sorry
