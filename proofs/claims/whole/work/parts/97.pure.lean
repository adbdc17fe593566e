theorem zpure : zpure_st := by sorry
