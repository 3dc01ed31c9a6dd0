theorem kl0 : (0 : Int32).toInt = 0 := by decide
theorem kl1 : (1 : Int32).toInt = 1 := by decide
theorem kl5 : (5 : Int32).toInt = 5 := by decide
theorem kl6 : (6 : Int32).toInt = 6 := by decide
theorem kl7 : (7 : Int32).toInt = 7 := by decide
theorem kl2 : (2 : Int32).toInt = 2 := by decide
theorem kl3 : (3 : Int32).toInt = 3 := by decide
theorem kl4 : (4 : Int32).toInt = 4 := by decide
theorem kl5L : (5 : Int64).toInt = 5 := by decide
theorem kl60 : (60 : Int32).toInt = 60 := by decide
theorem klm1 : (-1 : Int32).toInt = -1 := by decide
theorem k_look (x : Int32) (h0 : ¬ x = 0) (h1 : ¬ x = 1) : Op.lookupswitch.offset (#[(0, 27), (1, 35)] : Array (Int × Int)).toList 43 x.toInt = 43 := by
  have e0 : ¬ x.toInt = 0 := fun h => h0 (Int32.toInt_inj.mp (h.trans kl0.symm))
  have e1 : ¬ x.toInt = 1 := fun h => h1 (Int32.toInt_inj.mp (h.trans kl1.symm))
  simp [Op.lookupswitch.offset, e0, e1, Ne.symm e0, Ne.symm e1, eq_comm]
