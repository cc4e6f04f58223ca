theorem ztest : ((vx_atS RX8 122 "java/util/NoSuchElementException" ["java/lang/RuntimeException", "java/lang/Exception"]).filter (fun w => !goodWord w)) = [] := by
  simp [vx_atS, vx_no, Bundle.ownAtoms, Bundle.throwableAtoms, Bundle.throwableSAtoms, Bundle.chainSAtoms, goodWord, Cond.onTables, Cond.keeps, Cond.steady]
