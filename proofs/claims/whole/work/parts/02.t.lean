theorem zt_len : tables_1.length = 1 := by decide +kernel
theorem zt_bad : (lw_tbl.filter (fun w => !goodWord w)).length = 0 := by decide +kernel
theorem zt_bad2 : ((lw_tbl.zip (List.range 4000)).filterMap (fun q => if goodWord q.1 then none else some q.2)) = [] := by decide +kernel
example : True := by
  have h : ((lw_tbl.zip (List.range 4000)).filterMap (fun q => if goodWord q.1 then none else some q.2)) = [] := by
    simp only [lw_tbl, tables_1]
    sorry
  trivial
