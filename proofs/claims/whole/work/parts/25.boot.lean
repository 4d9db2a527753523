def bootOk (o : Option Out) : Bool := match o with
  | some (v, h, n, r) => decide (v = some (vI 1)) && decide (n = nCell) && (List.range nCell).all (fun a => (List.range (alen a)).all (fun k => decide (r a k = rtab a k)))
  | none => false
theorem boot_t : bootOk (ex (fun _ => 0) 3000 m_Law_law (0, [some (vR 2000), none, none, none], [], fun _ _ => 0, (0, fun _ _ => -1))) = true := by decide +kernel
