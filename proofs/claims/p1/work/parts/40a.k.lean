set_option maxRecDepth 100000 in
theorem an_k287 : (List.range 15).all (fun c => an_chkc2 3000 287 [(0, 1 + (c : Int), 1 + (c : Int))] (some (0, 1, 4)) [] true []) = true := by decide +kernel
