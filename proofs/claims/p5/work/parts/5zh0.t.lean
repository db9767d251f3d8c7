theorem tm00 : (List.range 3).all (fun i => i < 3) = true := by decide +kernel
