/-! the heap's rules once more, so that the kernel reads them step by step -/
section ZQH
variable {h : z_H}
theorem zq_hIsL {K i k : Nat} {v : Int64} : hI (sL h K i k v) = hI h := id rfl
theorem zq_hIsR {K i k : Nat} {v : Option (Nat × Nat)} : hI (sR h K i k v) = hI h := id rfl
theorem zq_hIsZ {K i : Nat} {v : Nat} : hI (sZ h K i v) = hI h := id rfl
theorem zq_hIsN {K v : Nat} : hI (sN h K v) = hI h := id rfl
theorem zq_hLsI {K i k : Nat} {v : Int32} : hL (sI h K i k v) = hL h := id rfl
theorem zq_hLsR {K i k : Nat} {v : Option (Nat × Nat)} : hL (sR h K i k v) = hL h := id rfl
theorem zq_hLsZ {K i : Nat} {v : Nat} : hL (sZ h K i v) = hL h := id rfl
theorem zq_hLsN {K v : Nat} : hL (sN h K v) = hL h := id rfl
theorem zq_hRsI {K i k : Nat} {v : Int32} : hR (sI h K i k v) = hR h := id rfl
theorem zq_hRsL {K i k : Nat} {v : Int64} : hR (sL h K i k v) = hR h := id rfl
theorem zq_hRsZ {K i : Nat} {v : Nat} : hR (sZ h K i v) = hR h := id rfl
theorem zq_hRsN {K v : Nat} : hR (sN h K v) = hR h := id rfl
theorem zq_hNsI {K i k : Nat} {v : Int32} : hN (sI h K i k v) = hN h := id rfl
theorem zq_hNsL {K i k : Nat} {v : Int64} : hN (sL h K i k v) = hN h := id rfl
theorem zq_hNsR {K i k : Nat} {v : Option (Nat × Nat)} : hN (sR h K i k v) = hN h := id rfl
theorem zq_hNsZ {K i : Nat} {v : Nat} : hN (sZ h K i v) = hN h := id rfl
theorem zq_hZsI {K i k : Nat} {v : Int32} : hZ (sI h K i k v) = hZ h := id rfl
theorem zq_hZsL {K i k : Nat} {v : Int64} : hZ (sL h K i k v) = hZ h := id rfl
theorem zq_hZsR {K i k : Nat} {v : Option (Nat × Nat)} : hZ (sR h K i k v) = hZ h := id rfl
theorem zq_hZsN {K v : Nat} : hZ (sN h K v) = hZ h := id rfl
theorem zq_hIsI {K i k K' i' k' : Nat} {v : Int32} : hI (sI h K i k v) K' i' k' = (if K' = K ∧ i' = i ∧ k' = k then v else hI h K' i' k') := id rfl
theorem zq_hLsL {K i k K' i' k' : Nat} {v : Int64} : hL (sL h K i k v) K' i' k' = (if K' = K ∧ i' = i ∧ k' = k then v else hL h K' i' k') := id rfl
theorem zq_hRsR {K i k K' i' k' : Nat} {v : Option (Nat × Nat)} : hR (sR h K i k v) K' i' k' = (if K' = K ∧ i' = i ∧ k' = k then v else hR h K' i' k') := id rfl
theorem zq_hZsZ {K i K' i' v : Nat} : hZ (sZ h K i v) K' i' = (if K' = K ∧ i' = i then v else hZ h K' i') := id rfl
theorem zq_hNsN {K v K' : Nat} : hN (sN h K v) K' = (if K' = K then v else hN h K') := id rfl
theorem zq_hInw {K K' i' k' : Nat} : hI (z_nw h K) K' i' k' = (if K' = K ∧ i' = hN h K then 0 else hI h K' i' k') := id rfl
theorem zq_hLnw {K K' i' k' : Nat} : hL (z_nw h K) K' i' k' = (if K' = K ∧ i' = hN h K then 0 else hL h K' i' k') := id rfl
theorem zq_hRnw {K K' i' k' : Nat} : hR (z_nw h K) K' i' k' = (if K' = K ∧ i' = hN h K then none else hR h K' i' k') := id rfl
theorem zq_hNnw {K K' : Nat} : hN (z_nw h K) K' = (if K' = K then hN h K + 1 else hN h K') := id rfl
theorem zq_hZnw {K K' i' : Nat} : hZ (z_nw h K) K' i' = (if K' = K ∧ i' = hN h K then 0 else hZ h K' i') := id rfl
end ZQH
