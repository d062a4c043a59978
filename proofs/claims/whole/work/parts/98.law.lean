theorem p_law {L : Nat} {xs : Nat → Int32} (hL : L ≤ 3072) : zOk (L, xs) 400 z_law 0 [.retAddr 30, zU, zU, zU] [] z_m0 (fun v _ => v = some (.int 1)) := sorry
