theorem law_ok (Z : zZ) (hL : zL Z ≤ 384) : ∃ N : mM, m_L_law_L18 (fun N => some N) Z 0 231 FU M0 0 = some N := sorry
