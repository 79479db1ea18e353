/-! Rows found wanting later. -/
theorem sg_lw {V : ss_V} {l : Launch} {M : ss_M} {R : Room} {Q : List Frame → Array Value → State → State → Prop} {pc : Nat} {lo lo' : List (Nat × Value)} {st : List Value} {z : ss_Z} {k n : Nat} (kk : ss_G V l M R Q pc lo' st z k n) (h : ss_le lo' lo) : ss_G V l M R Q pc lo st z k n := sg_lo lo' h kk
