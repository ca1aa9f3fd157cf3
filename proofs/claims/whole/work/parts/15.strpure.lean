theorem kq_lens : ∀ i, i < 6 → kq_len.getD i 0 < 100 ∧ (kq_byt.getD i []).length = kq_len.getD i 0 := by decide +kernel
/-- charAt of a constant -/
def kch (i k : Nat) : Int32 := (kq_byt.getD i []).getD k 0 &&& 255
theorem sh0 (n : Nat) (h : n < 2 ^ 31) : nI n >>> ((0 : Int32) &&& 31) = nI n := sc_shr0 h
