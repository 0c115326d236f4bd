/-! the law's own calls of the store -/
abbrev kw_out (K : Nat → ClassId) (o0 : Nat) (O : Nat → Int64) : va_W := [(o0, .inl (K 3, 1, .inr (.inl O)))]
