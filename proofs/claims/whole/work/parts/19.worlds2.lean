def aiW (qa : Nat) (ka : ClassId) (N : Nat) (fa : Nat → Int32) : va_W := [(qa, .inl (ka, N, .inl fa))]
def ajW (qa : Nat) (ka : ClassId) (N : Nat) (fa : Nat → Int64) : va_W := [(qa, .inl (ka, N, .inr (.inl fa)))]
theorem aiW_ad (qa : Nat) (ka : ClassId) (N : Nat) (fa : Nat → Int32) : List.map Prod.fst (aiW qa ka N fa) = [qa] := rfl
theorem ajW_ad (qa : Nat) (ka : ClassId) (N : Nat) (fa : Nat → Int64) : List.map Prod.fst (ajW qa ka N fa) = [qa] := rfl