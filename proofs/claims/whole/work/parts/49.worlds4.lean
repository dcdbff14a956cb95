/-- RollCall's cells, the row of its images behind them -/
def rimW (ri : Nat) (ki : ClassId) (im : Nat → Option Nat) : va_W := [(ri, .inl (ki, 4, .inr (.inr (.inr (.inr im)))))]