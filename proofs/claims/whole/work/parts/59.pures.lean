def pRel (st sm : pu_St) : Prop := True
theorem p_all : pAll pRel := sorry
theorem p_init : pRel st0H st0M := sorry
