section
def L0 (b : Nat) : q_L := [(.inl 0, (q_fset (q_fset (q_fset (q_fset (q_df tyX0) 0 (.ref (b + 1))) 2 (.ref (b + 2))) 3 (.ref (b + 3))) 4 (.ref (b + 4)))), (.inr (.inl (.int, 201)), fun _ => .int 0), (.inr (.inl (.int, 201)), fun _ => .int 0), (.inr (.inl (.int, 201)), fun _ => .int 0), (.inr (.inl (.int, 201)), fun _ => .int 0)]
theorem k0 : q_mkc fX0_init 0 tyX0 4 804 L0 := by
  intro μ b K h1 h2 h3 h4 h5 hk
  simp only [fX0_init, sX0_init_, q_mk, q_sq]
  refine ⟨by simp [Value.category], by simp, ?_⟩
  refine q_st_sp (a := b) rfl ?_
  have g0 := q_bld0 h1 h2 h3 h4 h5
  refine q_st_na (a := b) (n := 201) g0 rfl (by decide) (by decide) (by decide) (by decide) (by decide) fun μ1 g1 => ?_
  refine q_st_na (a := b) (n := 201) g1 rfl (by decide) (by decide) (by decide) (by decide) (by decide) fun μ2 g2 => ?_
  refine q_st_na (a := b) (n := 201) g2 rfl (by decide) (by decide) (by decide) (by decide) (by decide) fun μ3 g3 => ?_
  refine q_st_na (a := b) (n := 201) g3 rfl (by decide) (by decide) (by decide) (by decide) (by decide) fun μ4 g4 => ?_
  have g := q_bldE g4
  exact hk μ4 g.1 g.2.1 g.2.2
def L2 (b : Nat) : q_L := [(.inl 2, (q_fset (q_fset (q_fset (q_fset (q_fset (q_fset (q_fset (q_df tyX2) 3 (.ref (b + 1))) 4 (.ref (b + 2))) 5 (.ref (b + 3))) 6 (.ref (b + 4))) 7 (.ref (b + 5))) 8 (.ref (b + 6))) 9 (.ref (b + 7)))), (.inr (.inl (.int, 441)), fun _ => .int 0), (.inr (.inl (.int, 441)), fun _ => .int 0), (.inr (.inl (.int, 441)), fun _ => .int 0), (.inr (.inl (.int, 441)), fun _ => .int 0), (.inr (.inl (.int, 441)), fun _ => .int 0), (.inr (.inl (.int, 201)), fun _ => .int 0), (.inr (.inl (.int, 201)), fun _ => .int 0)]
theorem k2 : q_mkc fX2_init 2 tyX2 7 2607 L2 := by
  intro μ b K h1 h2 h3 h4 h5 hk
  simp only [fX2_init, sX2_init_, q_mk, q_sq]
  refine ⟨by simp [Value.category], by simp, ?_⟩
  refine q_st_sp (a := b) rfl ?_
  have g0 := q_bld0 h1 h2 h3 h4 h5
  refine q_st_na (a := b) (n := 441) g0 rfl (by decide) (by decide) (by decide) (by decide) (by decide) fun μ1 g1 => ?_
  refine q_st_na (a := b) (n := 441) g1 rfl (by decide) (by decide) (by decide) (by decide) (by decide) fun μ2 g2 => ?_
  refine q_st_na (a := b) (n := 441) g2 rfl (by decide) (by decide) (by decide) (by decide) (by decide) fun μ3 g3 => ?_
  refine q_st_na (a := b) (n := 441) g3 rfl (by decide) (by decide) (by decide) (by decide) (by decide) fun μ4 g4 => ?_
  refine q_st_na (a := b) (n := 441) g4 rfl (by decide) (by decide) (by decide) (by decide) (by decide) fun μ5 g5 => ?_
  refine q_st_na (a := b) (n := 201) g5 rfl (by decide) (by decide) (by decide) (by decide) (by decide) fun μ6 g6 => ?_
  refine q_st_na (a := b) (n := 201) g6 rfl (by decide) (by decide) (by decide) (by decide) (by decide) fun μ7 g7 => ?_
  have g := q_bldE g7
  exact hk μ7 g.1 g.2.1 g.2.2
def L4 (b : Nat) : q_L := [(.inl 4, (q_fset (q_fset (q_fset (q_fset (q_fset (q_df tyX4) 3 (.ref (b + 1))) 4 (.ref (b + 2))) 5 (.ref (b + 3))) 6 (.ref (b + 4))) 7 (.ref (b + 5)))), (.inr (.inl (.int, 2400)), fun _ => .int 0), (.inr (.inl (.int, 2400)), fun _ => .int 0), (.inr (.inl (.int, 24)), fun _ => .int 0), (.inr (.inl (.int, 5)), fun _ => .int 0), (.inr (.inl (.int, 5)), fun _ => .int 0)]
theorem k4 : q_mkc fX4_init 4 tyX4 5 4834 L4 := by
  intro μ b K h1 h2 h3 h4 h5 hk
  simp only [fX4_init, sX4_init_, q_mk, q_sq]
  refine ⟨by simp [Value.category], by simp, ?_⟩
  refine q_st_sp (a := b) rfl ?_
  have g0 := q_bld0 h1 h2 h3 h4 h5
  refine q_st_na (a := b) (n := 2400) g0 rfl (by decide) (by decide) (by decide) (by decide) (by decide) fun μ1 g1 => ?_
  refine q_st_na (a := b) (n := 2400) g1 rfl (by decide) (by decide) (by decide) (by decide) (by decide) fun μ2 g2 => ?_
  refine q_st_na (a := b) (n := 24) g2 rfl (by decide) (by decide) (by decide) (by decide) (by decide) fun μ3 g3 => ?_
  refine q_st_na (a := b) (n := 5) g3 rfl (by decide) (by decide) (by decide) (by decide) (by decide) fun μ4 g4 => ?_
  refine q_st_na (a := b) (n := 5) g4 rfl (by decide) (by decide) (by decide) (by decide) (by decide) fun μ5 g5 => ?_
  have g := q_bldE g5
  exact hk μ5 g.1 g.2.1 g.2.2
def L9 (b : Nat) : q_L := [(.inl 9, (q_fset (q_fset (q_fset (q_fset (q_fset (q_fset (q_fset (q_fset (q_fset (q_df tyX9) 5 (.ref (b + 1))) 6 (.ref (b + 2))) 7 (.ref (b + 3))) 8 (.ref (b + 4))) 9 (.ref (b + 5))) 10 (.ref (b + 6))) 11 (.ref (b + 7))) 12 (.ref (b + 8))) 13 (.ref (b + 9)))), (.inr (.inl (.int, 201)), fun _ => .int 0), (.inr (.inl (.int, 201)), fun _ => .int 0), (.inr (.inl (.int, 201)), fun _ => .int 0), (.inr (.inl (.int, 201)), fun _ => .int 0), (.inr (.inl (.int, 201)), fun _ => .int 0), (.inr (.inl (.int, 201)), fun _ => .int 0), (.inr (.inl (.int, 40)), fun _ => .int 0), (.inr (.inl (.int, 201)), fun _ => .int 0), (.inr (.inl (.int, 40)), fun _ => .int 0)]
theorem k9 : q_mkc fX9_init 9 tyX9 9 1487 L9 := by
  intro μ b K h1 h2 h3 h4 h5 hk
  simp only [fX9_init, sX9_init_, q_mk, q_sq]
  refine ⟨by simp [Value.category], by simp, ?_⟩
  refine q_st_sp (a := b) rfl ?_
  have g0 := q_bld0 h1 h2 h3 h4 h5
  refine q_st_na (a := b) (n := 201) g0 rfl (by decide) (by decide) (by decide) (by decide) (by decide) fun μ1 g1 => ?_
  refine q_st_na (a := b) (n := 201) g1 rfl (by decide) (by decide) (by decide) (by decide) (by decide) fun μ2 g2 => ?_
  refine q_st_na (a := b) (n := 201) g2 rfl (by decide) (by decide) (by decide) (by decide) (by decide) fun μ3 g3 => ?_
  refine q_st_na (a := b) (n := 201) g3 rfl (by decide) (by decide) (by decide) (by decide) (by decide) fun μ4 g4 => ?_
  refine q_st_na (a := b) (n := 201) g4 rfl (by decide) (by decide) (by decide) (by decide) (by decide) fun μ5 g5 => ?_
  refine q_st_na (a := b) (n := 201) g5 rfl (by decide) (by decide) (by decide) (by decide) (by decide) fun μ6 g6 => ?_
  refine q_st_na (a := b) (n := 40) g6 rfl (by decide) (by decide) (by decide) (by decide) (by decide) fun μ7 g7 => ?_
  refine q_st_na (a := b) (n := 201) g7 rfl (by decide) (by decide) (by decide) (by decide) (by decide) fun μ8 g8 => ?_
  refine q_st_na (a := b) (n := 40) g8 rfl (by decide) (by decide) (by decide) (by decide) (by decide) fun μ9 g9 => ?_
  have g := q_bldE g9
  exact hk μ9 g.1 g.2.1 g.2.2
end
