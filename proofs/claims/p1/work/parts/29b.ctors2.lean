section
def L8 (b : Nat) : q_L := [(.inl 8, (q_fset (q_fset (q_fset (q_fset (q_fset (q_fset (q_fset (q_fset (q_fset (q_fset (q_fset (q_fset (q_fset (q_df tyX8) 0 (.ref (b + 1))) 2 (.ref (b + 2))) 3 (.ref (b + 3))) 4 (.ref (b + 4))) 5 (.ref (b + 5))) 6 (.ref (b + 6))) 7 (.ref (b + 7))) 8 (.ref (b + 8))) 9 (.ref (b + 9))) 10 (.ref (b + 10))) 11 (.ref (b + 11))) 12 (.ref (b + 12))) 13 (.ref (b + 13)))), (.inr (.inl (.int, 12)), fun i => if i < 12 then .int 3 else .int 0), (.inr (.inl (.int, 14)), fun _ => .int 0), (.inr (.inl (.int, 14)), fun _ => .int 0), (.inr (.inl (.int, 70)), fun _ => .int 0), (.inr (.inl (.int, 14)), fun _ => .int 0), (.inr (.inl (.int, 70)), fun _ => .int 0), (.inr (.inl (.int, 70)), fun _ => .int 0), (.inr (.inl (.int, 70)), fun _ => .int 0), (.inr (.inl (.int, 14)), fun _ => .int 0), (.inr (.inl (.boolean, 14)), fun _ => .int 0), (.inr (.inl (.int, 14)), fun _ => .int 0), (.inr (.inl (.int, 84)), fun _ => .int 0), (.inr (.inl (.int, 84)), fun _ => .int 0)]
theorem k8 : q_mkc fX8_init 8 tyX8 13 544 L8 := by
  intro μ b K h1 h2 h3 h4 h5 hk
  simp only [fX8_init, sX8_init_, q_mk, q_sq]
  refine ⟨by simp [Value.category], by simp, ?_⟩
  refine q_st_sp (a := b) rfl ?_
  have g0 := q_bld0 h1 h2 h3 h4 h5
  refine q_st_na (a := b) (n := 12) g0 rfl (by decide) (by decide) (by decide) (by decide) (by decide) fun μ1 g1 => ?_
  refine q_st_na (a := b) (n := 14) g1 rfl (by decide) (by decide) (by decide) (by decide) (by decide) fun μ2 g2 => ?_
  refine q_st_na (a := b) (n := 14) g2 rfl (by decide) (by decide) (by decide) (by decide) (by decide) fun μ3 g3 => ?_
  refine q_st_na (a := b) (n := 70) g3 rfl (by decide) (by decide) (by decide) (by decide) (by decide) fun μ4 g4 => ?_
  refine q_st_na (a := b) (n := 14) g4 rfl (by decide) (by decide) (by decide) (by decide) (by decide) fun μ5 g5 => ?_
  refine q_st_na (a := b) (n := 70) g5 rfl (by decide) (by decide) (by decide) (by decide) (by decide) fun μ6 g6 => ?_
  refine q_st_na (a := b) (n := 70) g6 rfl (by decide) (by decide) (by decide) (by decide) (by decide) fun μ7 g7 => ?_
  refine q_st_na (a := b) (n := 70) g7 rfl (by decide) (by decide) (by decide) (by decide) (by decide) fun μ8 g8 => ?_
  refine q_st_na (a := b) (n := 14) g8 rfl (by decide) (by decide) (by decide) (by decide) (by decide) fun μ9 g9 => ?_
  refine q_st_na (a := b) (n := 14) g9 rfl (by decide) (by decide) (by decide) (by decide) (by decide) fun μ10 g10 => ?_
  refine q_st_na (a := b) (n := 14) g10 rfl (by decide) (by decide) (by decide) (by decide) (by decide) fun μ11 g11 => ?_
  refine q_st_na (a := b) (n := 84) g11 rfl (by decide) (by decide) (by decide) (by decide) (by decide) fun μ12 g12 => ?_
  refine q_st_na (a := b) (n := 84) g12 rfl (by decide) (by decide) (by decide) (by decide) (by decide) fun μ13 g13 => ?_
  refine q_st_fill (j := 0) (n := 12) g13 rfl rfl rfl (by decide) fun μ14 g14 => ?_
  have g := q_bldE g14
  exact hk μ14 g.1 g.2.1 g.2.2
end
