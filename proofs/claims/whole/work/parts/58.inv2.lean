theorem j_fault {bs : Nat → Int32} {tl : Nat} {mc : Nat} {md : Nat → MR} {ip : Nat → Int32} {dc : Nat} {dr : Nat → DR} {ac : Nat} {an : Nat → AR} {hs : Bool} {sd : Nat → Int32} {df : Nat → Int32} {dfn : Nat} {td : Nat} {tr : Int32} {ft : Int32} {pl : Int32}  (h : JK (bs, tl, mc, md, ip, dc, dr, ac, an, hs, sd, df, dfn, td, tr, ft, pl)) : JK (s_fault (bs, tl, mc, md, ip, dc, dr, ac, an, hs, sd, df, dfn, td, tr, ft, pl) ).2 := by
  obtain ⟨⟨j1, j2, j3, j4, j5, j6, j7, j8, j9, j10⟩, j11⟩ := id h
  simp only [] at j1 j2 j3 j4 j5 j6 j7 j8 j9 j10 j11
  exact h
theorem j_where {bs : Nat → Int32} {tl : Nat} {mc : Nat} {md : Nat → MR} {ip : Nat → Int32} {dc : Nat} {dr : Nat → DR} {ac : Nat} {an : Nat → AR} {hs : Bool} {sd : Nat → Int32} {df : Nat → Int32} {dfn : Nat} {td : Nat} {tr : Int32} {ft : Int32} {pl : Int32}  (h : JK (bs, tl, mc, md, ip, dc, dr, ac, an, hs, sd, df, dfn, td, tr, ft, pl)) : JK (s_where (bs, tl, mc, md, ip, dc, dr, ac, an, hs, sd, df, dfn, td, tr, ft, pl) ).2 := by
  obtain ⟨⟨j1, j2, j3, j4, j5, j6, j7, j8, j9, j10⟩, j11⟩ := id h
  simp only [] at j1 j2 j3 j4 j5 j6 j7 j8 j9 j10 j11
  exact h
theorem j_parts {bs : Nat → Int32} {tl : Nat} {mc : Nat} {md : Nat → MR} {ip : Nat → Int32} {dc : Nat} {dr : Nat → DR} {ac : Nat} {an : Nat → AR} {hs : Bool} {sd : Nat → Int32} {df : Nat → Int32} {dfn : Nat} {td : Nat} {tr : Int32} {ft : Int32} {pl : Int32} {x : Int32} (h : JK (bs, tl, mc, md, ip, dc, dr, ac, an, hs, sd, df, dfn, td, tr, ft, pl)) : JK (s_parts (bs, tl, mc, md, ip, dc, dr, ac, an, hs, sd, df, dfn, td, tr, ft, pl) x).2 := by
  obtain ⟨⟨j1, j2, j3, j4, j5, j6, j7, j8, j9, j10⟩, j11⟩ := id h
  simp only [] at j1 j2 j3 j4 j5 j6 j7 j8 j9 j10 j11
  exact h
theorem j_asks {bs : Nat → Int32} {tl : Nat} {mc : Nat} {md : Nat → MR} {ip : Nat → Int32} {dc : Nat} {dr : Nat → DR} {ac : Nat} {an : Nat → AR} {hs : Bool} {sd : Nat → Int32} {df : Nat → Int32} {dfn : Nat} {td : Nat} {tr : Int32} {ft : Int32} {pl : Int32} {x : Int32} (h : JK (bs, tl, mc, md, ip, dc, dr, ac, an, hs, sd, df, dfn, td, tr, ft, pl)) : JK (s_asks (bs, tl, mc, md, ip, dc, dr, ac, an, hs, sd, df, dfn, td, tr, ft, pl) x).2 := by
  obtain ⟨⟨j1, j2, j3, j4, j5, j6, j7, j8, j9, j10⟩, j11⟩ := id h
  simp only [] at j1 j2 j3 j4 j5 j6 j7 j8 j9 j10 j11
  exact h
theorem j_champion {bs : Nat → Int32} {tl : Nat} {mc : Nat} {md : Nat → MR} {ip : Nat → Int32} {dc : Nat} {dr : Nat → DR} {ac : Nat} {an : Nat → AR} {hs : Bool} {sd : Nat → Int32} {df : Nat → Int32} {dfn : Nat} {td : Nat} {tr : Int32} {ft : Int32} {pl : Int32} {x : Int32} {y : Int32} (h : JK (bs, tl, mc, md, ip, dc, dr, ac, an, hs, sd, df, dfn, td, tr, ft, pl)) : JK (s_champion (bs, tl, mc, md, ip, dc, dr, ac, an, hs, sd, df, dfn, td, tr, ft, pl) x y).2 := by
  obtain ⟨⟨j1, j2, j3, j4, j5, j6, j7, j8, j9, j10⟩, j11⟩ := id h
  simp only [] at j1 j2 j3 j4 j5 j6 j7 j8 j9 j10 j11
  exact h
theorem j_about {bs : Nat → Int32} {tl : Nat} {mc : Nat} {md : Nat → MR} {ip : Nat → Int32} {dc : Nat} {dr : Nat → DR} {ac : Nat} {an : Nat → AR} {hs : Bool} {sd : Nat → Int32} {df : Nat → Int32} {dfn : Nat} {td : Nat} {tr : Int32} {ft : Int32} {pl : Int32} {x : Int32} {w : Int32} (h : JK (bs, tl, mc, md, ip, dc, dr, ac, an, hs, sd, df, dfn, td, tr, ft, pl)) : JK (s_about (bs, tl, mc, md, ip, dc, dr, ac, an, hs, sd, df, dfn, td, tr, ft, pl) x w).2 := by
  obtain ⟨⟨j1, j2, j3, j4, j5, j6, j7, j8, j9, j10⟩, j11⟩ := id h
  simp only [] at j1 j2 j3 j4 j5 j6 j7 j8 j9 j10 j11
  exact h
theorem j_kept {bs : Nat → Int32} {tl : Nat} {mc : Nat} {md : Nat → MR} {ip : Nat → Int32} {dc : Nat} {dr : Nat → DR} {ac : Nat} {an : Nat → AR} {hs : Bool} {sd : Nat → Int32} {df : Nat → Int32} {dfn : Nat} {td : Nat} {tr : Int32} {ft : Int32} {pl : Int32} {x : Int32} {w : Int32} (h : JK (bs, tl, mc, md, ip, dc, dr, ac, an, hs, sd, df, dfn, td, tr, ft, pl)) : JK (s_kept (bs, tl, mc, md, ip, dc, dr, ac, an, hs, sd, df, dfn, td, tr, ft, pl) x w).2 := by
  obtain ⟨⟨j1, j2, j3, j4, j5, j6, j7, j8, j9, j10⟩, j11⟩ := id h
  simp only [] at j1 j2 j3 j4 j5 j6 j7 j8 j9 j10 j11
  exact h
theorem j_answer {bs : Nat → Int32} {tl : Nat} {mc : Nat} {md : Nat → MR} {ip : Nat → Int32} {dc : Nat} {dr : Nat → DR} {ac : Nat} {an : Nat → AR} {hs : Bool} {sd : Nat → Int32} {df : Nat → Int32} {dfn : Nat} {td : Nat} {tr : Int32} {ft : Int32} {pl : Int32} {x : Int32} {w : Int32} (h : JK (bs, tl, mc, md, ip, dc, dr, ac, an, hs, sd, df, dfn, td, tr, ft, pl)) : JK (s_answer (bs, tl, mc, md, ip, dc, dr, ac, an, hs, sd, df, dfn, td, tr, ft, pl) x w).2 := by
  obtain ⟨⟨j1, j2, j3, j4, j5, j6, j7, j8, j9, j10⟩, j11⟩ := id h
  simp only [] at j1 j2 j3 j4 j5 j6 j7 j8 j9 j10 j11
  exact h
theorem j_sides {bs : Nat → Int32} {tl : Nat} {mc : Nat} {md : Nat → MR} {ip : Nat → Int32} {dc : Nat} {dr : Nat → DR} {ac : Nat} {an : Nat → AR} {hs : Bool} {sd : Nat → Int32} {df : Nat → Int32} {dfn : Nat} {td : Nat} {tr : Int32} {ft : Int32} {pl : Int32} {w : Int32} (h : JK (bs, tl, mc, md, ip, dc, dr, ac, an, hs, sd, df, dfn, td, tr, ft, pl)) : JK (s_sides (bs, tl, mc, md, ip, dc, dr, ac, an, hs, sd, df, dfn, td, tr, ft, pl) w).2 := by
  obtain ⟨⟨j1, j2, j3, j4, j5, j6, j7, j8, j9, j10⟩, j11⟩ := id h
  simp only [] at j1 j2 j3 j4 j5 j6 j7 j8 j9 j10 j11
  exact h
theorem j_drift {bs : Nat → Int32} {tl : Nat} {mc : Nat} {md : Nat → MR} {ip : Nat → Int32} {dc : Nat} {dr : Nat → DR} {ac : Nat} {an : Nat → AR} {hs : Bool} {sd : Nat → Int32} {df : Nat → Int32} {dfn : Nat} {td : Nat} {tr : Int32} {ft : Int32} {pl : Int32} {x : Int32} {k : Int32} (h : JK (bs, tl, mc, md, ip, dc, dr, ac, an, hs, sd, df, dfn, td, tr, ft, pl)) : JK (s_drift (bs, tl, mc, md, ip, dc, dr, ac, an, hs, sd, df, dfn, td, tr, ft, pl) x k).2 := by
  obtain ⟨⟨j1, j2, j3, j4, j5, j6, j7, j8, j9, j10⟩, j11⟩ := id h
  simp only [] at j1 j2 j3 j4 j5 j6 j7 j8 j9 j10 j11
  exact h
theorem j_seen {bs : Nat → Int32} {tl : Nat} {mc : Nat} {md : Nat → MR} {ip : Nat → Int32} {dc : Nat} {dr : Nat → DR} {ac : Nat} {an : Nat → AR} {hs : Bool} {sd : Nat → Int32} {df : Nat → Int32} {dfn : Nat} {td : Nat} {tr : Int32} {ft : Int32} {pl : Int32} {x : Int32} {k : Int32} {b : Int32} (h : JK (bs, tl, mc, md, ip, dc, dr, ac, an, hs, sd, df, dfn, td, tr, ft, pl)) : JK (s_seen (bs, tl, mc, md, ip, dc, dr, ac, an, hs, sd, df, dfn, td, tr, ft, pl) x k b).2 := by
  obtain ⟨⟨j1, j2, j3, j4, j5, j6, j7, j8, j9, j10⟩, j11⟩ := id h
  simp only [] at j1 j2 j3 j4 j5 j6 j7 j8 j9 j10 j11
  exact h
theorem j_gave {bs : Nat → Int32} {tl : Nat} {mc : Nat} {md : Nat → MR} {ip : Nat → Int32} {dc : Nat} {dr : Nat → DR} {ac : Nat} {an : Nat → AR} {hs : Bool} {sd : Nat → Int32} {df : Nat → Int32} {dfn : Nat} {td : Nat} {tr : Int32} {ft : Int32} {pl : Int32} {m : Int32} {lo : Int32} {hi : Int32} (h : JK (bs, tl, mc, md, ip, dc, dr, ac, an, hs, sd, df, dfn, td, tr, ft, pl)) : JK (s_gave (bs, tl, mc, md, ip, dc, dr, ac, an, hs, sd, df, dfn, td, tr, ft, pl) m lo hi).2 := by
  obtain ⟨⟨j1, j2, j3, j4, j5, j6, j7, j8, j9, j10⟩, j11⟩ := id h
  simp only [] at j1 j2 j3 j4 j5 j6 j7 j8 j9 j10 j11
  exact h
theorem j_count {bs : Nat → Int32} {tl : Nat} {mc : Nat} {md : Nat → MR} {ip : Nat → Int32} {dc : Nat} {dr : Nat → DR} {ac : Nat} {an : Nat → AR} {hs : Bool} {sd : Nat → Int32} {df : Nat → Int32} {dfn : Nat} {td : Nat} {tr : Int32} {ft : Int32} {pl : Int32} {w : Int32} (h : JK (bs, tl, mc, md, ip, dc, dr, ac, an, hs, sd, df, dfn, td, tr, ft, pl)) : JK (s_count (bs, tl, mc, md, ip, dc, dr, ac, an, hs, sd, df, dfn, td, tr, ft, pl) w).2 := by
  obtain ⟨⟨j1, j2, j3, j4, j5, j6, j7, j8, j9, j10⟩, j11⟩ := id h
  simp only [] at j1 j2 j3 j4 j5 j6 j7 j8 j9 j10 j11
  exact h
theorem j_trouble {bs : Nat → Int32} {tl : Nat} {mc : Nat} {md : Nat → MR} {ip : Nat → Int32} {dc : Nat} {dr : Nat → DR} {ac : Nat} {an : Nat → AR} {hs : Bool} {sd : Nat → Int32} {df : Nat → Int32} {dfn : Nat} {td : Nat} {tr : Int32} {ft : Int32} {pl : Int32}  (h : JK (bs, tl, mc, md, ip, dc, dr, ac, an, hs, sd, df, dfn, td, tr, ft, pl)) : JK (s_trouble (bs, tl, mc, md, ip, dc, dr, ac, an, hs, sd, df, dfn, td, tr, ft, pl) ).2 := by
  obtain ⟨⟨j1, j2, j3, j4, j5, j6, j7, j8, j9, j10⟩, j11⟩ := id h
  simp only [] at j1 j2 j3 j4 j5 j6 j7 j8 j9 j10 j11
  exact h
theorem j_tell {bs : Nat → Int32} {tl : Nat} {mc : Nat} {md : Nat → MR} {ip : Nat → Int32} {dc : Nat} {dr : Nat → DR} {ac : Nat} {an : Nat → AR} {hs : Bool} {sd : Nat → Int32} {df : Nat → Int32} {dfn : Nat} {td : Nat} {tr : Int32} {ft : Int32} {pl : Int32} {x : Int32} (h : JK (bs, tl, mc, md, ip, dc, dr, ac, an, hs, sd, df, dfn, td, tr, ft, pl)) : JK (s_tell (bs, tl, mc, md, ip, dc, dr, ac, an, hs, sd, df, dfn, td, tr, ft, pl) x).2 := by
  obtain ⟨⟨j1, j2, j3, j4, j5, j6, j7, j8, j9, j10⟩, j11⟩ := id h
  simp only [] at j1 j2 j3 j4 j5 j6 j7 j8 j9 j10 j11
  unfold s_tell
  repeat' split
  all_goals exact JK_mk j1 j2 j3 j4 j5 j6 j7 j8 j9 j10 j11
theorem j_again {bs : Nat → Int32} {tl : Nat} {mc : Nat} {md : Nat → MR} {ip : Nat → Int32} {dc : Nat} {dr : Nat → DR} {ac : Nat} {an : Nat → AR} {hs : Bool} {sd : Nat → Int32} {df : Nat → Int32} {dfn : Nat} {td : Nat} {tr : Int32} {ft : Int32} {pl : Int32} {x : Int32} {m : Int32} (h : JK (bs, tl, mc, md, ip, dc, dr, ac, an, hs, sd, df, dfn, td, tr, ft, pl)) : JK (s_again (bs, tl, mc, md, ip, dc, dr, ac, an, hs, sd, df, dfn, td, tr, ft, pl) x m).2 := by
  obtain ⟨⟨j1, j2, j3, j4, j5, j6, j7, j8, j9, j10⟩, j11⟩ := id h
  simp only [] at j1 j2 j3 j4 j5 j6 j7 j8 j9 j10 j11
  unfold s_again
  repeat' split
  all_goals exact JK_mk j1 j2 j3 j4 j5 j6 j7 j8 j9 j10 j11
theorem j_side {bs : Nat → Int32} {tl : Nat} {mc : Nat} {md : Nat → MR} {ip : Nat → Int32} {dc : Nat} {dr : Nat → DR} {ac : Nat} {an : Nat → AR} {hs : Bool} {sd : Nat → Int32} {df : Nat → Int32} {dfn : Nat} {td : Nat} {tr : Int32} {ft : Int32} {pl : Int32} {x : Int32} (h : JK (bs, tl, mc, md, ip, dc, dr, ac, an, hs, sd, df, dfn, td, tr, ft, pl)) : JK (s_side (bs, tl, mc, md, ip, dc, dr, ac, an, hs, sd, df, dfn, td, tr, ft, pl) x).2 := by
  obtain ⟨⟨j1, j2, j3, j4, j5, j6, j7, j8, j9, j10⟩, j11⟩ := id h
  simp only [] at j1 j2 j3 j4 j5 j6 j7 j8 j9 j10 j11
  unfold s_side
  repeat' split
  all_goals exact JK_mk j1 j2 j3 j4 j5 j6 j7 j8 j9 j10 j11
theorem j_feed {bs : Nat → Int32} {tl : Nat} {mc : Nat} {md : Nat → MR} {ip : Nat → Int32} {dc : Nat} {dr : Nat → DR} {ac : Nat} {an : Nat → AR} {hs : Bool} {sd : Nat → Int32} {df : Nat → Int32} {dfn : Nat} {td : Nat} {tr : Int32} {ft : Int32} {pl : Int32} {a : Int32} {b : Int32} {c : Int32} {d9 : Int32} {e : Int32} (h : JK (bs, tl, mc, md, ip, dc, dr, ac, an, hs, sd, df, dfn, td, tr, ft, pl)) : JK (s_feed (bs, tl, mc, md, ip, dc, dr, ac, an, hs, sd, df, dfn, td, tr, ft, pl) a b c d9 e).2 := by
  obtain ⟨⟨j1, j2, j3, j4, j5, j6, j7, j8, j9, j10⟩, j11⟩ := id h
  simp only [] at j1 j2 j3 j4 j5 j6 j7 j8 j9 j10 j11
  unfold s_feed
  simp only []
  split
  · rename_i c1
    exact JK_mk j1 j2 j3 c1 j5 j6 j7 j8 j9 j10 j11
  · exact h
theorem j_input {bs : Nat → Int32} {tl : Nat} {mc : Nat} {md : Nat → MR} {ip : Nat → Int32} {dc : Nat} {dr : Nat → DR} {ac : Nat} {an : Nat → AR} {hs : Bool} {sd : Nat → Int32} {df : Nat → Int32} {dfn : Nat} {td : Nat} {tr : Int32} {ft : Int32} {pl : Int32} {k : Int32} {v : Int32} (h : JK (bs, tl, mc, md, ip, dc, dr, ac, an, hs, sd, df, dfn, td, tr, ft, pl)) : JK (s_input (bs, tl, mc, md, ip, dc, dr, ac, an, hs, sd, df, dfn, td, tr, ft, pl) k v).2 := by
  obtain ⟨⟨j1, j2, j3, j4, j5, j6, j7, j8, j9, j10⟩, j11⟩ := id h
  simp only [] at j1 j2 j3 j4 j5 j6 j7 j8 j9 j10 j11
  unfold s_input
  simp only []
  split
  · exact JK_mk j1 j2 j3 j4 j5 j6 j7 j8 j9 j10 j11
  · split
    · exact JK_mk j1 j2 j3 j4 j5 j6 j7 j8 j9 j10 j11
    · split
      · exact JK_mk j1 j2 j3 j4 j5 j6 j7 j8 j9 j10 j11
      · split
        · rename_i c1 c2 c3 c4
          have m1 : (-1000 : Int32).toInt = -1000 := by decide
          have m2 : (1000 : Int32).toInt = 1000 := by decide
          rw [Int32.lt_iff_toInt_lt, m1] at c3
          rw [Int32.le_iff_toInt_le, m2] at c4
          refine JK_mk j1 j2 j3 j4 j5 j6 j7 (fun q hq => ?_) j9 j10 j11
          by_cases e : q = cl k
          · subst e
            rw [pk_us]
            exact ⟨by omega, by omega⟩
          · rw [pk_un e]
            exact j8 q hq
        · exact JK_mk j1 j2 j3 j4 j5 j6 j7 j8 j9 j10 j11
theorem j_guard {bs : Nat → Int32} {tl : Nat} {mc : Nat} {md : Nat → MR} {ip : Nat → Int32} {dc : Nat} {dr : Nat → DR} {ac : Nat} {an : Nat → AR} {hs : Bool} {sd : Nat → Int32} {df : Nat → Int32} {dfn : Nat} {td : Nat} {tr : Int32} {ft : Int32} {pl : Int32} {x : Int32} {k : Int32} {l : Int32} {h9 : Int32} (h : JK (bs, tl, mc, md, ip, dc, dr, ac, an, hs, sd, df, dfn, td, tr, ft, pl)) : JK (s_guard (bs, tl, mc, md, ip, dc, dr, ac, an, hs, sd, df, dfn, td, tr, ft, pl) x k l h9).2 := by
  obtain ⟨⟨j1, j2, j3, j4, j5, j6, j7, j8, j9, j10⟩, j11⟩ := id h
  simp only [] at j1 j2 j3 j4 j5 j6 j7 j8 j9 j10 j11
  unfold s_guard
  simp only []
  split
  · rename_i bD
    split
    · exact JK_mk j1 j2 j3 j4 j5 j6 j7 j8 j9 j10 j11
    · split
      · split
        · exact JK_mk j1 j2 j3 j4 j5 j6 j7 j8 j9 j10 j11
        · split
          · exact JK_mk j1 j2 j3 j4 j5 j6 j7 j8 j9 j10 j11
          · split
            · exact JK_mk j1 j2 j3 j4 j5 j6 j7 j8 (up1_all (R := fun i r => DYP r td ∧ DPl r mc ∧ DCt r i ac an) j9 ⟨DYP_o (j9 _ (inB_lt bD)).1, DPl_o (j9 _ (inB_lt bD)).2.1, DCt_o (j9 _ (inB_lt bD)).2.2⟩) j10 j11
            · exact JK_mk j1 j2 j3 j4 j5 j6 j7 j8 j9 j10 j11
      · exact JK_mk j1 j2 j3 j4 j5 j6 j7 j8 j9 j10 j11
  · exact JK_mk j1 j2 j3 j4 j5 j6 j7 j8 j9 j10 j11
theorem j_leave {bs : Nat → Int32} {tl : Nat} {mc : Nat} {md : Nat → MR} {ip : Nat → Int32} {dc : Nat} {dr : Nat → DR} {ac : Nat} {an : Nat → AR} {hs : Bool} {sd : Nat → Int32} {df : Nat → Int32} {dfn : Nat} {td : Nat} {tr : Int32} {ft : Int32} {pl : Int32} {x : Int32} (h : JK (bs, tl, mc, md, ip, dc, dr, ac, an, hs, sd, df, dfn, td, tr, ft, pl)) : JK (s_leave (bs, tl, mc, md, ip, dc, dr, ac, an, hs, sd, df, dfn, td, tr, ft, pl) x).2 := by
  obtain ⟨⟨j1, j2, j3, j4, j5, j6, j7, j8, j9, j10⟩, j11⟩ := id h
  simp only [] at j1 j2 j3 j4 j5 j6 j7 j8 j9 j10 j11
  unfold s_leave
  simp only []
  split
  · rename_i bD
    split
    · exact JK_mk j1 j2 j3 j4 j5 j6 j7 j8 j9 j10 j11
    · exact JK_mk j1 j2 j3 j4 j5 j6 j7 j8 (up1_all (R := fun i r => DYP r td ∧ DPl r mc ∧ DCt r i ac an) j9 ⟨DYP_o (j9 _ (inB_lt bD)).1, DPl_mk (j9 _ (inB_lt bD)).2.1.1 (j9 _ (inB_lt bD)).2.1.2.1 (j9 _ (inB_lt bD)).2.1.2.2.1 (Or.inl rfl), DCt_o (j9 _ (inB_lt bD)).2.2⟩) j10 j11
  · exact JK_mk j1 j2 j3 j4 j5 j6 j7 j8 j9 j10 j11
theorem j_rival {bs : Nat → Int32} {tl : Nat} {mc : Nat} {md : Nat → MR} {ip : Nat → Int32} {dc : Nat} {dr : Nat → DR} {ac : Nat} {an : Nat → AR} {hs : Bool} {sd : Nat → Int32} {df : Nat → Int32} {dfn : Nat} {td : Nat} {tr : Int32} {ft : Int32} {pl : Int32} {x : Int32} {m : Int32} {h9 : Int32} (h : JK (bs, tl, mc, md, ip, dc, dr, ac, an, hs, sd, df, dfn, td, tr, ft, pl)) : JK (s_rival (bs, tl, mc, md, ip, dc, dr, ac, an, hs, sd, df, dfn, td, tr, ft, pl) x m h9).2 := by
  obtain ⟨⟨j1, j2, j3, j4, j5, j6, j7, j8, j9, j10⟩, j11⟩ := id h
  simp only [] at j1 j2 j3 j4 j5 j6 j7 j8 j9 j10 j11
  unfold s_rival
  simp only []
  split
  · rename_i bD
    split
    · rename_i bM
      split
      · exact JK_mk j1 j2 j3 j4 j5 j6 j7 j8 j9 j10 j11
      · split
        · split
          · exact JK_mk j1 j2 j3 j4 j5 j6 j7 j8 j9 j10 j11
          · split
            · exact JK_mk j1 j2 j3 j4 j5 j6 j7 j8 j9 j10 j11
            · rename_i c1 c2 c3 c4
              exact JK_mk j1 j2 j3 j4 j5 j6 j7 j8 (up1_all (R := fun i r => DYP r td ∧ DPl r mc ∧ DCt r i ac an) j9 ⟨DYP_o (j9 _ (inB_lt bD)).1, DPl_mk (j9 _ (inB_lt bD)).2.1.1 (j9 _ (inB_lt bD)).2.1.2.1 (j9 _ (inB_lt bD)).2.1.2.2.1 (Or.inr ⟨bM, fun e => c4 e.symm, c3⟩), DCt_o (j9 _ (inB_lt bD)).2.2⟩) j10 j11
        · exact JK_mk j1 j2 j3 j4 j5 j6 j7 j8 j9 j10 j11
    · exact JK_mk j1 j2 j3 j4 j5 j6 j7 j8 j9 j10 j11
  · exact JK_mk j1 j2 j3 j4 j5 j6 j7 j8 j9 j10 j11
theorem j_crown {bs : Nat → Int32} {tl : Nat} {mc : Nat} {md : Nat → MR} {ip : Nat → Int32} {dc : Nat} {dr : Nat → DR} {ac : Nat} {an : Nat → AR} {hs : Bool} {sd : Nat → Int32} {df : Nat → Int32} {dfn : Nat} {td : Nat} {tr : Int32} {ft : Int32} {pl : Int32} {x : Int32} {m : Int32} (h : JK (bs, tl, mc, md, ip, dc, dr, ac, an, hs, sd, df, dfn, td, tr, ft, pl)) : JK (s_crown (bs, tl, mc, md, ip, dc, dr, ac, an, hs, sd, df, dfn, td, tr, ft, pl) x m).2 := by
  obtain ⟨⟨j1, j2, j3, j4, j5, j6, j7, j8, j9, j10⟩, j11⟩ := id h
  simp only [] at j1 j2 j3 j4 j5 j6 j7 j8 j9 j10 j11
  unfold s_crown
  simp only []
  split
  · rename_i bD
    split
    · rename_i bM
      split
      · exact JK_mk j1 j2 j3 j4 j5 j6 j7 j8 j9 j10 j11
      · split
        · exact JK_mk j1 j2 j3 j4 j5 j6 j7 j8 (up1_all (R := fun i r => DYP r td ∧ DPl r mc ∧ DCt r i ac an) j9 ⟨DYP_change (j9 _ (inB_lt bD)).1 j5, DPl_mk (rem_ok (j9 _ (inB_lt bD)).2.1.1 (j9 _ (inB_lt bD)).2.1.2.1 (j9 _ (inB_lt bD)).2.1.2.2.1).1 (rem_ok (j9 _ (inB_lt bD)).2.1.1 (j9 _ (inB_lt bD)).2.1.2.1 (j9 _ (inB_lt bD)).2.1.2.2.1).2 (Or.inr bM) (Or.inl rfl), DCt_o (j9 _ (inB_lt bD)).2.2⟩) j10 j11
        · rename_i c1 c2
          exact JK_mk j1 j2 j3 j4 j5 j6 j7 j8 (up1_all (R := fun i r => DYP r td ∧ DPl r mc ∧ DCt r i ac an) j9 ⟨DYP_change (j9 _ (inB_lt bD)).1 j5, DPl_mk (rem_ok (j9 _ (inB_lt bD)).2.1.1 (j9 _ (inB_lt bD)).2.1.2.1 (j9 _ (inB_lt bD)).2.1.2.2.1).1 (rem_ok (j9 _ (inB_lt bD)).2.1.1 (j9 _ (inB_lt bD)).2.1.2.1 (j9 _ (inB_lt bD)).2.1.2.2.1).2 (Or.inr bM) ((j9 _ (inB_lt bD)).2.1.2.2.2.imp id (fun h9 => ⟨h9.1, c2, inB_ne2 bM⟩)), DCt_o (j9 _ (inB_lt bD)).2.2⟩) j10 j11
    · exact JK_mk j1 j2 j3 j4 j5 j6 j7 j8 j9 j10 j11
  · exact JK_mk j1 j2 j3 j4 j5 j6 j7 j8 j9 j10 j11
theorem j_back {bs : Nat → Int32} {tl : Nat} {mc : Nat} {md : Nat → MR} {ip : Nat → Int32} {dc : Nat} {dr : Nat → DR} {ac : Nat} {an : Nat → AR} {hs : Bool} {sd : Nat → Int32} {df : Nat → Int32} {dfn : Nat} {td : Nat} {tr : Int32} {ft : Int32} {pl : Int32} {x : Int32} (h : JK (bs, tl, mc, md, ip, dc, dr, ac, an, hs, sd, df, dfn, td, tr, ft, pl)) : JK (s_back (bs, tl, mc, md, ip, dc, dr, ac, an, hs, sd, df, dfn, td, tr, ft, pl) x).2 := by
  obtain ⟨⟨j1, j2, j3, j4, j5, j6, j7, j8, j9, j10⟩, j11⟩ := id h
  simp only [] at j1 j2 j3 j4 j5 j6 j7 j8 j9 j10 j11
  unfold s_back
  simp only []
  by_cases bD : inB x dc = true
  · rw [if_pos bD]
    by_cases c2 : d_fc (dr (cl x)) = 0
    · simp only [if_pos c2]
      rw [if_pos trivial]
      exact JK_mk j1 j2 j3 j4 j5 j6 j7 j8 (up1_all (R := fun i r => DYP r td ∧ DPl r mc ∧ DCt r i ac an) j9 ⟨DYP_o (j9 _ (inB_lt bD)).1, DPl_mk (by have := (j9 _ (inB_lt bD)).2.1.1; omega) (fun j hj => (j9 _ (inB_lt bD)).2.1.2.1 j (by omega)) (j9 _ (inB_lt bD)).2.1.2.2.1 (j9 _ (inB_lt bD)).2.1.2.2.2, DCt_o (j9 _ (inB_lt bD)).2.2⟩) j10 j11
    · simp only [if_neg c2]
      split
      · exact JK_mk j1 j2 j3 j4 j5 j6 j7 j8 (up1_all (R := fun i r => DYP r td ∧ DPl r mc ∧ DCt r i ac an) j9 ⟨DYP_o (j9 _ (inB_lt bD)).1, DPl_mk (by have := (j9 _ (inB_lt bD)).2.1.1; omega) (fun j hj => (j9 _ (inB_lt bD)).2.1.2.1 j (by omega)) (j9 _ (inB_lt bD)).2.1.2.2.1 (j9 _ (inB_lt bD)).2.1.2.2.2, DCt_o (j9 _ (inB_lt bD)).2.2⟩) j10 j11
      · exact JK_mk j1 j2 j3 j4 j5 j6 j7 j8 (up1_all (R := fun i r => DYP r td ∧ DPl r mc ∧ DCt r i ac an) j9 ⟨DYP_change (j9 _ (inB_lt bD)).1 j5, DPl_mk (by have := (j9 _ (inB_lt bD)).2.1.1; omega) (fun j hj => (j9 _ (inB_lt bD)).2.1.2.1 j (by omega)) (Or.inr ((j9 _ (inB_lt bD)).2.1.2.1 _ (by omega))) (Or.inl rfl), DCt_o (j9 _ (inB_lt bD)).2.2⟩) j10 j11
  · rw [if_neg bD]
    exact JK_mk j1 j2 j3 j4 j5 j6 j7 j8 j9 j10 j11
theorem j_expect {bs : Nat → Int32} {tl : Nat} {mc : Nat} {md : Nat → MR} {ip : Nat → Int32} {dc : Nat} {dr : Nat → DR} {ac : Nat} {an : Nat → AR} {hs : Bool} {sd : Nat → Int32} {df : Nat → Int32} {dfn : Nat} {td : Nat} {tr : Int32} {ft : Int32} {pl : Int32} {x : Int32} {k : Int32} {b : Int32} {v : Int32} (h : JK (bs, tl, mc, md, ip, dc, dr, ac, an, hs, sd, df, dfn, td, tr, ft, pl)) : JK (s_expect (bs, tl, mc, md, ip, dc, dr, ac, an, hs, sd, df, dfn, td, tr, ft, pl) x k b v).2 := by
  obtain ⟨⟨j1, j2, j3, j4, j5, j6, j7, j8, j9, j10⟩, j11⟩ := id h
  simp only [] at j1 j2 j3 j4 j5 j6 j7 j8 j9 j10 j11
  unfold s_expect
  simp only []
  split
  · rename_i bD
    split
    · split
      · exact JK_mk j1 j2 j3 j4 j5 j6 j7 j8 j9 j10 j11
      · split
        · rename_i c1 c2 c3
          have m1 : (0 : Int32).toInt = 0 := by decide
          have m2 : (1000 : Int32).toInt = 1000 := by decide
          rw [Int32.lt_iff_toInt_lt, m1] at c2
          rw [Int32.le_iff_toInt_le, m2] at c3
          refine JK_mk j1 j2 j3 j4 j5 j6 j7 j8 (up1_all (R := fun i r => DYP r td ∧ DPl r mc ∧ DCt r i ac an) j9 ⟨DYP_o (j9 _ (inB_lt bD)).1, DPl_o (j9 _ (inB_lt bD)).2.1, DCt_tl (j9 _ (inB_lt bD)).2.2 (fun j hj => ?_)⟩) j10 j11
          by_cases e : j = cl k * 4 + cl b
          · subst e
            rw [pk_us]
            omega
          · rw [pk_un e]
            exact (j9 _ (inB_lt bD)).2.2.2.2 j hj
        · exact JK_mk j1 j2 j3 j4 j5 j6 j7 j8 j9 j10 j11
    · exact JK_mk j1 j2 j3 j4 j5 j6 j7 j8 j9 j10 j11
  · exact JK_mk j1 j2 j3 j4 j5 j6 j7 j8 j9 j10 j11
theorem j_door {bs : Nat → Int32} {tl : Nat} {mc : Nat} {md : Nat → MR} {ip : Nat → Int32} {dc : Nat} {dr : Nat → DR} {ac : Nat} {an : Nat → AR} {hs : Bool} {sd : Nat → Int32} {df : Nat → Int32} {dfn : Nat} {td : Nat} {tr : Int32} {ft : Int32} {pl : Int32}  (h : JK (bs, tl, mc, md, ip, dc, dr, ac, an, hs, sd, df, dfn, td, tr, ft, pl)) : JK (s_door (bs, tl, mc, md, ip, dc, dr, ac, an, hs, sd, df, dfn, td, tr, ft, pl) ).2 := by
  obtain ⟨⟨j1, j2, j3, j4, j5, j6, j7, j8, j9, j10⟩, j11⟩ := id h
  simp only [] at j1 j2 j3 j4 j5 j6 j7 j8 j9 j10 j11
  unfold s_door
  simp only []
  split
  · rename_i c1
    have hz : ∀ p : Nat → Bool, cnt (fun j => decide (a_do (an j) = nI dc) && p j) ac = 0 := by
      intro p
      have : ∀ n, n ≤ ac → cnt (fun j => decide (a_do (an j) = nI dc) && p j) n = 0 := by
        intro n
        induction n with
        | zero => intro _; rfl
        | succ n ih =>
          intro hn
          obtain ⟨i, hi, he⟩ := j11 n (by omega)
          have hne : ¬ a_do (an n) = nI dc := fun e => by
            rw [he] at e
            have := (nI_eq (by omega) (by omega)).mp e
            omega
          rw [cnt_s, ih (by omega), decide_eq_false hne, Bool.false_and]
          rfl
      exact this ac (Nat.le_refl _)
    have hz0 : cnt (fun j => decide (a_do (an j) = nI dc)) ac = 0 := by
      have := hz (fun _ => true)
      simp only [Bool.and_true] at this
      exact this
    refine JK_mk j1 (by omega) j3 j4 j5 j6 j7 j8 (fun i hi => ?_) j10 (fun j hj => ?_)
    · by_cases e : i = dc
      · subst e
        rw [up1_s]
        refine ⟨DYP_new, DPl_new, ?_, fun k b hk hb => ?_, fun j hj => ⟨Int.le_refl _, by show (0 : Int32).toInt ≤ 1000; decide⟩⟩
        · rw [hz0]
          rfl
        · rw [hz (fun j => decide (jBn (a_in (an j) k) = b))]
          rfl
      · rw [up1_n e]
        exact j9 i (by omega)
    · obtain ⟨i, hi, he⟩ := j11 j hj
      exact ⟨i, by omega, he⟩
  · exact JK_mk j1 j2 j3 j4 j5 j6 j7 j8 j9 j10 j11
theorem j_pass {bs : Nat → Int32} {tl : Nat} {mc : Nat} {md : Nat → MR} {ip : Nat → Int32} {dc : Nat} {dr : Nat → DR} {ac : Nat} {an : Nat → AR} {hs : Bool} {sd : Nat → Int32} {df : Nat → Int32} {dfn : Nat} {td : Nat} {tr : Int32} {ft : Int32} {pl : Int32} {k : Int32} (h : JK (bs, tl, mc, md, ip, dc, dr, ac, an, hs, sd, df, dfn, td, tr, ft, pl)) : JK (s_pass (bs, tl, mc, md, ip, dc, dr, ac, an, hs, sd, df, dfn, td, tr, ft, pl) k).2 := by
  obtain ⟨⟨j1, j2, j3, j4, j5, j6, j7, j8, j9, j10⟩, j11⟩ := id h
  simp only [] at j1 j2 j3 j4 j5 j6 j7 j8 j9 j10 j11
  unfold s_pass
  simp only []
  split
  · exact JK_mk j1 j2 j3 j4 j5 j6 j7 j8 j9 j10 j11
  · split
    · exact JK_mk j1 j2 j3 j4 j5 j6 j7 j8 j9 j10 j11
    · split
      · rename_i c1 c2 c3
        have h0 : ¬ k < 0 := fun h9 => c1 (Int32.lt_trans h9 (by decide))
        obtain ⟨K, hK, rfl⟩ := nI_of h0
        have c3 : K ≤ 2000 - td := (nI_leI (by omega) (by omega)).mp c3
        have c1 : 1 ≤ K := by
          refine Nat.le_of_not_lt (fun h9 => c1 ?_)
          rw [show (1 : Int32) = nI 1 by decide]
          exact (nI_ltI (by omega) (by omega)).mpr h9
        rw [cl_nI hK]
        exact JK_mk j1 j2 j3 j4 (by omega) j6 j7 j8 (fun i hi => ⟨DYP_pass (j9 i hi).1 c1 (by omega), DPl_o (j9 i hi).2.1, DCt_o (j9 i hi).2.2⟩) j10 j11
      · exact JK_mk j1 j2 j3 j4 j5 j6 j7 j8 j9 j10 j11
theorem j_truth {bs : Nat → Int32} {tl : Nat} {mc : Nat} {md : Nat → MR} {ip : Nat → Int32} {dc : Nat} {dr : Nat → DR} {ac : Nat} {an : Nat → AR} {hs : Bool} {sd : Nat → Int32} {df : Nat → Int32} {dfn : Nat} {td : Nat} {tr : Int32} {ft : Int32} {pl : Int32} {x : Int32} {v : Int32} (h : JK (bs, tl, mc, md, ip, dc, dr, ac, an, hs, sd, df, dfn, td, tr, ft, pl)) : JK (s_truth (bs, tl, mc, md, ip, dc, dr, ac, an, hs, sd, df, dfn, td, tr, ft, pl) x v).2 := by
  obtain ⟨⟨j1, j2, j3, j4, j5, j6, j7, j8, j9, j10⟩, j11⟩ := id h
  simp only [] at j1 j2 j3 j4 j5 j6 j7 j8 j9 j10 j11
  unfold s_truth
  simp only []
  split
  · rename_i bA
    split
    · exact JK_mk j1 j2 j3 j4 j5 j6 j7 j8 j9 j10 j11
    · split
      · have hdo : ∀ j, a_do (up1 an (cl x) (a_do (an (cl x)), a_ke (an (cl x)), a_da (an (cl x)), a_gv (an (cl x)), a_ch (an (cl x)), a_rv (an (cl x)), a_gn (an (cl x)), a_ct (an (cl x)), a_rt (an (cl x)), v, a_in (an (cl x))) j) = a_do (an j) := fun j => by
          by_cases e : j = cl x
          · subst e; rw [up1_s]
          · rw [up1_n e]
        have hin : ∀ j, a_in (up1 an (cl x) (a_do (an (cl x)), a_ke (an (cl x)), a_da (an (cl x)), a_gv (an (cl x)), a_ch (an (cl x)), a_rv (an (cl x)), a_gn (an (cl x)), a_ct (an (cl x)), a_rt (an (cl x)), v, a_in (an (cl x))) j) = a_in (an j) := fun j => by
          by_cases e : j = cl x
          · subst e; rw [up1_s]
          · rw [up1_n e]
        refine JK_mk j1 j2 j3 j4 j5 j6 j7 j8 (fun i hi => ⟨(j9 i hi).1, (j9 i hi).2.1, ?_, fun k b hk hb => ?_, (j9 i hi).2.2.2.2⟩) (up1_all (R := fun _ r => AJ r) j10 (AJ_o (j10 _ (inB_lt bA)))) (fun j hj => ?_)
        · simp only [hdo]
          exact (j9 i hi).2.2.1
        · simp only [hdo, hin]
          exact (j9 i hi).2.2.2.1 k b hk hb
        · obtain ⟨i, hi, he⟩ := j11 j hj
          exact ⟨i, hi, (hdo j).trans he⟩
      · exact JK_mk j1 j2 j3 j4 j5 j6 j7 j8 j9 j10 j11
  · exact JK_mk j1 j2 j3 j4 j5 j6 j7 j8 j9 j10 j11
theorem j_differs {bs : Nat → Int32} {tl : Nat} {mc : Nat} {md : Nat → MR} {ip : Nat → Int32} {dc : Nat} {dr : Nat → DR} {ac : Nat} {an : Nat → AR} {hs : Bool} {sd : Nat → Int32} {df : Nat → Int32} {dfn : Nat} {td : Nat} {tr : Int32} {ft : Int32} {pl : Int32} {x : Int32} {m : Int32} (h : JK (bs, tl, mc, md, ip, dc, dr, ac, an, hs, sd, df, dfn, td, tr, ft, pl)) : JK (s_differs (bs, tl, mc, md, ip, dc, dr, ac, an, hs, sd, df, dfn, td, tr, ft, pl) x m).2 := by
  obtain ⟨⟨j1, j2, j3, j4, j5, j6, j7, j8, j9, j10⟩, j11⟩ := id h
  simp only [] at j1 j2 j3 j4 j5 j6 j7 j8 j9 j10 j11
  unfold s_differs
  simp only []
  split
  · split
    · exact JK_mk j1 j2 j3 j4 j5 (by have := dfL_le (x := x) (c := (md (cl m)).1) (an := an) ac 0 (df, 0); show (dfL x (md (cl m)).1 an ac 0 (df, 0)).2 ≤ 200; simp only [] at this; omega) j7 j8 j9 j10 j11
    · exact h
  · exact h
theorem j_model {bs : Nat → Int32} {tl : Nat} {mc : Nat} {md : Nat → MR} {ip : Nat → Int32} {dc : Nat} {dr : Nat → DR} {ac : Nat} {an : Nat → AR} {hs : Bool} {sd : Nat → Int32} {df : Nat → Int32} {dfn : Nat} {td : Nat} {tr : Int32} {ft : Int32} {pl : Int32} {xn tv : Int32} (h : JK (bs, tl, mc, md, ip, dc, dr, ac, an, hs, sd, df, dfn, td, tr, ft, pl)) : JK (s_model (bs, tl, mc, md, ip, dc, dr, ac, an, hs, sd, df, dfn, td, tr, ft, pl) xn tv).2 := by
  obtain ⟨⟨j1, j2, j3, j4, j5, j6, j7, j8, j9, j10⟩, j11⟩ := id h
  simp only [] at j1 j2 j3 j4 j5 j6 j7 j8 j9 j10 j11
  unfold s_model
  simp only []
  split
  · exact JK_mk j1 j2 j3 j4 j5 j6 j7 j8 j9 j10 j11
  · split
    · rename_i c0 c1
      have he : cl xn ≤ 300 := by
        obtain ⟨e, he, rfl⟩ := nI_of c0
        rw [cl_nI he]
        have := (nI_leI he (by omega)).mp c1
        omega
      split
      · exact JK_mk j1 j2 j3 (Nat.zero_le _) j5 j6 j7 j8 j9 j10 j11
      · rename_i st hst
        split
        · rename_i c2
          have hx := modelT_ex hst
          have ho := modelT_ok he hst
          refine JK_mk (by omega) j2 j3 (Nat.zero_le _) j5 j6 (fun i hi => ?_) j8 (fun i hi => ⟨(j9 i hi).1, DPl_mono (j9 i hi).2.1 (Nat.le_succ _), (j9 i hi).2.2⟩) j10 j11
          by_cases e : i = mc
          · subst e
            rw [up1_s]
            refine ⟨hx.1, ?_⟩
            have := ho.2.2.1
            have h4 := hx.2
            show st.2.2.1.length ≤ 60
            omega
          · rw [up1_n e]
            exact j7 i (by omega)
        · exact JK_mk j1 j2 j3 (Nat.zero_le _) j5 j6 j7 j8 j9 j10 j11
    · exact JK_mk j1 j2 j3 j4 j5 j6 j7 j8 j9 j10 j11
theorem ask_ct {an : Nat → AR} {ac i : Nat} {a : AR} {r : DR} {x : Int32} {ip : Nat → Int32} (h : DCt r i ac an) (hd : a_do a = x) (hin : ∀ k, k < 6 → a_in a k = ip k) (hx : x = nI i) : DCt (d_lo r, d_hi r, d_fm r, d_cd r, d_ct r, cuL ip 6 0 (d_sn r), d_tl r, d_ch r, d_rv r, d_sh r, d_fc r, d_cn r, d_kp r + 1, d_rf r, d_dy r) i (ac + 1) (up1 an ac a) := by
  obtain ⟨h1, h2, h3⟩ := h
  have hc : ∀ p : AR → Bool, cnt (fun j => p (up1 an ac a j)) (ac + 1) = cnt (fun j => p (an j)) ac + if p a = true then 1 else 0 := by
    intro p
    rw [cnt_s, up1_s]
    congr 1
    exact cnt_congr ac (fun j hj => by rw [up1_n (by omega)])
  refine ⟨?_, fun k b hk hb => ?_, h3⟩
  · show d_kp r + 1 = nI (cnt (fun j => decide (a_do (up1 an ac a j) = nI i)) (ac + 1))
    rw [hc (fun a => decide (a_do a = nI i)), h1, hd, if_pos (decide_eq_true hx)]
    exact nI_1 _
  · show cuL ip 6 0 (d_sn r) (k * 4 + b) = nI (cnt (fun j => decide (a_do (up1 an ac a j) = nI i) && decide (jBn (a_in (up1 an ac a j) k) = b)) (ac + 1))
    rw [hc (fun a => decide (a_do a = nI i) && decide (jBn (a_in a k) = b)), cuL_v 6 0 (d_sn r) k b hb, h2 k b hk hb, hd, hin k hk, decide_eq_true hx, Bool.true_and]
    by_cases c : jBn (ip k) = b
    · rw [if_pos (by omega), if_pos (decide_eq_true c)]
      exact nI_1 _
    · rw [if_neg (by omega), if_neg (by rw [decide_eq_false c]; decide), Int32.add_zero, Nat.add_zero]
theorem ask_cn {an : Nat → AR} {ac i : Nat} {a : AR} {r : DR} (h : DCt r i ac an) (hd : ¬ a_do a = nI i) : DCt r i (ac + 1) (up1 an ac a) := by
  obtain ⟨h1, h2, h3⟩ := h
  refine ⟨?_, fun k b hk hb => ?_, h3⟩
  · rw [cnt_s, up1_s, decide_eq_false hd]
    refine h1.trans (congrArg nI ?_)
    show _ = _ + 0
    exact cnt_congr ac (fun j hj => by rw [up1_n (by omega)])
  · rw [cnt_s, up1_s, decide_eq_false hd, Bool.false_and]
    refine (h2 k b hk hb).trans (congrArg nI ?_)
    show _ = _ + 0
    exact cnt_congr ac (fun j hj => by rw [up1_n (by omega)])
theorem j_ask_ok {bs : Nat → Int32} {tl : Nat} {mc : Nat} {md : Nat → MR} {ip : Nat → Int32} {dc : Nat} {dr : Nat → DR} {ac : Nat} {an : Nat → AR} {hs : Bool} {sd : Nat → Int32} {df : Nat → Int32} {dfn : Nat} {td : Nat} {tr : Int32} {ft : Int32} {pl : Int32} {x : Int32} {a : AR} (h : JK (bs, tl, mc, md, ip, dc, dr, ac, an, hs, sd, df, dfn, td, tr, ft, pl)) (bD : inB x dc = true) (c : ac < 200) (hd : a_do a = x) (hin : a_in a = cpA 6 6 ip) (hA : AJ a) (tr9 : Int32) : JK (bs, tl, mc, md, ip, dc, up1 dr (cl x) (d_lo (dr (cl x)), d_hi (dr (cl x)), d_fm (dr (cl x)), d_cd (dr (cl x)), d_ct (dr (cl x)), cuL ip 6 0 (d_sn (dr (cl x))), d_tl (dr (cl x)), d_ch (dr (cl x)), d_rv (dr (cl x)), d_sh (dr (cl x)), d_fc (dr (cl x)), d_cn (dr (cl x)), d_kp (dr (cl x)) + 1, d_rf (dr (cl x)), d_dy (dr (cl x))), ac + 1, up1 an ac a, hs, sd, df, dfn, td, tr9, ft, pl) := by
  obtain ⟨⟨j1, j2, j3, j4, j5, j6, j7, j8, j9, j10⟩, j11⟩ := id h
  simp only [] at j1 j2 j3 j4 j5 j6 j7 j8 j9 j10 j11
  refine JK_mk j1 j2 (by omega) j4 j5 j6 j7 j8 (fun i hi => ?_) (fun i hi => ?_) (fun j hj => ?_)
  · by_cases e : i = cl x
    · subst e
      rw [up1_s]
      exact ⟨DYP_o (j9 _ hi).1, DPl_o (j9 _ hi).2.1, ask_ct (j9 _ hi).2.2 hd (fun k _ => by rw [hin]; unfold cpA; rw [if_pos rfl]) (nI_cl (inB_nn bD)).symm⟩
    · rw [up1_n e]
      refine ⟨(j9 _ hi).1, (j9 _ hi).2.1, ask_cn (j9 _ hi).2.2 (fun e9 => e ?_)⟩
      rw [hd, ← nI_cl (inB_nn bD)] at e9
      have := inB_lt bD
      exact ((nI_eq (by omega) (by omega)).mp e9).symm
  · by_cases e : i = ac
    · subst e; rw [up1_s]; exact hA
    · rw [up1_n e]; exact j10 i (by omega)
  · by_cases e : j = ac
    · subst e; rw [up1_s, hd]; exact ⟨cl x, inB_lt bD, (nI_cl (inB_nn bD)).symm⟩
    · rw [up1_n e]; exact j11 j (by omega)
theorem j_ask {bs : Nat → Int32} {tl : Nat} {mc : Nat} {md : Nat → MR} {ip : Nat → Int32} {dc : Nat} {dr : Nat → DR} {ac : Nat} {an : Nat → AR} {hs : Bool} {sd : Nat → Int32} {df : Nat → Int32} {dfn : Nat} {td : Nat} {tr : Int32} {ft : Int32} {pl : Int32} {x : Int32} {key : Int32} (h : JK (bs, tl, mc, md, ip, dc, dr, ac, an, hs, sd, df, dfn, td, tr, ft, pl)) : JK (s_ask (bs, tl, mc, md, ip, dc, dr, ac, an, hs, sd, df, dfn, td, tr, ft, pl) x key).2 := by
  obtain ⟨⟨j1, j2, j3, j4, j5, j6, j7, j8, j9, j10⟩, j11⟩ := id h
  simp only [] at j1 j2 j3 j4 j5 j6 j7 j8 j9 j10 j11
  unfold s_ask
  simp only []
  split
  · rename_i bD
    split
    · split
      · rename_i c1 c2
        split
        · split
          · rename_i c3 c4
            have hip : ∀ k, k < 6 → in9 (cpA 6 6 ip k) := fun k hk => by unfold cpA; rw [if_pos rfl]; exact j8 k hk
            by_cases c5 : inB (d_rv (dr (cl x))) mc = true
            · rw [if_pos c5]
              refine j_ask_ok h bD c4 rfl rfl ⟨?_, hip⟩ 0
              show (if (if d_sh (dr (cl x)) ≤ key - key / 100 * 100 then (0 : Int32) else 1) = 0 then vl (md (cl (d_ch (dr (cl x))))).1 ip else vl (md (cl (d_rv (dr (cl x))))).1 ip) = (if (if (if d_sh (dr (cl x)) ≤ key - key / 100 * 100 then (0 : Int32) else 1) = 0 then d_ch (dr (cl x)) else d_rv (dr (cl x))) = d_ch (dr (cl x)) then vl (md (cl (d_ch (dr (cl x))))).1 ip else vl (md (cl (d_rv (dr (cl x))))).1 ip)
              have hne : ¬ d_rv (dr (cl x)) = d_ch (dr (cl x)) := (j9 _ (inB_lt bD)).2.1.2.2.2.elim (fun e => absurd e (inB_ne2 c5)) (fun e => e.2.1)
              generalize (if d_sh (dr (cl x)) ≤ key - key / 100 * 100 then (0 : Int32) else 1) = zz
              by_cases c6 : zz = 0
              · rw [if_pos c6, if_pos c6, if_pos rfl]
              · rw [if_neg c6, if_neg c6, if_neg hne]
            · rw [if_neg c5]
              refine j_ask_ok h bD c4 rfl rfl ⟨?_, hip⟩ 0
              show vl (md (cl (d_ch (dr (cl x))))).1 ip = (if d_ch (dr (cl x)) = d_ch (dr (cl x)) then vl (md (cl (d_ch (dr (cl x))))).1 ip else _)
              exact (if_pos rfl).symm
          · exact JK_mk j1 j2 j3 j4 j5 j6 j7 j8 j9 j10 j11
        · exact JK_mk j1 j2 j3 j4 j5 j6 j7 j8 (up1_all (R := fun i r => DYP r td ∧ DPl r mc ∧ DCt r i ac an) j9 ⟨DYP_o (j9 _ (inB_lt bD)).1, DPl_o (j9 _ (inB_lt bD)).2.1, DCt_o (j9 _ (inB_lt bD)).2.2⟩) j10 j11
      · exact JK_mk j1 j2 j3 j4 j5 j6 j7 j8 j9 j10 j11
    · exact JK_mk j1 j2 j3 j4 j5 j6 j7 j8 j9 j10 j11
  · exact JK_mk j1 j2 j3 j4 j5 j6 j7 j8 j9 j10 j11
theorem JK_0 : JK Z0 := ⟨⟨Nat.zero_le _, Nat.zero_le _, Nat.zero_le _, Nat.zero_le _, Nat.zero_le _, Nat.zero_le _, fun i hi => absurd hi (Nat.not_lt_zero _), fun k _ => by show in9 0; exact ⟨by decide, by decide⟩, fun i hi => absurd hi (Nat.not_lt_zero _), fun i hi => absurd hi (Nat.not_lt_zero _)⟩, fun j hj => absurd hj (Nat.not_lt_zero _)⟩
