theorem rel_till {σ μ : St} (h : Rel σ μ) (t limit : Int32) : (f_X3_till σ t limit).1 = (f_X4_till μ t limit).1 ∧ Rel (f_X3_till σ t limit).2 (f_X4_till μ t limit).2 := sorry
theorem rel_drop {σ μ : St} (h : Rel σ μ) (t : Int32) : (f_X3_drop σ t).1 = (f_X4_drop μ t).1 ∧ Rel (f_X3_drop σ t).2 (f_X4_drop μ t).2 := sorry
theorem rel_shut {σ μ : St} (h : Rel σ μ) (t is : Int32) : (f_X3_shut σ t is).1 = (f_X4_shut μ t is).1 ∧ Rel (f_X3_shut σ t is).2 (f_X4_shut μ t is).2 := sorry
theorem rel_put {σ μ : St} (h : Rel σ μ) (t kind n : Int32) : (f_X3_put σ t kind n).1 = (f_X4_put μ t kind n).1 ∧ Rel (f_X3_put σ t kind n).2 (f_X4_put μ t kind n).2 := sorry
theorem rel_take {σ μ : St} (h : Rel σ μ) (t worth : Int32) : (f_X3_take σ t worth).1 = (f_X4_take μ t worth).1 ∧ Rel (f_X3_take σ t worth).2 (f_X4_take μ t worth).2 := sorry
theorem rel_move {σ μ : St} (h : Rel σ μ) (a b worth back : Int32) : (f_X3_move σ a b worth back).1 = (f_X4_move μ a b worth back).1 ∧ Rel (f_X3_move σ a b worth back).2 (f_X4_move μ a b worth back).2 := sorry
theorem rel_pass {σ μ : St} (h : Rel σ μ) (row worth back : Int32) : (f_X3_pass σ row worth back).1 = (f_X4_pass μ row worth back).1 ∧ Rel (f_X3_pass σ row worth back).2 (f_X4_pass μ row worth back).2 := sorry
theorem rel_share {σ μ : St} (h : Rel σ μ) (a b kind : Int32) : (f_X3_share σ a b kind).1 = (f_X4_share μ a b kind).1 ∧ Rel (f_X3_share σ a b kind).2 (f_X4_share μ a b kind).2 := sorry
theorem rel_first {σ μ : St} (h : Rel σ μ) (worth : Int32) : (f_X3_first σ worth).1 = (f_X4_first μ worth).1 ∧ Rel (f_X3_first σ worth).2 (f_X4_first μ worth).2 := sorry
theorem rel_look {σ μ : St} (h : Rel σ μ) (t what : Int32) : (f_X3_look σ t what).1 = (f_X4_look μ t what).1 ∧ Rel (f_X3_look σ t what).2 (f_X4_look μ t what).2 := sorry
theorem rel_hand {σ μ : St} (h : Rel σ μ) (what : Int32) : (f_X3_hand σ what).1 = (f_X4_hand μ what).1 ∧ Rel (f_X3_hand σ what).2 (f_X4_hand μ what).2 := sorry
theorem rel_count {σ μ : St} (h : Rel σ μ) (what : Int32) : f_X3_count σ what = (f_X4_count μ what).1 ∧ Rel σ (f_X4_count μ what).2 := sorry
