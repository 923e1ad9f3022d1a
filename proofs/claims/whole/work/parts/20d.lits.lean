/-! figures -/
theorem lk_0 : (0 : Int32) = ii 0 := rfl
theorem lk_1 : (1 : Int32) = ii 1 := rfl
theorem lk_2 : (2 : Int32) = ii 2 := rfl
theorem lk_3 : (3 : Int32) = ii 3 := rfl
theorem lk_4 : (4 : Int32) = ii 4 := rfl
theorem lk_5 : (5 : Int32) = ii 5 := rfl
theorem lk_6 : (6 : Int32) = ii 6 := rfl
theorem lk_7 : (7 : Int32) = ii 7 := rfl
theorem lk_8 : (8 : Int32) = ii 8 := rfl
theorem lk_9 : (9 : Int32) = ii 9 := rfl
theorem lk_10 : (10 : Int32) = ii 10 := rfl
theorem lk_11 : (11 : Int32) = ii 11 := rfl
theorem lk_12 : (12 : Int32) = ii 12 := rfl
theorem lk_13 : (13 : Int32) = ii 13 := rfl
theorem lk_14 : (14 : Int32) = ii 14 := rfl
theorem lk_15 : (15 : Int32) = ii 15 := rfl
theorem lk_16 : (16 : Int32) = ii 16 := rfl
theorem lk_17 : (17 : Int32) = ii 17 := rfl
theorem lk_18 : (18 : Int32) = ii 18 := rfl
theorem lk_19 : (19 : Int32) = ii 19 := rfl
theorem lk_20 : (20 : Int32) = ii 20 := rfl
theorem lk_21 : (21 : Int32) = ii 21 := rfl
theorem lk_22 : (22 : Int32) = ii 22 := rfl
theorem lk_23 : (23 : Int32) = ii 23 := rfl
theorem lk_24 : (24 : Int32) = ii 24 := rfl
theorem lk_25 : (25 : Int32) = ii 25 := rfl
theorem lk_26 : (26 : Int32) = ii 26 := rfl
theorem lk_31 : (31 : Int32) = ii 31 := rfl
theorem lk_32 : (32 : Int32) = ii 32 := rfl
theorem lk_68 : (68 : Int32) = ii 68 := rfl
theorem lk_97 : (97 : Int32) = ii 97 := rfl
theorem lk_100 : (100 : Int32) = ii 100 := rfl
theorem lk_122 : (122 : Int32) = ii 122 := rfl
theorem lk_200 : (200 : Int32) = ii 200 := rfl
theorem lk_255 : (255 : Int32) = ii 255 := rfl
theorem lk_299 : (299 : Int32) = ii 299 := rfl
theorem lk_300 : (300 : Int32) = ii 300 := rfl
theorem lk_301 : (301 : Int32) = ii 301 := rfl
theorem lk_310 : (310 : Int32) = ii 310 := rfl
theorem lk_324 : (324 : Int32) = ii 324 := rfl
theorem lk_400 : (400 : Int32) = ii 400 := rfl
theorem lk_800 : (800 : Int32) = ii 800 := rfl
theorem lk_1000 : (1000 : Int32) = ii 1000 := rfl
theorem lk_1600 : (1600 : Int32) = ii 1600 := rfl
theorem lk_2000 : (2000 : Int32) = ii 2000 := rfl
theorem lk_10000 : (10000 : Int32) = ii 10000 := rfl
theorem bd_s {α β : Type} (a : α) (f : α → Option β) : (some a).bind f = f a := rfl
theorem ib_t {α : Type} {a n : Nat} (ha : a < 2147483648) (h : a < n) (x y : α) : (if ql_ib (ii a) n = true then x else y) = x := if_pos (ii_ib ha h)
theorem sp {α : Type} {c : Prop} {_ : Decidable c} {x y r : α} (h : c) (k : x = r) : (if c then x else y) = r := by rw [if_pos h]; exact k
theorem sn {α : Type} {c : Prop} {_ : Decidable c} {x y r : α} (h : ¬ c) (k : y = r) : (if c then x else y) = r := by rw [if_neg h]; exact k
theorem sb {α β : Type} {x : Option α} {a : α} {f : α → Option β} {r : Option β} (h : x = some a) (k : f a = r) : x.bind f = r := by rw [h]; exact k
theorem n10 : ¬ ii 1 = ii 0 := by decide
theorem n01 : ¬ ii 0 = ii 1 := by decide
