/-! the switches at numbers -/
theorem sw59_0 : pm_ts 242 (4) (21) #[92, 242, 100, 109, 122, 122, 130, 242, 92, 143, 242, 152, 161, 180, 212, 228, 143, 143] (nI 0) = some 242 := by decide
theorem sw59_1 : pm_ts 242 (4) (21) #[92, 242, 100, 109, 122, 122, 130, 242, 92, 143, 242, 152, 161, 180, 212, 228, 143, 143] (nI 1) = some 242 := by decide
theorem sw59_2 : pm_ts 242 (4) (21) #[92, 242, 100, 109, 122, 122, 130, 242, 92, 143, 242, 152, 161, 180, 212, 228, 143, 143] (nI 2) = some 242 := by decide
theorem sw59_3 : pm_ts 242 (4) (21) #[92, 242, 100, 109, 122, 122, 130, 242, 92, 143, 242, 152, 161, 180, 212, 228, 143, 143] (nI 3) = some 242 := by decide
theorem sw59_4 : pm_ts 242 (4) (21) #[92, 242, 100, 109, 122, 122, 130, 242, 92, 143, 242, 152, 161, 180, 212, 228, 143, 143] (nI 4) = some 92 := by decide
theorem sw59_5 : pm_ts 242 (4) (21) #[92, 242, 100, 109, 122, 122, 130, 242, 92, 143, 242, 152, 161, 180, 212, 228, 143, 143] (nI 5) = some 242 := by decide
theorem sw59_6 : pm_ts 242 (4) (21) #[92, 242, 100, 109, 122, 122, 130, 242, 92, 143, 242, 152, 161, 180, 212, 228, 143, 143] (nI 6) = some 100 := by decide
theorem sw59_7 : pm_ts 242 (4) (21) #[92, 242, 100, 109, 122, 122, 130, 242, 92, 143, 242, 152, 161, 180, 212, 228, 143, 143] (nI 7) = some 109 := by decide
theorem sw59_8 : pm_ts 242 (4) (21) #[92, 242, 100, 109, 122, 122, 130, 242, 92, 143, 242, 152, 161, 180, 212, 228, 143, 143] (nI 8) = some 122 := by decide
theorem sw59_9 : pm_ts 242 (4) (21) #[92, 242, 100, 109, 122, 122, 130, 242, 92, 143, 242, 152, 161, 180, 212, 228, 143, 143] (nI 9) = some 122 := by decide
theorem sw59_10 : pm_ts 242 (4) (21) #[92, 242, 100, 109, 122, 122, 130, 242, 92, 143, 242, 152, 161, 180, 212, 228, 143, 143] (nI 10) = some 130 := by decide
theorem sw59_11 : pm_ts 242 (4) (21) #[92, 242, 100, 109, 122, 122, 130, 242, 92, 143, 242, 152, 161, 180, 212, 228, 143, 143] (nI 11) = some 242 := by decide
theorem sw59_12 : pm_ts 242 (4) (21) #[92, 242, 100, 109, 122, 122, 130, 242, 92, 143, 242, 152, 161, 180, 212, 228, 143, 143] (nI 12) = some 92 := by decide
theorem sw59_13 : pm_ts 242 (4) (21) #[92, 242, 100, 109, 122, 122, 130, 242, 92, 143, 242, 152, 161, 180, 212, 228, 143, 143] (nI 13) = some 143 := by decide
theorem sw59_14 : pm_ts 242 (4) (21) #[92, 242, 100, 109, 122, 122, 130, 242, 92, 143, 242, 152, 161, 180, 212, 228, 143, 143] (nI 14) = some 242 := by decide
theorem sw59_15 : pm_ts 242 (4) (21) #[92, 242, 100, 109, 122, 122, 130, 242, 92, 143, 242, 152, 161, 180, 212, 228, 143, 143] (nI 15) = some 152 := by decide
theorem sw59_16 : pm_ts 242 (4) (21) #[92, 242, 100, 109, 122, 122, 130, 242, 92, 143, 242, 152, 161, 180, 212, 228, 143, 143] (nI 16) = some 161 := by decide
theorem sw59_17 : pm_ts 242 (4) (21) #[92, 242, 100, 109, 122, 122, 130, 242, 92, 143, 242, 152, 161, 180, 212, 228, 143, 143] (nI 17) = some 180 := by decide
theorem sw59_18 : pm_ts 242 (4) (21) #[92, 242, 100, 109, 122, 122, 130, 242, 92, 143, 242, 152, 161, 180, 212, 228, 143, 143] (nI 18) = some 212 := by decide
theorem sw59_19 : pm_ts 242 (4) (21) #[92, 242, 100, 109, 122, 122, 130, 242, 92, 143, 242, 152, 161, 180, 212, 228, 143, 143] (nI 19) = some 228 := by decide
theorem sw59_20 : pm_ts 242 (4) (21) #[92, 242, 100, 109, 122, 122, 130, 242, 92, 143, 242, 152, 161, 180, 212, 228, 143, 143] (nI 20) = some 143 := by decide
theorem sw59_21 : pm_ts 242 (4) (21) #[92, 242, 100, 109, 122, 122, 130, 242, 92, 143, 242, 152, 161, 180, 212, 228, 143, 143] (nI 21) = some 143 := by decide
theorem sw66_0 : Op.lookupswitch.offset [(4, 52), (6, 52), (14, 72), (15, 87)] 112 (nI 0).toInt = 112 := by decide
theorem sw66_1 : Op.lookupswitch.offset [(4, 52), (6, 52), (14, 72), (15, 87)] 112 (nI 1).toInt = 112 := by decide
theorem sw66_2 : Op.lookupswitch.offset [(4, 52), (6, 52), (14, 72), (15, 87)] 112 (nI 2).toInt = 112 := by decide
theorem sw66_3 : Op.lookupswitch.offset [(4, 52), (6, 52), (14, 72), (15, 87)] 112 (nI 3).toInt = 112 := by decide
theorem sw66_4 : Op.lookupswitch.offset [(4, 52), (6, 52), (14, 72), (15, 87)] 112 (nI 4).toInt = 52 := by decide
theorem sw66_5 : Op.lookupswitch.offset [(4, 52), (6, 52), (14, 72), (15, 87)] 112 (nI 5).toInt = 112 := by decide
theorem sw66_6 : Op.lookupswitch.offset [(4, 52), (6, 52), (14, 72), (15, 87)] 112 (nI 6).toInt = 52 := by decide
theorem sw66_7 : Op.lookupswitch.offset [(4, 52), (6, 52), (14, 72), (15, 87)] 112 (nI 7).toInt = 112 := by decide
theorem sw66_8 : Op.lookupswitch.offset [(4, 52), (6, 52), (14, 72), (15, 87)] 112 (nI 8).toInt = 112 := by decide
theorem sw66_9 : Op.lookupswitch.offset [(4, 52), (6, 52), (14, 72), (15, 87)] 112 (nI 9).toInt = 112 := by decide
theorem sw66_10 : Op.lookupswitch.offset [(4, 52), (6, 52), (14, 72), (15, 87)] 112 (nI 10).toInt = 112 := by decide
theorem sw66_11 : Op.lookupswitch.offset [(4, 52), (6, 52), (14, 72), (15, 87)] 112 (nI 11).toInt = 112 := by decide
theorem sw66_12 : Op.lookupswitch.offset [(4, 52), (6, 52), (14, 72), (15, 87)] 112 (nI 12).toInt = 112 := by decide
theorem sw66_13 : Op.lookupswitch.offset [(4, 52), (6, 52), (14, 72), (15, 87)] 112 (nI 13).toInt = 112 := by decide
theorem sw66_14 : Op.lookupswitch.offset [(4, 52), (6, 52), (14, 72), (15, 87)] 112 (nI 14).toInt = 72 := by decide
theorem sw66_15 : Op.lookupswitch.offset [(4, 52), (6, 52), (14, 72), (15, 87)] 112 (nI 15).toInt = 87 := by decide
theorem sw66_16 : Op.lookupswitch.offset [(4, 52), (6, 52), (14, 72), (15, 87)] 112 (nI 16).toInt = 112 := by decide
theorem sw66_17 : Op.lookupswitch.offset [(4, 52), (6, 52), (14, 72), (15, 87)] 112 (nI 17).toInt = 112 := by decide
theorem sw66_18 : Op.lookupswitch.offset [(4, 52), (6, 52), (14, 72), (15, 87)] 112 (nI 18).toInt = 112 := by decide
theorem sw66_19 : Op.lookupswitch.offset [(4, 52), (6, 52), (14, 72), (15, 87)] 112 (nI 19).toInt = 112 := by decide
theorem sw66_20 : Op.lookupswitch.offset [(4, 52), (6, 52), (14, 72), (15, 87)] 112 (nI 20).toInt = 112 := by decide
theorem sw66_21 : Op.lookupswitch.offset [(4, 52), (6, 52), (14, 72), (15, 87)] 112 (nI 21).toInt = 112 := by decide
theorem sw67_0 : pm_ts 280 (1) (20) #[112, 123, 112, 280, 134, 280, 112, 280, 154, 173, 280, 280, 280, 192, 280, 206, 280, 226, 280, 265] (nI 0) = some 280 := by decide
theorem sw67_1 : pm_ts 280 (1) (20) #[112, 123, 112, 280, 134, 280, 112, 280, 154, 173, 280, 280, 280, 192, 280, 206, 280, 226, 280, 265] (nI 1) = some 112 := by decide
theorem sw67_2 : pm_ts 280 (1) (20) #[112, 123, 112, 280, 134, 280, 112, 280, 154, 173, 280, 280, 280, 192, 280, 206, 280, 226, 280, 265] (nI 2) = some 123 := by decide
theorem sw67_3 : pm_ts 280 (1) (20) #[112, 123, 112, 280, 134, 280, 112, 280, 154, 173, 280, 280, 280, 192, 280, 206, 280, 226, 280, 265] (nI 3) = some 112 := by decide
theorem sw67_4 : pm_ts 280 (1) (20) #[112, 123, 112, 280, 134, 280, 112, 280, 154, 173, 280, 280, 280, 192, 280, 206, 280, 226, 280, 265] (nI 4) = some 280 := by decide
theorem sw67_5 : pm_ts 280 (1) (20) #[112, 123, 112, 280, 134, 280, 112, 280, 154, 173, 280, 280, 280, 192, 280, 206, 280, 226, 280, 265] (nI 5) = some 134 := by decide
theorem sw67_6 : pm_ts 280 (1) (20) #[112, 123, 112, 280, 134, 280, 112, 280, 154, 173, 280, 280, 280, 192, 280, 206, 280, 226, 280, 265] (nI 6) = some 280 := by decide
theorem sw67_7 : pm_ts 280 (1) (20) #[112, 123, 112, 280, 134, 280, 112, 280, 154, 173, 280, 280, 280, 192, 280, 206, 280, 226, 280, 265] (nI 7) = some 112 := by decide
theorem sw67_8 : pm_ts 280 (1) (20) #[112, 123, 112, 280, 134, 280, 112, 280, 154, 173, 280, 280, 280, 192, 280, 206, 280, 226, 280, 265] (nI 8) = some 280 := by decide
theorem sw67_9 : pm_ts 280 (1) (20) #[112, 123, 112, 280, 134, 280, 112, 280, 154, 173, 280, 280, 280, 192, 280, 206, 280, 226, 280, 265] (nI 9) = some 154 := by decide
theorem sw67_10 : pm_ts 280 (1) (20) #[112, 123, 112, 280, 134, 280, 112, 280, 154, 173, 280, 280, 280, 192, 280, 206, 280, 226, 280, 265] (nI 10) = some 173 := by decide
theorem sw67_11 : pm_ts 280 (1) (20) #[112, 123, 112, 280, 134, 280, 112, 280, 154, 173, 280, 280, 280, 192, 280, 206, 280, 226, 280, 265] (nI 11) = some 280 := by decide
theorem sw67_12 : pm_ts 280 (1) (20) #[112, 123, 112, 280, 134, 280, 112, 280, 154, 173, 280, 280, 280, 192, 280, 206, 280, 226, 280, 265] (nI 12) = some 280 := by decide
theorem sw67_13 : pm_ts 280 (1) (20) #[112, 123, 112, 280, 134, 280, 112, 280, 154, 173, 280, 280, 280, 192, 280, 206, 280, 226, 280, 265] (nI 13) = some 280 := by decide
theorem sw67_14 : pm_ts 280 (1) (20) #[112, 123, 112, 280, 134, 280, 112, 280, 154, 173, 280, 280, 280, 192, 280, 206, 280, 226, 280, 265] (nI 14) = some 192 := by decide
theorem sw67_15 : pm_ts 280 (1) (20) #[112, 123, 112, 280, 134, 280, 112, 280, 154, 173, 280, 280, 280, 192, 280, 206, 280, 226, 280, 265] (nI 15) = some 280 := by decide
theorem sw67_16 : pm_ts 280 (1) (20) #[112, 123, 112, 280, 134, 280, 112, 280, 154, 173, 280, 280, 280, 192, 280, 206, 280, 226, 280, 265] (nI 16) = some 206 := by decide
theorem sw67_17 : pm_ts 280 (1) (20) #[112, 123, 112, 280, 134, 280, 112, 280, 154, 173, 280, 280, 280, 192, 280, 206, 280, 226, 280, 265] (nI 17) = some 280 := by decide
theorem sw67_18 : pm_ts 280 (1) (20) #[112, 123, 112, 280, 134, 280, 112, 280, 154, 173, 280, 280, 280, 192, 280, 206, 280, 226, 280, 265] (nI 18) = some 226 := by decide
theorem sw67_19 : pm_ts 280 (1) (20) #[112, 123, 112, 280, 134, 280, 112, 280, 154, 173, 280, 280, 280, 192, 280, 206, 280, 226, 280, 265] (nI 19) = some 280 := by decide
theorem sw67_20 : pm_ts 280 (1) (20) #[112, 123, 112, 280, 134, 280, 112, 280, 154, 173, 280, 280, 280, 192, 280, 206, 280, 226, 280, 265] (nI 20) = some 265 := by decide
theorem sw67_21 : pm_ts 280 (1) (20) #[112, 123, 112, 280, 134, 280, 112, 280, 154, 173, 280, 280, 280, 192, 280, 206, 280, 226, 280, 265] (nI 21) = some 280 := by decide
theorem sw142_0 : pm_ts 112 (4) (21) #[88, 112, 88, 90, 88, 88, 90, 112, 88, 88, 112, 88, 88, 90, 92, 99, 88, 88] (nI 0) = some 112 := by decide
theorem sw142_1 : pm_ts 112 (4) (21) #[88, 112, 88, 90, 88, 88, 90, 112, 88, 88, 112, 88, 88, 90, 92, 99, 88, 88] (nI 1) = some 112 := by decide
theorem sw142_2 : pm_ts 112 (4) (21) #[88, 112, 88, 90, 88, 88, 90, 112, 88, 88, 112, 88, 88, 90, 92, 99, 88, 88] (nI 2) = some 112 := by decide
theorem sw142_3 : pm_ts 112 (4) (21) #[88, 112, 88, 90, 88, 88, 90, 112, 88, 88, 112, 88, 88, 90, 92, 99, 88, 88] (nI 3) = some 112 := by decide
theorem sw142_4 : pm_ts 112 (4) (21) #[88, 112, 88, 90, 88, 88, 90, 112, 88, 88, 112, 88, 88, 90, 92, 99, 88, 88] (nI 4) = some 88 := by decide
theorem sw142_5 : pm_ts 112 (4) (21) #[88, 112, 88, 90, 88, 88, 90, 112, 88, 88, 112, 88, 88, 90, 92, 99, 88, 88] (nI 5) = some 112 := by decide
theorem sw142_6 : pm_ts 112 (4) (21) #[88, 112, 88, 90, 88, 88, 90, 112, 88, 88, 112, 88, 88, 90, 92, 99, 88, 88] (nI 6) = some 88 := by decide
theorem sw142_7 : pm_ts 112 (4) (21) #[88, 112, 88, 90, 88, 88, 90, 112, 88, 88, 112, 88, 88, 90, 92, 99, 88, 88] (nI 7) = some 90 := by decide
theorem sw142_8 : pm_ts 112 (4) (21) #[88, 112, 88, 90, 88, 88, 90, 112, 88, 88, 112, 88, 88, 90, 92, 99, 88, 88] (nI 8) = some 88 := by decide
theorem sw142_9 : pm_ts 112 (4) (21) #[88, 112, 88, 90, 88, 88, 90, 112, 88, 88, 112, 88, 88, 90, 92, 99, 88, 88] (nI 9) = some 88 := by decide
theorem sw142_10 : pm_ts 112 (4) (21) #[88, 112, 88, 90, 88, 88, 90, 112, 88, 88, 112, 88, 88, 90, 92, 99, 88, 88] (nI 10) = some 90 := by decide
theorem sw142_11 : pm_ts 112 (4) (21) #[88, 112, 88, 90, 88, 88, 90, 112, 88, 88, 112, 88, 88, 90, 92, 99, 88, 88] (nI 11) = some 112 := by decide
theorem sw142_12 : pm_ts 112 (4) (21) #[88, 112, 88, 90, 88, 88, 90, 112, 88, 88, 112, 88, 88, 90, 92, 99, 88, 88] (nI 12) = some 88 := by decide
theorem sw142_13 : pm_ts 112 (4) (21) #[88, 112, 88, 90, 88, 88, 90, 112, 88, 88, 112, 88, 88, 90, 92, 99, 88, 88] (nI 13) = some 88 := by decide
theorem sw142_14 : pm_ts 112 (4) (21) #[88, 112, 88, 90, 88, 88, 90, 112, 88, 88, 112, 88, 88, 90, 92, 99, 88, 88] (nI 14) = some 112 := by decide
theorem sw142_15 : pm_ts 112 (4) (21) #[88, 112, 88, 90, 88, 88, 90, 112, 88, 88, 112, 88, 88, 90, 92, 99, 88, 88] (nI 15) = some 88 := by decide
theorem sw142_16 : pm_ts 112 (4) (21) #[88, 112, 88, 90, 88, 88, 90, 112, 88, 88, 112, 88, 88, 90, 92, 99, 88, 88] (nI 16) = some 88 := by decide
theorem sw142_17 : pm_ts 112 (4) (21) #[88, 112, 88, 90, 88, 88, 90, 112, 88, 88, 112, 88, 88, 90, 92, 99, 88, 88] (nI 17) = some 90 := by decide
theorem sw142_18 : pm_ts 112 (4) (21) #[88, 112, 88, 90, 88, 88, 90, 112, 88, 88, 112, 88, 88, 90, 92, 99, 88, 88] (nI 18) = some 92 := by decide
theorem sw142_19 : pm_ts 112 (4) (21) #[88, 112, 88, 90, 88, 88, 90, 112, 88, 88, 112, 88, 88, 90, 92, 99, 88, 88] (nI 19) = some 99 := by decide
theorem sw142_20 : pm_ts 112 (4) (21) #[88, 112, 88, 90, 88, 88, 90, 112, 88, 88, 112, 88, 88, 90, 92, 99, 88, 88] (nI 20) = some 88 := by decide
theorem sw142_21 : pm_ts 112 (4) (21) #[88, 112, 88, 90, 88, 88, 90, 112, 88, 88, 112, 88, 88, 90, 92, 99, 88, 88] (nI 21) = some 88 := by decide
theorem sw144_0 : pm_ts 339 (3) (21) #[92, 138, 108, 153, 181, 339, 339, 339, 339, 138, 205, 214, 231, 240, 259, 304, 310, 205, 205] (nI 0) = some 339 := by decide
theorem sw144_1 : pm_ts 339 (3) (21) #[92, 138, 108, 153, 181, 339, 339, 339, 339, 138, 205, 214, 231, 240, 259, 304, 310, 205, 205] (nI 1) = some 339 := by decide
theorem sw144_2 : pm_ts 339 (3) (21) #[92, 138, 108, 153, 181, 339, 339, 339, 339, 138, 205, 214, 231, 240, 259, 304, 310, 205, 205] (nI 2) = some 339 := by decide
theorem sw144_3 : pm_ts 339 (3) (21) #[92, 138, 108, 153, 181, 339, 339, 339, 339, 138, 205, 214, 231, 240, 259, 304, 310, 205, 205] (nI 3) = some 92 := by decide
theorem sw144_4 : pm_ts 339 (3) (21) #[92, 138, 108, 153, 181, 339, 339, 339, 339, 138, 205, 214, 231, 240, 259, 304, 310, 205, 205] (nI 4) = some 138 := by decide
theorem sw144_5 : pm_ts 339 (3) (21) #[92, 138, 108, 153, 181, 339, 339, 339, 339, 138, 205, 214, 231, 240, 259, 304, 310, 205, 205] (nI 5) = some 108 := by decide
theorem sw144_6 : pm_ts 339 (3) (21) #[92, 138, 108, 153, 181, 339, 339, 339, 339, 138, 205, 214, 231, 240, 259, 304, 310, 205, 205] (nI 6) = some 153 := by decide
theorem sw144_7 : pm_ts 339 (3) (21) #[92, 138, 108, 153, 181, 339, 339, 339, 339, 138, 205, 214, 231, 240, 259, 304, 310, 205, 205] (nI 7) = some 181 := by decide
theorem sw144_8 : pm_ts 339 (3) (21) #[92, 138, 108, 153, 181, 339, 339, 339, 339, 138, 205, 214, 231, 240, 259, 304, 310, 205, 205] (nI 8) = some 339 := by decide
theorem sw144_9 : pm_ts 339 (3) (21) #[92, 138, 108, 153, 181, 339, 339, 339, 339, 138, 205, 214, 231, 240, 259, 304, 310, 205, 205] (nI 9) = some 339 := by decide
theorem sw144_10 : pm_ts 339 (3) (21) #[92, 138, 108, 153, 181, 339, 339, 339, 339, 138, 205, 214, 231, 240, 259, 304, 310, 205, 205] (nI 10) = some 339 := by decide
theorem sw144_11 : pm_ts 339 (3) (21) #[92, 138, 108, 153, 181, 339, 339, 339, 339, 138, 205, 214, 231, 240, 259, 304, 310, 205, 205] (nI 11) = some 339 := by decide
theorem sw144_12 : pm_ts 339 (3) (21) #[92, 138, 108, 153, 181, 339, 339, 339, 339, 138, 205, 214, 231, 240, 259, 304, 310, 205, 205] (nI 12) = some 138 := by decide
theorem sw144_13 : pm_ts 339 (3) (21) #[92, 138, 108, 153, 181, 339, 339, 339, 339, 138, 205, 214, 231, 240, 259, 304, 310, 205, 205] (nI 13) = some 205 := by decide
theorem sw144_14 : pm_ts 339 (3) (21) #[92, 138, 108, 153, 181, 339, 339, 339, 339, 138, 205, 214, 231, 240, 259, 304, 310, 205, 205] (nI 14) = some 214 := by decide
theorem sw144_15 : pm_ts 339 (3) (21) #[92, 138, 108, 153, 181, 339, 339, 339, 339, 138, 205, 214, 231, 240, 259, 304, 310, 205, 205] (nI 15) = some 231 := by decide
theorem sw144_16 : pm_ts 339 (3) (21) #[92, 138, 108, 153, 181, 339, 339, 339, 339, 138, 205, 214, 231, 240, 259, 304, 310, 205, 205] (nI 16) = some 240 := by decide
theorem sw144_17 : pm_ts 339 (3) (21) #[92, 138, 108, 153, 181, 339, 339, 339, 339, 138, 205, 214, 231, 240, 259, 304, 310, 205, 205] (nI 17) = some 259 := by decide
theorem sw144_18 : pm_ts 339 (3) (21) #[92, 138, 108, 153, 181, 339, 339, 339, 339, 138, 205, 214, 231, 240, 259, 304, 310, 205, 205] (nI 18) = some 304 := by decide
theorem sw144_19 : pm_ts 339 (3) (21) #[92, 138, 108, 153, 181, 339, 339, 339, 339, 138, 205, 214, 231, 240, 259, 304, 310, 205, 205] (nI 19) = some 310 := by decide
theorem sw144_20 : pm_ts 339 (3) (21) #[92, 138, 108, 153, 181, 339, 339, 339, 339, 138, 205, 214, 231, 240, 259, 304, 310, 205, 205] (nI 20) = some 205 := by decide
theorem sw144_21 : pm_ts 339 (3) (21) #[92, 138, 108, 153, 181, 339, 339, 339, 339, 138, 205, 214, 231, 240, 259, 304, 310, 205, 205] (nI 21) = some 205 := by decide
theorem sw147_0 : pm_ts 115 (1) (20) #[96, 96, 96, 115, 96, 115, 96, 115, 98, 98, 115, 115, 115, 96, 115, 96, 115, 100, 115, 96] (nI 0) = some 115 := by decide
theorem sw147_1 : pm_ts 115 (1) (20) #[96, 96, 96, 115, 96, 115, 96, 115, 98, 98, 115, 115, 115, 96, 115, 96, 115, 100, 115, 96] (nI 1) = some 96 := by decide
theorem sw147_2 : pm_ts 115 (1) (20) #[96, 96, 96, 115, 96, 115, 96, 115, 98, 98, 115, 115, 115, 96, 115, 96, 115, 100, 115, 96] (nI 2) = some 96 := by decide
theorem sw147_3 : pm_ts 115 (1) (20) #[96, 96, 96, 115, 96, 115, 96, 115, 98, 98, 115, 115, 115, 96, 115, 96, 115, 100, 115, 96] (nI 3) = some 96 := by decide
theorem sw147_4 : pm_ts 115 (1) (20) #[96, 96, 96, 115, 96, 115, 96, 115, 98, 98, 115, 115, 115, 96, 115, 96, 115, 100, 115, 96] (nI 4) = some 115 := by decide
theorem sw147_5 : pm_ts 115 (1) (20) #[96, 96, 96, 115, 96, 115, 96, 115, 98, 98, 115, 115, 115, 96, 115, 96, 115, 100, 115, 96] (nI 5) = some 96 := by decide
theorem sw147_6 : pm_ts 115 (1) (20) #[96, 96, 96, 115, 96, 115, 96, 115, 98, 98, 115, 115, 115, 96, 115, 96, 115, 100, 115, 96] (nI 6) = some 115 := by decide
theorem sw147_7 : pm_ts 115 (1) (20) #[96, 96, 96, 115, 96, 115, 96, 115, 98, 98, 115, 115, 115, 96, 115, 96, 115, 100, 115, 96] (nI 7) = some 96 := by decide
theorem sw147_8 : pm_ts 115 (1) (20) #[96, 96, 96, 115, 96, 115, 96, 115, 98, 98, 115, 115, 115, 96, 115, 96, 115, 100, 115, 96] (nI 8) = some 115 := by decide
theorem sw147_9 : pm_ts 115 (1) (20) #[96, 96, 96, 115, 96, 115, 96, 115, 98, 98, 115, 115, 115, 96, 115, 96, 115, 100, 115, 96] (nI 9) = some 98 := by decide
theorem sw147_10 : pm_ts 115 (1) (20) #[96, 96, 96, 115, 96, 115, 96, 115, 98, 98, 115, 115, 115, 96, 115, 96, 115, 100, 115, 96] (nI 10) = some 98 := by decide
theorem sw147_11 : pm_ts 115 (1) (20) #[96, 96, 96, 115, 96, 115, 96, 115, 98, 98, 115, 115, 115, 96, 115, 96, 115, 100, 115, 96] (nI 11) = some 115 := by decide
theorem sw147_12 : pm_ts 115 (1) (20) #[96, 96, 96, 115, 96, 115, 96, 115, 98, 98, 115, 115, 115, 96, 115, 96, 115, 100, 115, 96] (nI 12) = some 115 := by decide
theorem sw147_13 : pm_ts 115 (1) (20) #[96, 96, 96, 115, 96, 115, 96, 115, 98, 98, 115, 115, 115, 96, 115, 96, 115, 100, 115, 96] (nI 13) = some 115 := by decide
theorem sw147_14 : pm_ts 115 (1) (20) #[96, 96, 96, 115, 96, 115, 96, 115, 98, 98, 115, 115, 115, 96, 115, 96, 115, 100, 115, 96] (nI 14) = some 96 := by decide
theorem sw147_15 : pm_ts 115 (1) (20) #[96, 96, 96, 115, 96, 115, 96, 115, 98, 98, 115, 115, 115, 96, 115, 96, 115, 100, 115, 96] (nI 15) = some 115 := by decide
theorem sw147_16 : pm_ts 115 (1) (20) #[96, 96, 96, 115, 96, 115, 96, 115, 98, 98, 115, 115, 115, 96, 115, 96, 115, 100, 115, 96] (nI 16) = some 96 := by decide
theorem sw147_17 : pm_ts 115 (1) (20) #[96, 96, 96, 115, 96, 115, 96, 115, 98, 98, 115, 115, 115, 96, 115, 96, 115, 100, 115, 96] (nI 17) = some 115 := by decide
theorem sw147_18 : pm_ts 115 (1) (20) #[96, 96, 96, 115, 96, 115, 96, 115, 98, 98, 115, 115, 115, 96, 115, 96, 115, 100, 115, 96] (nI 18) = some 100 := by decide
theorem sw147_19 : pm_ts 115 (1) (20) #[96, 96, 96, 115, 96, 115, 96, 115, 98, 98, 115, 115, 115, 96, 115, 96, 115, 100, 115, 96] (nI 19) = some 115 := by decide
theorem sw147_20 : pm_ts 115 (1) (20) #[96, 96, 96, 115, 96, 115, 96, 115, 98, 98, 115, 115, 115, 96, 115, 96, 115, 100, 115, 96] (nI 20) = some 96 := by decide
theorem sw147_21 : pm_ts 115 (1) (20) #[96, 96, 96, 115, 96, 115, 96, 115, 98, 98, 115, 115, 115, 96, 115, 96, 115, 100, 115, 96] (nI 21) = some 115 := by decide
theorem sw150_0 : pm_ts 322 (1) (20) #[152, 160, 152, 168, 178, 191, 152, 322, 202, 217, 322, 322, 322, 232, 252, 276, 322, 289, 322, 311] (nI 0) = some 322 := by decide
theorem sw150_1 : pm_ts 322 (1) (20) #[152, 160, 152, 168, 178, 191, 152, 322, 202, 217, 322, 322, 322, 232, 252, 276, 322, 289, 322, 311] (nI 1) = some 152 := by decide
theorem sw150_2 : pm_ts 322 (1) (20) #[152, 160, 152, 168, 178, 191, 152, 322, 202, 217, 322, 322, 322, 232, 252, 276, 322, 289, 322, 311] (nI 2) = some 160 := by decide
theorem sw150_3 : pm_ts 322 (1) (20) #[152, 160, 152, 168, 178, 191, 152, 322, 202, 217, 322, 322, 322, 232, 252, 276, 322, 289, 322, 311] (nI 3) = some 152 := by decide
theorem sw150_4 : pm_ts 322 (1) (20) #[152, 160, 152, 168, 178, 191, 152, 322, 202, 217, 322, 322, 322, 232, 252, 276, 322, 289, 322, 311] (nI 4) = some 168 := by decide
theorem sw150_5 : pm_ts 322 (1) (20) #[152, 160, 152, 168, 178, 191, 152, 322, 202, 217, 322, 322, 322, 232, 252, 276, 322, 289, 322, 311] (nI 5) = some 178 := by decide
theorem sw150_6 : pm_ts 322 (1) (20) #[152, 160, 152, 168, 178, 191, 152, 322, 202, 217, 322, 322, 322, 232, 252, 276, 322, 289, 322, 311] (nI 6) = some 191 := by decide
theorem sw150_7 : pm_ts 322 (1) (20) #[152, 160, 152, 168, 178, 191, 152, 322, 202, 217, 322, 322, 322, 232, 252, 276, 322, 289, 322, 311] (nI 7) = some 152 := by decide
theorem sw150_8 : pm_ts 322 (1) (20) #[152, 160, 152, 168, 178, 191, 152, 322, 202, 217, 322, 322, 322, 232, 252, 276, 322, 289, 322, 311] (nI 8) = some 322 := by decide
theorem sw150_9 : pm_ts 322 (1) (20) #[152, 160, 152, 168, 178, 191, 152, 322, 202, 217, 322, 322, 322, 232, 252, 276, 322, 289, 322, 311] (nI 9) = some 202 := by decide
theorem sw150_10 : pm_ts 322 (1) (20) #[152, 160, 152, 168, 178, 191, 152, 322, 202, 217, 322, 322, 322, 232, 252, 276, 322, 289, 322, 311] (nI 10) = some 217 := by decide
theorem sw150_11 : pm_ts 322 (1) (20) #[152, 160, 152, 168, 178, 191, 152, 322, 202, 217, 322, 322, 322, 232, 252, 276, 322, 289, 322, 311] (nI 11) = some 322 := by decide
theorem sw150_12 : pm_ts 322 (1) (20) #[152, 160, 152, 168, 178, 191, 152, 322, 202, 217, 322, 322, 322, 232, 252, 276, 322, 289, 322, 311] (nI 12) = some 322 := by decide
theorem sw150_13 : pm_ts 322 (1) (20) #[152, 160, 152, 168, 178, 191, 152, 322, 202, 217, 322, 322, 322, 232, 252, 276, 322, 289, 322, 311] (nI 13) = some 322 := by decide
theorem sw150_14 : pm_ts 322 (1) (20) #[152, 160, 152, 168, 178, 191, 152, 322, 202, 217, 322, 322, 322, 232, 252, 276, 322, 289, 322, 311] (nI 14) = some 232 := by decide
theorem sw150_15 : pm_ts 322 (1) (20) #[152, 160, 152, 168, 178, 191, 152, 322, 202, 217, 322, 322, 322, 232, 252, 276, 322, 289, 322, 311] (nI 15) = some 252 := by decide
theorem sw150_16 : pm_ts 322 (1) (20) #[152, 160, 152, 168, 178, 191, 152, 322, 202, 217, 322, 322, 322, 232, 252, 276, 322, 289, 322, 311] (nI 16) = some 276 := by decide
theorem sw150_17 : pm_ts 322 (1) (20) #[152, 160, 152, 168, 178, 191, 152, 322, 202, 217, 322, 322, 322, 232, 252, 276, 322, 289, 322, 311] (nI 17) = some 322 := by decide
theorem sw150_18 : pm_ts 322 (1) (20) #[152, 160, 152, 168, 178, 191, 152, 322, 202, 217, 322, 322, 322, 232, 252, 276, 322, 289, 322, 311] (nI 18) = some 289 := by decide
theorem sw150_19 : pm_ts 322 (1) (20) #[152, 160, 152, 168, 178, 191, 152, 322, 202, 217, 322, 322, 322, 232, 252, 276, 322, 289, 322, 311] (nI 19) = some 322 := by decide
theorem sw150_20 : pm_ts 322 (1) (20) #[152, 160, 152, 168, 178, 191, 152, 322, 202, 217, 322, 322, 322, 232, 252, 276, 322, 289, 322, 311] (nI 20) = some 311 := by decide
theorem sw150_21 : pm_ts 322 (1) (20) #[152, 160, 152, 168, 178, 191, 152, 322, 202, 217, 322, 322, 322, 232, 252, 276, 322, 289, 322, 311] (nI 21) = some 322 := by decide
theorem tt59_6_92 (ol : pm_O) (orc : pm_Q) (x0 : Nat) (x2 : Int32) (h : pm_H) : pm_F ol orc 59 92 [(0, .ref x0), (2, .int x2)] [] h = pm_F ol orc 59 92 [(0, .ref x0)] [] h := pm_F_live rfl
theorem tt59_6_100 (ol : pm_O) (orc : pm_Q) (x0 : Nat) (x2 : Int32) (h : pm_H) : pm_F ol orc 59 100 [(0, .ref x0), (2, .int x2)] [] h = pm_F ol orc 59 100 [(0, .ref x0)] [] h := pm_F_live rfl
theorem tt59_6_109 (ol : pm_O) (orc : pm_Q) (x0 : Nat) (x2 : Int32) (h : pm_H) : pm_F ol orc 59 109 [(0, .ref x0), (2, .int x2)] [] h = pm_F ol orc 59 109 [(0, .ref x0)] [] h := pm_F_live rfl
theorem tt59_6_122 (ol : pm_O) (orc : pm_Q) (x0 : Nat) (x2 : Int32) (h : pm_H) : pm_F ol orc 59 122 [(0, .ref x0), (2, .int x2)] [] h = pm_F ol orc 59 122 [(0, .ref x0)] [] h := pm_F_live rfl
theorem tt59_6_130 (ol : pm_O) (orc : pm_Q) (x0 : Nat) (x2 : Int32) (h : pm_H) : pm_F ol orc 59 130 [(0, .ref x0), (2, .int x2)] [] h = pm_F ol orc 59 130 [(0, .ref x0)] [] h := pm_F_live rfl
theorem tt59_6_143 (ol : pm_O) (orc : pm_Q) (x0 : Nat) (x2 : Int32) (h : pm_H) : pm_F ol orc 59 143 [(0, .ref x0), (2, .int x2)] [] h = pm_F ol orc 59 143 [(0, .ref x0)] [] h := pm_F_live rfl
theorem tt59_6_152 (ol : pm_O) (orc : pm_Q) (x0 : Nat) (x2 : Int32) (h : pm_H) : pm_F ol orc 59 152 [(0, .ref x0), (2, .int x2)] [] h = pm_F ol orc 59 152 [(0, .ref x0)] [] h := pm_F_live rfl
theorem tt59_6_161 (ol : pm_O) (orc : pm_Q) (x0 : Nat) (x2 : Int32) (h : pm_H) : pm_F ol orc 59 161 [(0, .ref x0), (2, .int x2)] [] h = pm_F ol orc 59 161 [(0, .ref x0), (2, .int x2)] [] h := pm_F_live rfl
theorem tt59_6_180 (ol : pm_O) (orc : pm_Q) (x0 : Nat) (x2 : Int32) (h : pm_H) : pm_F ol orc 59 180 [(0, .ref x0), (2, .int x2)] [] h = pm_F ol orc 59 180 [(0, .ref x0), (2, .int x2)] [] h := pm_F_live rfl
theorem tt59_6_212 (ol : pm_O) (orc : pm_Q) (x0 : Nat) (x2 : Int32) (h : pm_H) : pm_F ol orc 59 212 [(0, .ref x0), (2, .int x2)] [] h = pm_F ol orc 59 212 [(0, .ref x0), (2, .int x2)] [] h := pm_F_live rfl
theorem tt59_6_228 (ol : pm_O) (orc : pm_Q) (x0 : Nat) (x2 : Int32) (h : pm_H) : pm_F ol orc 59 228 [(0, .ref x0), (2, .int x2)] [] h = pm_F ol orc 59 228 [(0, .ref x0)] [] h := pm_F_live rfl
theorem tt59_6_242 (ol : pm_O) (orc : pm_Q) (x0 : Nat) (x2 : Int32) (h : pm_H) : pm_F ol orc 59 242 [(0, .ref x0), (2, .int x2)] [] h = pm_F ol orc 59 242 [] [] h := pm_F_live rfl
theorem tt66_8_52 (ol : pm_O) (orc : pm_Q) (x0 : Nat) (x1 : Int32) (x2 : Int32) (h : pm_H) : pm_F ol orc 66 52 [(0, .ref x0), (1, .int x1), (2, .int x2)] [] h = pm_F ol orc 66 52 [(0, .ref x0), (1, .int x1), (2, .int x2)] [] h := pm_F_live rfl
theorem tt66_8_72 (ol : pm_O) (orc : pm_Q) (x0 : Nat) (x1 : Int32) (x2 : Int32) (h : pm_H) : pm_F ol orc 66 72 [(0, .ref x0), (1, .int x1), (2, .int x2)] [] h = pm_F ol orc 66 72 [(0, .ref x0), (1, .int x1)] [] h := pm_F_live rfl
theorem tt66_8_87 (ol : pm_O) (orc : pm_Q) (x0 : Nat) (x1 : Int32) (x2 : Int32) (h : pm_H) : pm_F ol orc 66 87 [(0, .ref x0), (1, .int x1), (2, .int x2)] [] h = pm_F ol orc 66 87 [(0, .ref x0), (2, .int x2)] [] h := pm_F_live rfl
theorem tt66_8_112 (ol : pm_O) (orc : pm_Q) (x0 : Nat) (x1 : Int32) (x2 : Int32) (h : pm_H) : pm_F ol orc 66 112 [(0, .ref x0), (1, .int x1), (2, .int x2)] [] h = pm_F ol orc 66 112 [] [] h := pm_F_live rfl
theorem tt67_18_112 (ol : pm_O) (orc : pm_Q) (x0 : Nat) (x1 : Int32) (x2 : Int32) (x3 : Int32) (x4 : Int32) (h : pm_H) : pm_F ol orc 67 112 [(0, .ref x0), (1, .int x1), (2, .int x2), (3, .int x3), (4, .int x4)] [] h = pm_F ol orc 67 112 [(0, .ref x0)] [] h := pm_F_live rfl
theorem tt67_18_123 (ol : pm_O) (orc : pm_Q) (x0 : Nat) (x1 : Int32) (x2 : Int32) (x3 : Int32) (x4 : Int32) (h : pm_H) : pm_F ol orc 67 123 [(0, .ref x0), (1, .int x1), (2, .int x2), (3, .int x3), (4, .int x4)] [] h = pm_F ol orc 67 123 [(0, .ref x0)] [] h := pm_F_live rfl
theorem tt67_18_134 (ol : pm_O) (orc : pm_Q) (x0 : Nat) (x1 : Int32) (x2 : Int32) (x3 : Int32) (x4 : Int32) (h : pm_H) : pm_F ol orc 67 134 [(0, .ref x0), (1, .int x1), (2, .int x2), (3, .int x3), (4, .int x4)] [] h = pm_F ol orc 67 134 [(0, .ref x0), (4, .int x4)] [] h := pm_F_live rfl
theorem tt67_18_154 (ol : pm_O) (orc : pm_Q) (x0 : Nat) (x1 : Int32) (x2 : Int32) (x3 : Int32) (x4 : Int32) (h : pm_H) : pm_F ol orc 67 154 [(0, .ref x0), (1, .int x1), (2, .int x2), (3, .int x3), (4, .int x4)] [] h = pm_F ol orc 67 154 [(0, .ref x0), (2, .int x2)] [] h := pm_F_live rfl
theorem tt67_18_173 (ol : pm_O) (orc : pm_Q) (x0 : Nat) (x1 : Int32) (x2 : Int32) (x3 : Int32) (x4 : Int32) (h : pm_H) : pm_F ol orc 67 173 [(0, .ref x0), (1, .int x1), (2, .int x2), (3, .int x3), (4, .int x4)] [] h = pm_F ol orc 67 173 [(0, .ref x0), (2, .int x2), (3, .int x3)] [] h := pm_F_live rfl
theorem tt67_18_192 (ol : pm_O) (orc : pm_Q) (x0 : Nat) (x1 : Int32) (x2 : Int32) (x3 : Int32) (x4 : Int32) (h : pm_H) : pm_F ol orc 67 192 [(0, .ref x0), (1, .int x1), (2, .int x2), (3, .int x3), (4, .int x4)] [] h = pm_F ol orc 67 192 [(0, .ref x0), (1, .int x1)] [] h := pm_F_live rfl
theorem tt67_18_206 (ol : pm_O) (orc : pm_Q) (x0 : Nat) (x1 : Int32) (x2 : Int32) (x3 : Int32) (x4 : Int32) (h : pm_H) : pm_F ol orc 67 206 [(0, .ref x0), (1, .int x1), (2, .int x2), (3, .int x3), (4, .int x4)] [] h = pm_F ol orc 67 206 [(0, .ref x0), (4, .int x4)] [] h := pm_F_live rfl
theorem tt67_18_226 (ol : pm_O) (orc : pm_Q) (x0 : Nat) (x1 : Int32) (x2 : Int32) (x3 : Int32) (x4 : Int32) (h : pm_H) : pm_F ol orc 67 226 [(0, .ref x0), (1, .int x1), (2, .int x2), (3, .int x3), (4, .int x4)] [] h = pm_F ol orc 67 226 [(0, .ref x0), (4, .int x4)] [] h := pm_F_live rfl
theorem tt67_18_265 (ol : pm_O) (orc : pm_Q) (x0 : Nat) (x1 : Int32) (x2 : Int32) (x3 : Int32) (x4 : Int32) (h : pm_H) : pm_F ol orc 67 265 [(0, .ref x0), (1, .int x1), (2, .int x2), (3, .int x3), (4, .int x4)] [] h = pm_F ol orc 67 265 [(0, .ref x0), (4, .int x4)] [] h := pm_F_live rfl
theorem tt67_18_280 (ol : pm_O) (orc : pm_Q) (x0 : Nat) (x1 : Int32) (x2 : Int32) (x3 : Int32) (x4 : Int32) (h : pm_H) : pm_F ol orc 67 280 [(0, .ref x0), (1, .int x1), (2, .int x2), (3, .int x3), (4, .int x4)] [] h = pm_F ol orc 67 280 [] [] h := pm_F_live rfl
theorem tt142_1_88 (ol : pm_O) (orc : pm_Q) (x0 : Nat) (x2 : Int32) (h : pm_H) : pm_F ol orc 142 88 [(0, .ref x0), (2, .int x2)] [] h = pm_F ol orc 142 88 [] [] h := pm_F_live rfl
theorem tt142_1_90 (ol : pm_O) (orc : pm_Q) (x0 : Nat) (x2 : Int32) (h : pm_H) : pm_F ol orc 142 90 [(0, .ref x0), (2, .int x2)] [] h = pm_F ol orc 142 90 [] [] h := pm_F_live rfl
theorem tt142_1_92 (ol : pm_O) (orc : pm_Q) (x0 : Nat) (x2 : Int32) (h : pm_H) : pm_F ol orc 142 92 [(0, .ref x0), (2, .int x2)] [] h = pm_F ol orc 142 92 [(0, .ref x0), (2, .int x2)] [] h := pm_F_live rfl
theorem tt142_1_99 (ol : pm_O) (orc : pm_Q) (x0 : Nat) (x2 : Int32) (h : pm_H) : pm_F ol orc 142 99 [(0, .ref x0), (2, .int x2)] [] h = pm_F ol orc 142 99 [(0, .ref x0)] [] h := pm_F_live rfl
theorem tt142_1_112 (ol : pm_O) (orc : pm_Q) (x0 : Nat) (x2 : Int32) (h : pm_H) : pm_F ol orc 142 112 [(0, .ref x0), (2, .int x2)] [] h = pm_F ol orc 142 112 [] [] h := pm_F_live rfl
theorem tt144_1_92 (ol : pm_O) (orc : pm_Q) (x0 : Nat) (x2 : Int32) (x3 : Int32) (h : pm_H) : pm_F ol orc 144 92 [(0, .ref x0), (2, .int x2), (3, .int x3)] [] h = pm_F ol orc 144 92 [(0, .ref x0), (2, .int x2)] [] h := pm_F_live rfl
theorem tt144_1_108 (ol : pm_O) (orc : pm_Q) (x0 : Nat) (x2 : Int32) (x3 : Int32) (h : pm_H) : pm_F ol orc 144 108 [(0, .ref x0), (2, .int x2), (3, .int x3)] [] h = pm_F ol orc 144 108 [(0, .ref x0), (2, .int x2)] [] h := pm_F_live rfl
theorem tt144_1_138 (ol : pm_O) (orc : pm_Q) (x0 : Nat) (x2 : Int32) (x3 : Int32) (h : pm_H) : pm_F ol orc 144 138 [(0, .ref x0), (2, .int x2), (3, .int x3)] [] h = pm_F ol orc 144 138 [(0, .ref x0)] [] h := pm_F_live rfl
theorem tt144_1_153 (ol : pm_O) (orc : pm_Q) (x0 : Nat) (x2 : Int32) (x3 : Int32) (h : pm_H) : pm_F ol orc 144 153 [(0, .ref x0), (2, .int x2), (3, .int x3)] [] h = pm_F ol orc 144 153 [(0, .ref x0)] [] h := pm_F_live rfl
theorem tt144_1_181 (ol : pm_O) (orc : pm_Q) (x0 : Nat) (x2 : Int32) (x3 : Int32) (h : pm_H) : pm_F ol orc 144 181 [(0, .ref x0), (2, .int x2), (3, .int x3)] [] h = pm_F ol orc 144 181 [(0, .ref x0)] [] h := pm_F_live rfl
theorem tt144_1_205 (ol : pm_O) (orc : pm_Q) (x0 : Nat) (x2 : Int32) (x3 : Int32) (h : pm_H) : pm_F ol orc 144 205 [(0, .ref x0), (2, .int x2), (3, .int x3)] [] h = pm_F ol orc 144 205 [(0, .ref x0)] [] h := pm_F_live rfl
theorem tt144_1_214 (ol : pm_O) (orc : pm_Q) (x0 : Nat) (x2 : Int32) (x3 : Int32) (h : pm_H) : pm_F ol orc 144 214 [(0, .ref x0), (2, .int x2), (3, .int x3)] [] h = pm_F ol orc 144 214 [(0, .ref x0), (3, .int x3)] [] h := pm_F_live rfl
theorem tt144_1_231 (ol : pm_O) (orc : pm_Q) (x0 : Nat) (x2 : Int32) (x3 : Int32) (h : pm_H) : pm_F ol orc 144 231 [(0, .ref x0), (2, .int x2), (3, .int x3)] [] h = pm_F ol orc 144 231 [(0, .ref x0)] [] h := pm_F_live rfl
theorem tt144_1_240 (ol : pm_O) (orc : pm_Q) (x0 : Nat) (x2 : Int32) (x3 : Int32) (h : pm_H) : pm_F ol orc 144 240 [(0, .ref x0), (2, .int x2), (3, .int x3)] [] h = pm_F ol orc 144 240 [(0, .ref x0), (2, .int x2)] [] h := pm_F_live rfl
theorem tt144_1_259 (ol : pm_O) (orc : pm_Q) (x0 : Nat) (x2 : Int32) (x3 : Int32) (h : pm_H) : pm_F ol orc 144 259 [(0, .ref x0), (2, .int x2), (3, .int x3)] [] h = pm_F ol orc 144 259 [(0, .ref x0), (2, .int x2)] [] h := pm_F_live rfl
theorem tt144_1_304 (ol : pm_O) (orc : pm_Q) (x0 : Nat) (x2 : Int32) (x3 : Int32) (h : pm_H) : pm_F ol orc 144 304 [(0, .ref x0), (2, .int x2), (3, .int x3)] [] h = pm_F ol orc 144 304 [(0, .ref x0), (2, .int x2)] [] h := pm_F_live rfl
theorem tt144_1_310 (ol : pm_O) (orc : pm_Q) (x0 : Nat) (x2 : Int32) (x3 : Int32) (h : pm_H) : pm_F ol orc 144 310 [(0, .ref x0), (2, .int x2), (3, .int x3)] [] h = pm_F ol orc 144 310 [(0, .ref x0)] [] h := pm_F_live rfl
theorem tt144_1_339 (ol : pm_O) (orc : pm_Q) (x0 : Nat) (x2 : Int32) (x3 : Int32) (h : pm_H) : pm_F ol orc 144 339 [(0, .ref x0), (2, .int x2), (3, .int x3)] [] h = pm_F ol orc 144 339 [] [] h := pm_F_live rfl
theorem tt147_1_96 (ol : pm_O) (orc : pm_Q) (x0 : Nat) (x2 : Int32) (h : pm_H) : pm_F ol orc 147 96 [(0, .ref x0), (2, .int x2)] [] h = pm_F ol orc 147 96 [] [] h := pm_F_live rfl
theorem tt147_1_98 (ol : pm_O) (orc : pm_Q) (x0 : Nat) (x2 : Int32) (h : pm_H) : pm_F ol orc 147 98 [(0, .ref x0), (2, .int x2)] [] h = pm_F ol orc 147 98 [] [] h := pm_F_live rfl
theorem tt147_1_100 (ol : pm_O) (orc : pm_Q) (x0 : Nat) (x2 : Int32) (h : pm_H) : pm_F ol orc 147 100 [(0, .ref x0), (2, .int x2)] [] h = pm_F ol orc 147 100 [(0, .ref x0), (2, .int x2)] [] h := pm_F_live rfl
theorem tt147_1_115 (ol : pm_O) (orc : pm_Q) (x0 : Nat) (x2 : Int32) (h : pm_H) : pm_F ol orc 147 115 [(0, .ref x0), (2, .int x2)] [] h = pm_F ol orc 147 115 [] [] h := pm_F_live rfl
theorem tt150_57_152 (ol : pm_O) (orc : pm_Q) (x0 : Nat) (x2 : Int32) (x3 : Int32) (x4 : Int32) (x5 : Int32) (h : pm_H) : pm_F ol orc 150 152 [(0, .ref x0), (2, .int x2), (3, .int x3), (4, .int x4), (5, .int x5)] [] h = pm_F ol orc 150 152 [(0, .ref x0)] [] h := pm_F_live rfl
theorem tt150_57_160 (ol : pm_O) (orc : pm_Q) (x0 : Nat) (x2 : Int32) (x3 : Int32) (x4 : Int32) (x5 : Int32) (h : pm_H) : pm_F ol orc 150 160 [(0, .ref x0), (2, .int x2), (3, .int x3), (4, .int x4), (5, .int x5)] [] h = pm_F ol orc 150 160 [(0, .ref x0)] [] h := pm_F_live rfl
theorem tt150_57_168 (ol : pm_O) (orc : pm_Q) (x0 : Nat) (x2 : Int32) (x3 : Int32) (x4 : Int32) (x5 : Int32) (h : pm_H) : pm_F ol orc 150 168 [(0, .ref x0), (2, .int x2), (3, .int x3), (4, .int x4), (5, .int x5)] [] h = pm_F ol orc 150 168 [(0, .ref x0), (2, .int x2)] [] h := pm_F_live rfl
theorem tt150_57_178 (ol : pm_O) (orc : pm_Q) (x0 : Nat) (x2 : Int32) (x3 : Int32) (x4 : Int32) (x5 : Int32) (h : pm_H) : pm_F ol orc 150 178 [(0, .ref x0), (2, .int x2), (3, .int x3), (4, .int x4), (5, .int x5)] [] h = pm_F ol orc 150 178 [(0, .ref x0), (2, .int x2)] [] h := pm_F_live rfl
theorem tt150_57_191 (ol : pm_O) (orc : pm_Q) (x0 : Nat) (x2 : Int32) (x3 : Int32) (x4 : Int32) (x5 : Int32) (h : pm_H) : pm_F ol orc 150 191 [(0, .ref x0), (2, .int x2), (3, .int x3), (4, .int x4), (5, .int x5)] [] h = pm_F ol orc 150 191 [(0, .ref x0), (2, .int x2), (4, .int x4)] [] h := pm_F_live rfl
theorem tt150_57_202 (ol : pm_O) (orc : pm_Q) (x0 : Nat) (x2 : Int32) (x3 : Int32) (x4 : Int32) (x5 : Int32) (h : pm_H) : pm_F ol orc 150 202 [(0, .ref x0), (2, .int x2), (3, .int x3), (4, .int x4), (5, .int x5)] [] h = pm_F ol orc 150 202 [(0, .ref x0), (4, .int x4)] [] h := pm_F_live rfl
theorem tt150_57_217 (ol : pm_O) (orc : pm_Q) (x0 : Nat) (x2 : Int32) (x3 : Int32) (x4 : Int32) (x5 : Int32) (h : pm_H) : pm_F ol orc 150 217 [(0, .ref x0), (2, .int x2), (3, .int x3), (4, .int x4), (5, .int x5)] [] h = pm_F ol orc 150 217 [(0, .ref x0), (4, .int x4), (5, .int x5)] [] h := pm_F_live rfl
theorem tt150_57_232 (ol : pm_O) (orc : pm_Q) (x0 : Nat) (x2 : Int32) (x3 : Int32) (x4 : Int32) (x5 : Int32) (h : pm_H) : pm_F ol orc 150 232 [(0, .ref x0), (2, .int x2), (3, .int x3), (4, .int x4), (5, .int x5)] [] h = pm_F ol orc 150 232 [(0, .ref x0), (3, .int x3)] [] h := pm_F_live rfl
theorem tt150_57_252 (ol : pm_O) (orc : pm_Q) (x0 : Nat) (x2 : Int32) (x3 : Int32) (x4 : Int32) (x5 : Int32) (h : pm_H) : pm_F ol orc 150 252 [(0, .ref x0), (2, .int x2), (3, .int x3), (4, .int x4), (5, .int x5)] [] h = pm_F ol orc 150 252 [(0, .ref x0), (4, .int x4)] [] h := pm_F_live rfl
theorem tt150_57_276 (ol : pm_O) (orc : pm_Q) (x0 : Nat) (x2 : Int32) (x3 : Int32) (x4 : Int32) (x5 : Int32) (h : pm_H) : pm_F ol orc 150 276 [(0, .ref x0), (2, .int x2), (3, .int x3), (4, .int x4), (5, .int x5)] [] h = pm_F ol orc 150 276 [(0, .ref x0), (2, .int x2)] [] h := pm_F_live rfl
theorem tt150_57_289 (ol : pm_O) (orc : pm_Q) (x0 : Nat) (x2 : Int32) (x3 : Int32) (x4 : Int32) (x5 : Int32) (h : pm_H) : pm_F ol orc 150 289 [(0, .ref x0), (2, .int x2), (3, .int x3), (4, .int x4), (5, .int x5)] [] h = pm_F ol orc 150 289 [(0, .ref x0), (2, .int x2)] [] h := pm_F_live rfl
theorem tt150_57_311 (ol : pm_O) (orc : pm_Q) (x0 : Nat) (x2 : Int32) (x3 : Int32) (x4 : Int32) (x5 : Int32) (h : pm_H) : pm_F ol orc 150 311 [(0, .ref x0), (2, .int x2), (3, .int x3), (4, .int x4), (5, .int x5)] [] h = pm_F ol orc 150 311 [(0, .ref x0), (2, .int x2)] [] h := pm_F_live rfl
theorem tt150_57_322 (ol : pm_O) (orc : pm_Q) (x0 : Nat) (x2 : Int32) (x3 : Int32) (x4 : Int32) (x5 : Int32) (h : pm_H) : pm_F ol orc 150 322 [(0, .ref x0), (2, .int x2), (3, .int x3), (4, .int x4), (5, .int x5)] [] h = pm_F ol orc 150 322 [] [] h := pm_F_live rfl
theorem tn_52 : (52 : Int).toNat = 52 := rfl
theorem tn_72 : (72 : Int).toNat = 72 := rfl
theorem tn_87 : (87 : Int).toNat = 87 := rfl
theorem tn_88 : (88 : Int).toNat = 88 := rfl
theorem tn_90 : (90 : Int).toNat = 90 := rfl
theorem tn_92 : (92 : Int).toNat = 92 := rfl
theorem tn_96 : (96 : Int).toNat = 96 := rfl
theorem tn_98 : (98 : Int).toNat = 98 := rfl
theorem tn_99 : (99 : Int).toNat = 99 := rfl
theorem tn_100 : (100 : Int).toNat = 100 := rfl
theorem tn_108 : (108 : Int).toNat = 108 := rfl
theorem tn_109 : (109 : Int).toNat = 109 := rfl
theorem tn_112 : (112 : Int).toNat = 112 := rfl
theorem tn_115 : (115 : Int).toNat = 115 := rfl
theorem tn_122 : (122 : Int).toNat = 122 := rfl
theorem tn_123 : (123 : Int).toNat = 123 := rfl
theorem tn_130 : (130 : Int).toNat = 130 := rfl
theorem tn_134 : (134 : Int).toNat = 134 := rfl
theorem tn_138 : (138 : Int).toNat = 138 := rfl
theorem tn_143 : (143 : Int).toNat = 143 := rfl
theorem tn_152 : (152 : Int).toNat = 152 := rfl
theorem tn_153 : (153 : Int).toNat = 153 := rfl
theorem tn_154 : (154 : Int).toNat = 154 := rfl
theorem tn_160 : (160 : Int).toNat = 160 := rfl
theorem tn_161 : (161 : Int).toNat = 161 := rfl
theorem tn_168 : (168 : Int).toNat = 168 := rfl
theorem tn_173 : (173 : Int).toNat = 173 := rfl
theorem tn_178 : (178 : Int).toNat = 178 := rfl
theorem tn_180 : (180 : Int).toNat = 180 := rfl
theorem tn_181 : (181 : Int).toNat = 181 := rfl
theorem tn_191 : (191 : Int).toNat = 191 := rfl
theorem tn_192 : (192 : Int).toNat = 192 := rfl
theorem tn_202 : (202 : Int).toNat = 202 := rfl
theorem tn_205 : (205 : Int).toNat = 205 := rfl
theorem tn_206 : (206 : Int).toNat = 206 := rfl
theorem tn_212 : (212 : Int).toNat = 212 := rfl
theorem tn_214 : (214 : Int).toNat = 214 := rfl
theorem tn_217 : (217 : Int).toNat = 217 := rfl
theorem tn_226 : (226 : Int).toNat = 226 := rfl
theorem tn_228 : (228 : Int).toNat = 228 := rfl
theorem tn_231 : (231 : Int).toNat = 231 := rfl
theorem tn_232 : (232 : Int).toNat = 232 := rfl
theorem tn_240 : (240 : Int).toNat = 240 := rfl
theorem tn_242 : (242 : Int).toNat = 242 := rfl
theorem tn_252 : (252 : Int).toNat = 252 := rfl
theorem tn_259 : (259 : Int).toNat = 259 := rfl
theorem tn_265 : (265 : Int).toNat = 265 := rfl
theorem tn_276 : (276 : Int).toNat = 276 := rfl
theorem tn_280 : (280 : Int).toNat = 280 := rfl
theorem tn_289 : (289 : Int).toNat = 289 := rfl
theorem tn_304 : (304 : Int).toNat = 304 := rfl
theorem tn_310 : (310 : Int).toNat = 310 := rfl
theorem tn_311 : (311 : Int).toNat = 311 := rfl
theorem tn_322 : (322 : Int).toNat = 322 := rfl
theorem tn_339 : (339 : Int).toNat = 339 := rfl
