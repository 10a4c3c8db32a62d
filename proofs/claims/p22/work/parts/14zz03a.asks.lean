/-! the model: what its asks leave as it is -/
def aT9 : List aCe := [.inr (11, [(true, .inr (some [1])), (true, .inl (0, 1600)), (true, .inl (-2147483648, 2147483647)), (true, .inl (-2147483648, 2147483647)), (true, .inr (some [2, 14])), (true, .inr (some [2, 14])), (true, .inr (some [26])), (true, .inr (some [31])), (true, .inr (some [34])), (true, .inr (some [38])), (true, .inr (some [181])), (true, .inr (some [185])), (true, .inr (some [219])), (true, .inl (0, 33)), (true, .inr (some [220])), (true, .inl (-2147483648, 2147483647))]),
  .inl (true, 0, 1600, .inl (0, 255)),
  .inr (4, [(true, .inl (-2147483648, 2147483647)), (true, .inl (-2147483648, 2147483647)), (true, .inl (-2147483648, 2147483647)), (true, .inl (-2147483648, 2147483647)), (true, .inl (-2147483648, 2147483647)), (true, .inr none), (true, .inr none), (true, .inl (0, 9)), (true, .inr (some [3])), (true, .inr (some [4])), (true, .inr (some [5])), (true, .inr (some [6])), (true, .inl (0, 511)), (true, .inl (0, 6)), (true, .inr (some [7])), (true, .inr (some [8])), (true, .inr (some [9])), (true, .inr (some [10]))]),
  .inl (true, 0, 9, .inl (-2147483648, 2147483647)),
  .inl (true, 0, 9, .inl (-2147483648, 2147483647)),
  .inl (true, 0, 9, .inl (-2147483648, 2147483647)),
  .inl (true, 0, 9, .inl (-2147483648, 2147483647)),
  .inl (true, 0, 6, .inl (-2147483648, 2147483647)),
  .inl (true, 0, 6, .inl (-2147483648, 2147483647)),
  .inl (true, 0, 6, .inl (-2147483648, 2147483647)),
  .inr (7, [(true, .inr (some [11])), (true, .inr (some [12])), (true, .inr (some [13])), (true, .inl (0, 1600))]),
  .inl (true, 0, 1600, .inl (-2147483648, 2147483647)),
  .inl (true, 0, 3, .inl (0, 1600)),
  .inl (true, 0, 3, .inl (0, 1600)),
  .inr (4, [(true, .inl (-2147483648, 2147483647)), (true, .inl (-2147483648, 2147483647)), (true, .inl (-2147483648, 2147483647)), (true, .inl (-2147483648, 2147483647)), (true, .inl (-2147483648, 2147483647)), (true, .inr none), (true, .inr none), (true, .inl (0, 9)), (true, .inr (some [15])), (true, .inr (some [16])), (true, .inr (some [17])), (true, .inr (some [18])), (true, .inl (0, 511)), (true, .inl (0, 6)), (true, .inr (some [19])), (true, .inr (some [20])), (true, .inr (some [21])), (true, .inr (some [22]))]),
  .inl (true, 0, 9, .inl (-2147483648, 2147483647)),
  .inl (true, 0, 9, .inl (-2147483648, 2147483647)),
  .inl (true, 0, 9, .inl (-2147483648, 2147483647)),
  .inl (true, 0, 9, .inl (-2147483648, 2147483647)),
  .inl (true, 0, 6, .inl (-2147483648, 2147483647)),
  .inl (true, 0, 6, .inl (-2147483648, 2147483647)),
  .inl (true, 0, 6, .inl (-2147483648, 2147483647)),
  .inr (7, [(true, .inr (some [23])), (true, .inr (some [24])), (true, .inr (some [25])), (true, .inl (0, 1600))]),
  .inl (true, 0, 1600, .inl (-2147483648, 2147483647)),
  .inl (true, 0, 3, .inl (0, 1600)),
  .inl (true, 0, 3, .inl (0, 1600)),
  .inr (9, [(true, .inr (some [27])), (true, .inr (some [30])), (true, .inr (some [2, 14])), (true, .inl (-2147483648, 2147483647))]),
  .inr (5, [(true, .inr (some [28])), (true, .inr (some [1, 29])), (true, .inl (0, 1600)), (true, .inl (0, 1600)), (true, .inl (-2147483648, 2147483647)), (true, .inl (-2147483648, 2147483647)), (true, .inl (-2147483648, 2147483647)), (true, .inl (-2147483648, 2147483647)), (true, .inl (-2147483648, 2147483647)), (true, .inl (-2147483648, 2147483647)), (true, .inl (-2147483648, 2147483647)), (true, .inl (-2147483648, 2147483647))]),
  .inl (true, 0, 26, .inl (-2147483648, 2147483647)),
  .inl (true, 0, 0, .inl (-2147483648, 2147483647)),
  .inr (10, [(true, .inr (some [27])), (true, .inr (some [10, 22])), (true, .inl (-2147483648, 2147483647))]),
  .inr (8, [(true, .inl (-2147483648, 2147483647)), (true, .inl (0, 511)), (true, .inr (some [32])), (true, .inr (some [33])), (true, .inl (-2147483648, 2147483647)), (true, .inl (-2147483648, 2147483647))]),
  .inl (true, 0, 9, .inl (-2147483648, 2147483647)),
  .inl (true, 0, 6, .inl (-2147483648, 2147483647)),
  .inr (1, [(true, .inr (some [35])), (true, .inr (some [36])), (true, .inr (some [37])), (true, .inl (0, 40))]),
  .inl (true, 0, 40, .inl (-2147483648, 2147483647)),
  .inl (true, 0, 40, .inl (-2147483648, 2147483647)),
  .inl (true, 0, 40, .inl (-2147483648, 2147483647)),
  .inr (2, [(true, .inr (some [39])), (true, .inr (some [40])), (true, .inl (0, 19)), (true, .inl (0, 20))]),
  .inl (true, 3, 20, .inr (some [41, 48, 55, 62, 69, 76, 83, 90, 97, 104, 111, 118, 125, 132, 139, 146, 153, 160, 167, 174])),
  .inl (true, 4, 20, .inr (some [44, 51, 58, 65, 72, 79, 86, 93, 100, 107, 114, 121, 128, 135, 142, 149, 156, 163, 170, 177])),
  .inr (8, [(true, .inl (-2147483648, 2147483647)), (true, .inl (0, 511)), (true, .inr (some [42])), (true, .inr (some [43])), (true, .inl (-2147483648, 2147483647)), (true, .inl (-2147483648, 2147483647))]),
  .inl (true, 0, 9, .inl (-2147483648, 2147483647)),
  .inl (true, 0, 6, .inl (-2147483648, 2147483647)),
  .inr (1, [(true, .inr (some [45])), (true, .inr (some [46])), (true, .inr (some [47])), (true, .inl (0, 40))]),
  .inl (true, 0, 40, .inl (-2147483648, 2147483647)),
  .inl (true, 0, 40, .inl (-2147483648, 2147483647)),
  .inl (true, 0, 40, .inl (-2147483648, 2147483647)),
  .inr (8, [(true, .inl (-2147483648, 2147483647)), (true, .inl (0, 511)), (true, .inr (some [49])), (true, .inr (some [50])), (true, .inl (-2147483648, 2147483647)), (true, .inl (-2147483648, 2147483647))]),
  .inl (true, 0, 9, .inl (-2147483648, 2147483647)),
  .inl (true, 0, 6, .inl (-2147483648, 2147483647)),
  .inr (1, [(true, .inr (some [52])), (true, .inr (some [53])), (true, .inr (some [54])), (true, .inl (0, 40))]),
  .inl (true, 0, 40, .inl (-2147483648, 2147483647)),
  .inl (true, 0, 40, .inl (-2147483648, 2147483647)),
  .inl (true, 0, 40, .inl (-2147483648, 2147483647)),
  .inr (8, [(true, .inl (-2147483648, 2147483647)), (true, .inl (0, 511)), (true, .inr (some [56])), (true, .inr (some [57])), (true, .inl (-2147483648, 2147483647)), (true, .inl (-2147483648, 2147483647))]),
  .inl (true, 0, 9, .inl (-2147483648, 2147483647)),
  .inl (true, 0, 6, .inl (-2147483648, 2147483647)),
  .inr (1, [(true, .inr (some [59])), (true, .inr (some [60])), (true, .inr (some [61])), (true, .inl (0, 40))]),
  .inl (true, 0, 40, .inl (-2147483648, 2147483647)),
  .inl (true, 0, 40, .inl (-2147483648, 2147483647)),
  .inl (true, 0, 40, .inl (-2147483648, 2147483647)),
  .inr (8, [(true, .inl (-2147483648, 2147483647)), (true, .inl (0, 511)), (true, .inr (some [63])), (true, .inr (some [64])), (true, .inl (-2147483648, 2147483647)), (true, .inl (-2147483648, 2147483647))]),
  .inl (true, 0, 9, .inl (-2147483648, 2147483647)),
  .inl (true, 0, 6, .inl (-2147483648, 2147483647)),
  .inr (1, [(true, .inr (some [66])), (true, .inr (some [67])), (true, .inr (some [68])), (true, .inl (0, 40))]),
  .inl (true, 0, 40, .inl (-2147483648, 2147483647)),
  .inl (true, 0, 40, .inl (-2147483648, 2147483647)),
  .inl (true, 0, 40, .inl (-2147483648, 2147483647)),
  .inr (8, [(true, .inl (-2147483648, 2147483647)), (true, .inl (0, 511)), (true, .inr (some [70])), (true, .inr (some [71])), (true, .inl (-2147483648, 2147483647)), (true, .inl (-2147483648, 2147483647))]),
  .inl (true, 0, 9, .inl (-2147483648, 2147483647)),
  .inl (true, 0, 6, .inl (-2147483648, 2147483647)),
  .inr (1, [(true, .inr (some [73])), (true, .inr (some [74])), (true, .inr (some [75])), (true, .inl (0, 40))]),
  .inl (true, 0, 40, .inl (-2147483648, 2147483647)),
  .inl (true, 0, 40, .inl (-2147483648, 2147483647)),
  .inl (true, 0, 40, .inl (-2147483648, 2147483647)),
  .inr (8, [(true, .inl (-2147483648, 2147483647)), (true, .inl (0, 511)), (true, .inr (some [77])), (true, .inr (some [78])), (true, .inl (-2147483648, 2147483647)), (true, .inl (-2147483648, 2147483647))]),
  .inl (true, 0, 9, .inl (-2147483648, 2147483647)),
  .inl (true, 0, 6, .inl (-2147483648, 2147483647)),
  .inr (1, [(true, .inr (some [80])), (true, .inr (some [81])), (true, .inr (some [82])), (true, .inl (0, 40))]),
  .inl (true, 0, 40, .inl (-2147483648, 2147483647)),
  .inl (true, 0, 40, .inl (-2147483648, 2147483647)),
  .inl (true, 0, 40, .inl (-2147483648, 2147483647)),
  .inr (8, [(true, .inl (-2147483648, 2147483647)), (true, .inl (0, 511)), (true, .inr (some [84])), (true, .inr (some [85])), (true, .inl (-2147483648, 2147483647)), (true, .inl (-2147483648, 2147483647))]),
  .inl (true, 0, 9, .inl (-2147483648, 2147483647)),
  .inl (true, 0, 6, .inl (-2147483648, 2147483647)),
  .inr (1, [(true, .inr (some [87])), (true, .inr (some [88])), (true, .inr (some [89])), (true, .inl (0, 40))]),
  .inl (true, 0, 40, .inl (-2147483648, 2147483647)),
  .inl (true, 0, 40, .inl (-2147483648, 2147483647)),
  .inl (true, 0, 40, .inl (-2147483648, 2147483647)),
  .inr (8, [(true, .inl (-2147483648, 2147483647)), (true, .inl (0, 511)), (true, .inr (some [91])), (true, .inr (some [92])), (true, .inl (-2147483648, 2147483647)), (true, .inl (-2147483648, 2147483647))]),
  .inl (true, 0, 9, .inl (-2147483648, 2147483647)),
  .inl (true, 0, 6, .inl (-2147483648, 2147483647)),
  .inr (1, [(true, .inr (some [94])), (true, .inr (some [95])), (true, .inr (some [96])), (true, .inl (0, 40))]),
  .inl (true, 0, 40, .inl (-2147483648, 2147483647)),
  .inl (true, 0, 40, .inl (-2147483648, 2147483647)),
  .inl (true, 0, 40, .inl (-2147483648, 2147483647)),
  .inr (8, [(true, .inl (-2147483648, 2147483647)), (true, .inl (0, 511)), (true, .inr (some [98])), (true, .inr (some [99])), (true, .inl (-2147483648, 2147483647)), (true, .inl (-2147483648, 2147483647))]),
  .inl (true, 0, 9, .inl (-2147483648, 2147483647)),
  .inl (true, 0, 6, .inl (-2147483648, 2147483647)),
  .inr (1, [(true, .inr (some [101])), (true, .inr (some [102])), (true, .inr (some [103])), (true, .inl (0, 40))]),
  .inl (true, 0, 40, .inl (-2147483648, 2147483647)),
  .inl (true, 0, 40, .inl (-2147483648, 2147483647)),
  .inl (true, 0, 40, .inl (-2147483648, 2147483647)),
  .inr (8, [(true, .inl (-2147483648, 2147483647)), (true, .inl (0, 511)), (true, .inr (some [105])), (true, .inr (some [106])), (true, .inl (-2147483648, 2147483647)), (true, .inl (-2147483648, 2147483647))]),
  .inl (true, 0, 9, .inl (-2147483648, 2147483647)),
  .inl (true, 0, 6, .inl (-2147483648, 2147483647)),
  .inr (1, [(true, .inr (some [108])), (true, .inr (some [109])), (true, .inr (some [110])), (true, .inl (0, 40))]),
  .inl (true, 0, 40, .inl (-2147483648, 2147483647)),
  .inl (true, 0, 40, .inl (-2147483648, 2147483647)),
  .inl (true, 0, 40, .inl (-2147483648, 2147483647)),
  .inr (8, [(true, .inl (-2147483648, 2147483647)), (true, .inl (0, 511)), (true, .inr (some [112])), (true, .inr (some [113])), (true, .inl (-2147483648, 2147483647)), (true, .inl (-2147483648, 2147483647))]),
  .inl (true, 0, 9, .inl (-2147483648, 2147483647)),
  .inl (true, 0, 6, .inl (-2147483648, 2147483647)),
  .inr (1, [(true, .inr (some [115])), (true, .inr (some [116])), (true, .inr (some [117])), (true, .inl (0, 40))]),
  .inl (true, 0, 40, .inl (-2147483648, 2147483647)),
  .inl (true, 0, 40, .inl (-2147483648, 2147483647)),
  .inl (true, 0, 40, .inl (-2147483648, 2147483647)),
  .inr (8, [(true, .inl (-2147483648, 2147483647)), (true, .inl (0, 511)), (true, .inr (some [119])), (true, .inr (some [120])), (true, .inl (-2147483648, 2147483647)), (true, .inl (-2147483648, 2147483647))]),
  .inl (true, 0, 9, .inl (-2147483648, 2147483647)),
  .inl (true, 0, 6, .inl (-2147483648, 2147483647)),
  .inr (1, [(true, .inr (some [122])), (true, .inr (some [123])), (true, .inr (some [124])), (true, .inl (0, 40))]),
  .inl (true, 0, 40, .inl (-2147483648, 2147483647)),
  .inl (true, 0, 40, .inl (-2147483648, 2147483647)),
  .inl (true, 0, 40, .inl (-2147483648, 2147483647)),
  .inr (8, [(true, .inl (-2147483648, 2147483647)), (true, .inl (0, 511)), (true, .inr (some [126])), (true, .inr (some [127])), (true, .inl (-2147483648, 2147483647)), (true, .inl (-2147483648, 2147483647))]),
  .inl (true, 0, 9, .inl (-2147483648, 2147483647)),
  .inl (true, 0, 6, .inl (-2147483648, 2147483647)),
  .inr (1, [(true, .inr (some [129])), (true, .inr (some [130])), (true, .inr (some [131])), (true, .inl (0, 40))]),
  .inl (true, 0, 40, .inl (-2147483648, 2147483647)),
  .inl (true, 0, 40, .inl (-2147483648, 2147483647)),
  .inl (true, 0, 40, .inl (-2147483648, 2147483647)),
  .inr (8, [(true, .inl (-2147483648, 2147483647)), (true, .inl (0, 511)), (true, .inr (some [133])), (true, .inr (some [134])), (true, .inl (-2147483648, 2147483647)), (true, .inl (-2147483648, 2147483647))]),
  .inl (true, 0, 9, .inl (-2147483648, 2147483647)),
  .inl (true, 0, 6, .inl (-2147483648, 2147483647)),
  .inr (1, [(true, .inr (some [136])), (true, .inr (some [137])), (true, .inr (some [138])), (true, .inl (0, 40))]),
  .inl (true, 0, 40, .inl (-2147483648, 2147483647)),
  .inl (true, 0, 40, .inl (-2147483648, 2147483647)),
  .inl (true, 0, 40, .inl (-2147483648, 2147483647)),
  .inr (8, [(true, .inl (-2147483648, 2147483647)), (true, .inl (0, 511)), (true, .inr (some [140])), (true, .inr (some [141])), (true, .inl (-2147483648, 2147483647)), (true, .inl (-2147483648, 2147483647))]),
  .inl (true, 0, 9, .inl (-2147483648, 2147483647)),
  .inl (true, 0, 6, .inl (-2147483648, 2147483647)),
  .inr (1, [(true, .inr (some [143])), (true, .inr (some [144])), (true, .inr (some [145])), (true, .inl (0, 40))]),
  .inl (true, 0, 40, .inl (-2147483648, 2147483647)),
  .inl (true, 0, 40, .inl (-2147483648, 2147483647)),
  .inl (true, 0, 40, .inl (-2147483648, 2147483647)),
  .inr (8, [(true, .inl (-2147483648, 2147483647)), (true, .inl (0, 511)), (true, .inr (some [147])), (true, .inr (some [148])), (true, .inl (-2147483648, 2147483647)), (true, .inl (-2147483648, 2147483647))]),
  .inl (true, 0, 9, .inl (-2147483648, 2147483647)),
  .inl (true, 0, 6, .inl (-2147483648, 2147483647)),
  .inr (1, [(true, .inr (some [150])), (true, .inr (some [151])), (true, .inr (some [152])), (true, .inl (0, 40))]),
  .inl (true, 0, 40, .inl (-2147483648, 2147483647)),
  .inl (true, 0, 40, .inl (-2147483648, 2147483647)),
  .inl (true, 0, 40, .inl (-2147483648, 2147483647)),
  .inr (8, [(true, .inl (-2147483648, 2147483647)), (true, .inl (0, 511)), (true, .inr (some [154])), (true, .inr (some [155])), (true, .inl (-2147483648, 2147483647)), (true, .inl (-2147483648, 2147483647))]),
  .inl (true, 0, 9, .inl (-2147483648, 2147483647)),
  .inl (true, 0, 6, .inl (-2147483648, 2147483647)),
  .inr (1, [(true, .inr (some [157])), (true, .inr (some [158])), (true, .inr (some [159])), (true, .inl (0, 40))]),
  .inl (true, 0, 40, .inl (-2147483648, 2147483647)),
  .inl (true, 0, 40, .inl (-2147483648, 2147483647)),
  .inl (true, 0, 40, .inl (-2147483648, 2147483647)),
  .inr (8, [(true, .inl (-2147483648, 2147483647)), (true, .inl (0, 511)), (true, .inr (some [161])), (true, .inr (some [162])), (true, .inl (-2147483648, 2147483647)), (true, .inl (-2147483648, 2147483647))]),
  .inl (true, 0, 9, .inl (-2147483648, 2147483647)),
  .inl (true, 0, 6, .inl (-2147483648, 2147483647)),
  .inr (1, [(true, .inr (some [164])), (true, .inr (some [165])), (true, .inr (some [166])), (true, .inl (0, 40))]),
  .inl (true, 0, 40, .inl (-2147483648, 2147483647)),
  .inl (true, 0, 40, .inl (-2147483648, 2147483647)),
  .inl (true, 0, 40, .inl (-2147483648, 2147483647)),
  .inr (8, [(true, .inl (-2147483648, 2147483647)), (true, .inl (0, 511)), (true, .inr (some [168])), (true, .inr (some [169])), (true, .inl (-2147483648, 2147483647)), (true, .inl (-2147483648, 2147483647))]),
  .inl (true, 0, 9, .inl (-2147483648, 2147483647)),
  .inl (true, 0, 6, .inl (-2147483648, 2147483647)),
  .inr (1, [(true, .inr (some [171])), (true, .inr (some [172])), (true, .inr (some [173])), (true, .inl (0, 40))]),
  .inl (true, 0, 40, .inl (-2147483648, 2147483647)),
  .inl (true, 0, 40, .inl (-2147483648, 2147483647)),
  .inl (true, 0, 40, .inl (-2147483648, 2147483647)),
  .inr (8, [(true, .inl (-2147483648, 2147483647)), (true, .inl (0, 511)), (true, .inr (some [175])), (true, .inr (some [176])), (true, .inl (-2147483648, 2147483647)), (true, .inl (-2147483648, 2147483647))]),
  .inl (true, 0, 9, .inl (-2147483648, 2147483647)),
  .inl (true, 0, 6, .inl (-2147483648, 2147483647)),
  .inr (1, [(true, .inr (some [178])), (true, .inr (some [179])), (true, .inr (some [180])), (true, .inl (0, 40))]),
  .inl (true, 0, 40, .inl (-2147483648, 2147483647)),
  .inl (true, 0, 40, .inl (-2147483648, 2147483647)),
  .inl (true, 0, 40, .inl (-2147483648, 2147483647)),
  .inr (0, [(true, .inr (some [2, 14])), (true, .inr (some [182])), (true, .inr (some [184])), (true, .inl (0, 511)), (true, .inl (0, 511))]),
  .inr (6, [(true, .inr (some [183])), (true, .inl (-2147483648, 2147483647)), (true, .inl (-2147483648, 2147483647)), (true, .inl (-2147483648, 2147483647)), (true, .inl (-2147483648, 2147483647)), (true, .inl (-2147483648, 2147483647)), (true, .inl (-2147483648, 2147483647))]),
  .inl (true, 0, 128, .inl (-2147483648, 2147483647)),
  .inl (true, 1, 49, .inr none),
  .inr (3, [(true, .inr (some [181])), (true, .inr (some [186])), (true, .inr (some [187])), (true, .inr (some [188])), (true, .inr (some [189])), (true, .inr (some [190])), (true, .inl (-2147483648, 2147483647)), (true, .inl (-2147483648, 2147483647)), (true, .inr (some [191])), (true, .inl (0, 16)), (true, .inl (-2147483648, 2147483647)), (true, .inl (-2147483648, 2147483647)), (true, .inl (-2147483648, 2147483647))]),
  .inl (true, 3, 9, .inr (some [192, 195, 198, 201, 204, 207, 210, 213, 216])),
  .inl (true, 1, 9, .inr none),
  .inl (true, 0, 54, .inl (-2147483648, 2147483647)),
  .inl (true, 0, 3584, .inl (-2147483648, 2147483647)),
  .inl (true, 0, 6, .inl (-2147483648, 2147483647)),
  .inl (true, 0, 64, .inl (0, 255)),
  .inr (8, [(true, .inl (-2147483648, 2147483647)), (true, .inl (0, 511)), (true, .inr (some [193])), (true, .inr (some [194])), (true, .inl (-2147483648, 2147483647)), (true, .inl (-2147483648, 2147483647))]),
  .inl (true, 0, 9, .inl (-2147483648, 2147483647)),
  .inl (true, 0, 6, .inl (-2147483648, 2147483647)),
  .inr (8, [(true, .inl (-2147483648, 2147483647)), (true, .inl (0, 511)), (true, .inr (some [196])), (true, .inr (some [197])), (true, .inl (-2147483648, 2147483647)), (true, .inl (-2147483648, 2147483647))]),
  .inl (true, 0, 9, .inl (-2147483648, 2147483647)),
  .inl (true, 0, 6, .inl (-2147483648, 2147483647)),
  .inr (8, [(true, .inl (-2147483648, 2147483647)), (true, .inl (0, 511)), (true, .inr (some [199])), (true, .inr (some [200])), (true, .inl (-2147483648, 2147483647)), (true, .inl (-2147483648, 2147483647))]),
  .inl (true, 0, 9, .inl (-2147483648, 2147483647)),
  .inl (true, 0, 6, .inl (-2147483648, 2147483647)),
  .inr (8, [(true, .inl (-2147483648, 2147483647)), (true, .inl (0, 511)), (true, .inr (some [202])), (true, .inr (some [203])), (true, .inl (-2147483648, 2147483647)), (true, .inl (-2147483648, 2147483647))]),
  .inl (true, 0, 9, .inl (-2147483648, 2147483647)),
  .inl (true, 0, 6, .inl (-2147483648, 2147483647)),
  .inr (8, [(true, .inl (-2147483648, 2147483647)), (true, .inl (0, 511)), (true, .inr (some [205])), (true, .inr (some [206])), (true, .inl (-2147483648, 2147483647)), (true, .inl (-2147483648, 2147483647))]),
  .inl (true, 0, 9, .inl (-2147483648, 2147483647)),
  .inl (true, 0, 6, .inl (-2147483648, 2147483647)),
  .inr (8, [(true, .inl (-2147483648, 2147483647)), (true, .inl (0, 511)), (true, .inr (some [208])), (true, .inr (some [209])), (true, .inl (-2147483648, 2147483647)), (true, .inl (-2147483648, 2147483647))]),
  .inl (true, 0, 9, .inl (-2147483648, 2147483647)),
  .inl (true, 0, 6, .inl (-2147483648, 2147483647)),
  .inr (8, [(true, .inl (-2147483648, 2147483647)), (true, .inl (0, 511)), (true, .inr (some [211])), (true, .inr (some [212])), (true, .inl (-2147483648, 2147483647)), (true, .inl (-2147483648, 2147483647))]),
  .inl (true, 0, 9, .inl (-2147483648, 2147483647)),
  .inl (true, 0, 6, .inl (-2147483648, 2147483647)),
  .inr (8, [(true, .inl (-2147483648, 2147483647)), (true, .inl (0, 511)), (true, .inr (some [214])), (true, .inr (some [215])), (true, .inl (-2147483648, 2147483647)), (true, .inl (-2147483648, 2147483647))]),
  .inl (true, 0, 9, .inl (-2147483648, 2147483647)),
  .inl (true, 0, 6, .inl (-2147483648, 2147483647)),
  .inr (8, [(true, .inl (-2147483648, 2147483647)), (true, .inl (0, 511)), (true, .inr (some [217])), (true, .inr (some [218])), (true, .inl (-2147483648, 2147483647)), (true, .inl (-2147483648, 2147483647))]),
  .inl (true, 0, 9, .inl (-2147483648, 2147483647)),
  .inl (true, 0, 6, .inl (-2147483648, 2147483647)),
  .inl (true, 0, 33, .inl (-2147483648, 2147483647)),
  .inl (true, 0, 6, .inl (-2147483648, 2147483647)),
  .inr (12, [(false, .inr (some [222])), (true, .inl (0, 1600)), (false, .inl (0, 1600)), (false, .inl (-2147483648, 2147483647)), (false, .inl (0, 1600)), (false, .inl (0, 1600)), (false, .inl (-2147483648, 2147483647)), (false, .inr none), (false, .inl (-2147483648, 2147483647)), (false, .inl (-2147483648, 2147483647)), (false, .inl (-2147483648, 2147483647)), (false, .inl (-2147483648, 2147483647)), (false, .inl (-2147483648, 2147483647)), (true, .inl (0, 1)), (false, .inr (some [223])), (false, .inr (some [224])), (false, .inr (some [225])), (false, .inr (some [226])), (false, .inr (some [227])), (false, .inr (some [228])), (false, .inr (some [229])), (false, .inr (some [230])), (false, .inr (some [231])), (false, .inr (some [232])), (false, .inr (some [233])), (false, .inr (some [234])), (false, .inr (some [235])), (false, .inr (some [236])), (false, .inr (some [237])), (false, .inr (some [238])), (false, .inr (some [239])), (false, .inr (some [240])), (false, .inr (some [241])), (true, .inl (-2147483648, 2147483647)), (true, .inl (0, 1)), (false, .inl (-2147483648, 2147483647)), (false, .inr (some [242])), (false, .inr (some [243])), (false, .inr (some [244])), (false, .inr (some [245])), (false, .inr (some [246])), (false, .inl (-2147483648, 2147483647)), (false, .inl (-2147483648, 2147483647)), (false, .inr (some [247])), (false, .inl (-2147483648, 2147483647)), (false, .inl (0, 1)), (true, .inl (0, 1)), (false, .inr (some [248])), (false, .inr (some [249])), (false, .inr (some [250])), (false, .inr (some [251])), (false, .inr (some [252])), (false, .inr (some [253])), (false, .inr (some [254])), (true, .inl (0, 19)), (true, .inl (0, 20)), (true, .inr none), (false, .inr (some [255])), (false, .inr (some [256])), (false, .inr (some [257])), (false, .inr (some [258])), (false, .inr (some [259])), (false, .inr (some [260])), (false, .inr (some [261])), (false, .inr (some [262])), (false, .inr (some [263])), (true, .inl (0, 16)), (false, .inr (some [264])), (false, .inr (some [265])), (false, .inr (some [266])), (false, .inr (some [267])), (false, .inr (some [268])), (false, .inl (0, 33))]),
  .inl (true, 0, 1800, .inl (0, 255)),
  .inl (true, 0, 2, .inl (-2147483648, 2147483647)),
  .inl (true, 0, 2, .inl (-2147483648, 2147483647)),
  .inl (true, 0, 2, .inl (-2147483648, 2147483647)),
  .inl (true, 0, 2, .inl (-2147483648, 2147483647)),
  .inl (true, 0, 128, .inl (0, 1)),
  .inl (true, 0, 2, .inl (0, 9)),
  .inl (true, 0, 18, .inl (0, 63)),
  .inl (true, 0, 18, .inl (-2147483648, 2147483647)),
  .inl (true, 0, 18, .inl (-2147483648, 2147483647)),
  .inl (true, 0, 2, .inl (0, 511)),
  .inl (true, 0, 2, .inl (0, 6)),
  .inl (true, 0, 12, .inl (0, 63)),
  .inl (true, 0, 12, .inl (0, 63)),
  .inl (true, 0, 6, .inl (-2147483648, 2147483647)),
  .inl (true, 0, 6, .inl (-2147483648, 2147483647)),
  .inl (true, 0, 3200, .inl (-2147483648, 2147483647)),
  .inl (true, 0, 3200, .inl (-2147483648, 2147483647)),
  .inl (true, 1, 18, .inr none),
  .inl (true, 1, 12, .inr none),
  .inl (false, 0, 20, .inl (-2147483648, 2147483647)),
  .inl (false, 0, 20, .inl (-2147483648, 2147483647)),
  .inl (false, 2, 20, .inl (0, 1)),
  .inl (false, 0, 20, .inl (-2147483648, 2147483647)),
  .inl (false, 0, 20, .inl (-2147483648, 2147483647)),
  .inl (false, 0, 500, .inl (-2147483648, 2147483647)),
  .inl (true, 0, 6, .inl (-2147483648, 2147483647)),
  .inl (true, 0, 22, .inl (-2147483648, 2147483647)),
  .inl (true, 0, 22, .inl (0, 511)),
  .inl (true, 0, 198, .inl (-2147483648, 2147483647)),
  .inl (true, 0, 132, .inl (0, 63)),
  .inl (true, 0, 22, .inl (0, 40)),
  .inl (true, 0, 2640, .inl (-2147483648, 2147483647)),
  .inl (true, 0, 9, .inl (-2147483648, 2147483647)),
  .inl (false, 1, 500, .inr none),
  .inl (false, 0, 10, .inl (-2147483648, 2147483647)),
  .inl (false, 0, 64, .inl (-2147483648, 2147483647)),
  .inl (false, 0, 64, .inl (-2147483648, 2147483647)),
  .inl (false, 0, 64, .inl (0, 63)),
  .inl (false, 0, 64, .inl (0, 511)),
  .inl (false, 0, 54, .inl (-2147483648, 2147483647)),
  .inl (false, 0, 3584, .inl (-2147483648, 2147483647)),
  .inl (true, 0, 16, .inl (0, 255)),
  .inl (true, 0, 16, .inl (0, 5)),
  .inl (true, 0, 16, .inl (-2147483648, 2147483647)),
  .inl (false, 0, 1674, .inl (-2147483648, 2147483647)),
  .inl (false, 0, 50, .inl (-2147483648, 2147483647))]
noncomputable abbrev aΘ9 (E : zM → Prop) : aTh := (aT9, E, zpg)
def aH83 (E : zM → Prop) : Prop := aEs (aΘ9 E) ∧ aQe (aΘ9 E) 223 221 13 (0, 7) ∧ aQe (aΘ9 E) 224 221 13 (0, 7) ∧ aCv (aΘ9 E) 6 c9_X12_glowOf ∧ aCv (aΘ9 E) 4 c9_X12_leads ∧ aCv (aΘ9 E) 6 c9_X12_bits
abbrev c83_X12_fault : aCt := (207, [.inr (some [221]), .inl (-2147483648, 2147483647)], some (.inl (-2147483648, 2147483647)))
def a83_X12_fault_0 : List (Nat × aF) := [(0, a_ldi 1 1), (1, a_if c_ne c_eq 3 11), (4, a_lda 0 1), (5, a_gf aT9 12 10 (.inl (-2147483648, 2147483647))), (8, a_gt 24), (11, a_ldi 1 1), (12, a_pi (1) 1), (13, a_ic d_ne d_eq 3 23), (16, a_lda 0 1), (17, a_gf aT9 12 11 (.inl (-2147483648, 2147483647))), (20, a_gt 24), (23, a_pi (-1) 1)]
theorem p83_X12_fault_0 {E : zM → Prop} (h : aH83 E) : aP0 (aΘ9 E) 0 tX12_fault_0 a83_X12_fault_0 := ⟨rfl, aok_ldi, rfl, aok_if si_ne, rfl, aok_lda, rfl, aok_gf, rfl, aok_gt, rfl, aok_ldi, rfl, aok_pi rfl, rfl, aok_ic sj_ne, rfl, aok_lda, rfl, aok_gf, rfl, aok_gt, rfl, aok_pi rfl, trivial⟩
def a83_X12_fault_1 : List (Nat × aF) := [(24, a_ri false)]
theorem p83_X12_fault_1 {E : zM → Prop} (h : aH83 E) : aP0 (aΘ9 E) 0 tX12_fault_1 a83_X12_fault_1 := ⟨rfl, aok_ri, trivial⟩
def b83_X12_fault : aTb := [(24, a83_X12_fault_0), (100000, a83_X12_fault_1)]
theorem q83_X12_fault {E : zM → Prop} (h : aH83 E) : aP1 (aΘ9 E) 0 tX12_fault b83_X12_fault := ⟨rfl, p83_X12_fault_0 h, rfl, p83_X12_fault_1 h, trivial⟩
def n83_X12_fault : List aNd := []
theorem k83_X12_fault {E : zM → Prop} (h : aH83 E) : aCv (aΘ9 E) 1 c83_X12_fault := aMeth (D := 0) (c := c83_X12_fault) (tb := b83_X12_fault) (ns := n83_X12_fault) (fuel := 3000) rfl (q83_X12_fault h) (by decide +kernel)
abbrev c83_X12_isHome : aCt := (231, [.inr (some [221]), .inl (0, 0), .inl (0, 5)], some (.inl (0, 1)))
def a83_X12_isHome_0 : List (Nat × aF) := [(0, a_lda 0 1), (1, a_gf aT9 12 51 (.inr (some [252]))), (4, a_pi (6) 2), (6, a_ldi 1 1), (7, a_b2 g_mul), (8, a_ldi 2 1), (9, a_b2 g_add), (10, a_al aT9 0 (0, 63)), (11, a_lda 0 1), (12, a_gf aT9 12 26 (.inr (some [235]))), (15, a_pi (6) 2), (17, a_lda 0 1)]
theorem p83_X12_isHome_0 {E : zM → Prop} (h : aH83 E) : aP0 (aΘ9 E) 0 tX12_isHome_0 a83_X12_isHome_0 := ⟨rfl, aok_lda, rfl, aok_gf, rfl, aok_pi rfl, rfl, aok_ldi, rfl, aok_b2 sd_mul, rfl, aok_ldi, rfl, aok_b2 sd_add, rfl, aok_al, rfl, aok_lda, rfl, aok_gf, rfl, aok_pi rfl, rfl, aok_lda, trivial⟩
def a83_X12_isHome_1 : List (Nat × aF) := [(18, a_gf aT9 12 13 (.inl (0, 1))), (21, a_b2 g_mul), (22, a_ldi 2 1), (23, a_b2 g_add), (24, a_al aT9 0 (0, 63)), (25, a_ic d_ne d_eq 3 32), (28, a_pi (1) 1), (29, a_gt 33), (32, a_pi (0) 1), (33, a_ri true)]
theorem p83_X12_isHome_1 {E : zM → Prop} (h : aH83 E) : aP0 (aΘ9 E) 0 tX12_isHome_1 a83_X12_isHome_1 := ⟨rfl, aok_gf, rfl, aok_b2 sd_mul, rfl, aok_ldi, rfl, aok_b2 sd_add, rfl, aok_al, rfl, aok_ic sj_ne, rfl, aok_pi rfl, rfl, aok_gt, rfl, aok_pi rfl, rfl, aok_ri, trivial⟩
def b83_X12_isHome : aTb := [(18, a83_X12_isHome_0), (100000, a83_X12_isHome_1)]
theorem q83_X12_isHome {E : zM → Prop} (h : aH83 E) : aP1 (aΘ9 E) 0 tX12_isHome b83_X12_isHome := ⟨rfl, p83_X12_isHome_0 h, rfl, p83_X12_isHome_1 h, trivial⟩
def n83_X12_isHome : List aNd := []
theorem k83_X12_isHome {E : zM → Prop} (h : aH83 E) : aCv (aΘ9 E) 1 c83_X12_isHome := aMeth (D := 0) (c := c83_X12_isHome) (tb := b83_X12_isHome) (ns := n83_X12_isHome) (fuel := 3000) rfl (q83_X12_isHome h) (by decide +kernel)
abbrev c83_X12_homes : aCt := (238, [.inr (some [221]), .inl (0, 0)], some (.inl (-2147483648, 2147483647)))
def a83_X12_homes_0 : List (Nat × aF) := [(0, a_pi (0) 1), (1, a_sti 4 2 1), (2, a_pi (0) 1), (3, a_sti 4 3 1), (4, a_ldi 3 1), (5, a_lda 0 1), (6, a_gf aT9 12 24 (.inr (some [233]))), (9, a_lda 0 1), (10, a_gf aT9 12 13 (.inl (0, 1))), (13, a_al aT9 0 (0, 6)), (14, a_ic d_ge d_lt 3 40), (17, a_ldi 2 1)]
theorem p83_X12_homes_0 {E : zM → Prop} (h : aH83 E) : aP0 (aΘ9 E) 1 tX12_homes_0 a83_X12_homes_0 := ⟨rfl, aok_pi rfl, rfl, aok_sti, rfl, aok_pi rfl, rfl, aok_sti, rfl, aok_ldi, rfl, aok_lda, rfl, aok_gf, rfl, aok_lda, rfl, aok_gf, rfl, aok_al, rfl, aok_ic sj_ge, rfl, aok_ldi, trivial⟩
def a83_X12_homes_1 : List (Nat × aF) := [(18, a_lda 0 1), (19, a_ldi 1 1), (20, a_ldi 3 1), (21, a_cv aT9 c83_X12_isHome 2 12), (24, a_if c_eq c_ne 3 31), (27, a_pi (1) 1), (28, a_gt 32), (31, a_pi (0) 1), (32, a_b2 g_add), (33, a_sti 4 2 1), (34, a_iw 4 3 (1)), (37, a_gt 4)]
theorem p83_X12_homes_1 {E : zM → Prop} (h : aH83 E) : aP0 (aΘ9 E) 1 tX12_homes_1 a83_X12_homes_1 := ⟨rfl, aok_lda, rfl, aok_ldi, rfl, aok_ldi, rfl, aok_cv (c := c83_X12_isHome) (D' := 1) (k83_X12_isHome h) (by decide), rfl, aok_if si_eq, rfl, aok_pi rfl, rfl, aok_gt, rfl, aok_pi rfl, rfl, aok_b2 sd_add, rfl, aok_sti, rfl, aok_iw rfl, rfl, aok_gt, trivial⟩
def a83_X12_homes_2 : List (Nat × aF) := [(40, a_ldi 2 1), (41, a_ri false)]
theorem p83_X12_homes_2 {E : zM → Prop} (h : aH83 E) : aP0 (aΘ9 E) 1 tX12_homes_2 a83_X12_homes_2 := ⟨rfl, aok_ldi, rfl, aok_ri, trivial⟩
def b83_X12_homes : aTb := [(18, a83_X12_homes_0), (40, a83_X12_homes_1), (100000, a83_X12_homes_2)]
theorem q83_X12_homes {E : zM → Prop} (h : aH83 E) : aP1 (aΘ9 E) 1 tX12_homes b83_X12_homes := ⟨rfl, p83_X12_homes_0 h, rfl, p83_X12_homes_1 h, rfl, p83_X12_homes_2 h, trivial⟩
def n83_X12_homes : List aNd := [(4, [(0, .inr (some [221])), (1, .inl (0, 0)), (2, .inl (-2147483648, 2147483647)), (3, .inl (0, 6))], [(3, -1)], 6)]
theorem k83_X12_homes {E : zM → Prop} (h : aH83 E) : aCv (aΘ9 E) 2 c83_X12_homes := aMeth (D := 1) (c := c83_X12_homes) (tb := b83_X12_homes) (ns := n83_X12_homes) (fuel := 3000) rfl (q83_X12_homes h) (by decide +kernel)
abbrev c83_X12_gap : aCt := (227, [.inl (0, 63), .inl (0, 63)], some (.inl (-63, 63)))
def a83_X12_gap_0 : List (Nat × aF) := [(0, a_ldi 0 1), (1, a_ldi 1 1), (2, a_ic d_le d_gt 3 11), (5, a_ldi 0 1), (6, a_ldi 1 1), (7, a_b2 g_sub), (8, a_gt 14), (11, a_ldi 1 1), (12, a_ldi 0 1), (13, a_b2 g_sub), (14, a_ri false)]
theorem p83_X12_gap_0 {E : zM → Prop} (h : aH83 E) : aP0 (aΘ9 E) 0 tX12_gap_0 a83_X12_gap_0 := ⟨rfl, aok_ldi, rfl, aok_ldi, rfl, aok_ic sj_le, rfl, aok_ldi, rfl, aok_ldi, rfl, aok_b2 sd_sub, rfl, aok_gt, rfl, aok_ldi, rfl, aok_ldi, rfl, aok_b2 sd_sub, rfl, aok_ri, trivial⟩
def b83_X12_gap : aTb := [(100000, a83_X12_gap_0)]
theorem q83_X12_gap {E : zM → Prop} (h : aH83 E) : aP1 (aΘ9 E) 0 tX12_gap b83_X12_gap := ⟨rfl, p83_X12_gap_0 h, trivial⟩
def n83_X12_gap : List aNd := []
theorem k83_X12_gap {E : zM → Prop} (h : aH83 E) : aCv (aΘ9 E) 1 c83_X12_gap := aMeth (D := 0) (c := c83_X12_gap) (tb := b83_X12_gap) (ns := n83_X12_gap) (fuel := 3000) rfl (q83_X12_gap h) (by decide +kernel)
def a83_X12_has2_0 : List (Nat × aF) := [(0, a_ldi 0 1), (1, a_ldi 1 1), (2, a_b2 g_shr), (3, a_pi (1) 1), (4, a_b2 g_and), (5, a_pi (1) 1), (6, a_ic d_ne d_eq 3 13), (9, a_pi (1) 1), (10, a_gt 14), (13, a_pi (0) 1), (14, a_ri true)]
theorem p83_X12_has2_0 {E : zM → Prop} (h : aH83 E) : aP0 (aΘ9 E) 0 tX12_has2_0 a83_X12_has2_0 := ⟨rfl, aok_ldi, rfl, aok_ldi, rfl, aok_b2 sd_shr, rfl, aok_pi rfl, rfl, aok_b2 sd_and, rfl, aok_pi rfl, rfl, aok_ic sj_ne, rfl, aok_pi rfl, rfl, aok_gt, rfl, aok_pi rfl, rfl, aok_ri, trivial⟩
def b83_X12_has2 : aTb := [(100000, a83_X12_has2_0)]
theorem q83_X12_has2 {E : zM → Prop} (h : aH83 E) : aP1 (aΘ9 E) 0 tX12_has2 b83_X12_has2 := ⟨rfl, p83_X12_has2_0 h, trivial⟩
def a83_X12_is_0 : List (Nat × aF) := [(0, a_ldi 0 1), (1, a_ldi 1 1), (2, a_ic d_lt d_ge 3 14), (5, a_ldi 0 1), (6, a_ldi 2 1), (7, a_ic d_gt d_le 3 14), (10, a_pi (1) 1), (11, a_gt 15), (14, a_pi (0) 1), (15, a_ri true)]
theorem p83_X12_is_0 {E : zM → Prop} (h : aH83 E) : aP0 (aΘ9 E) 0 tX12_is_0 a83_X12_is_0 := ⟨rfl, aok_ldi, rfl, aok_ldi, rfl, aok_ic sj_lt, rfl, aok_ldi, rfl, aok_ldi, rfl, aok_ic sj_gt, rfl, aok_pi rfl, rfl, aok_gt, rfl, aok_pi rfl, rfl, aok_ri, trivial⟩
def b83_X12_is : aTb := [(100000, a83_X12_is_0)]
theorem q83_X12_is {E : zM → Prop} (h : aH83 E) : aP1 (aΘ9 E) 0 tX12_is b83_X12_is := ⟨rfl, p83_X12_is_0 h, trivial⟩
def a83_X12_isCell_0 : List (Nat × aF) := [(0, a_lda 0 1), (1, a_gf aT9 12 46 (.inl (0, 1))), (4, a_if c_eq c_ne 3 49), (7, a_ldi 1 1), (8, a_pi (0) 1), (9, a_lda 0 1), (10, a_gf aT9 12 14 (.inr (some [223]))), (13, a_lda 0 1), (14, a_gf aT9 12 13 (.inl (0, 1))), (17, a_ale aT9 223 221 13 2 (0, 7)), (18, a_pi (1) 1), (19, a_b2 g_sub)]
theorem p83_X12_isCell_0 {E : zM → Prop} (h : aH83 E) : aP0 (aΘ9 E) 1 tX12_isCell_0 a83_X12_isCell_0 := ⟨rfl, aok_lda, rfl, aok_gf, rfl, aok_if si_eq, rfl, aok_ldi, rfl, aok_pi rfl, rfl, aok_lda, rfl, aok_gf, rfl, aok_lda, rfl, aok_gf, rfl, aok_ale (n := 2) h.2.1, rfl, aok_pi rfl, rfl, aok_b2 sd_sub, trivial⟩
def a83_X12_isCell_1 : List (Nat × aF) := [(20, a_is b83_X12_is 400 3 3), (23, a_if c_eq c_ne 3 49), (26, a_ldi 2 1), (27, a_pi (0) 1), (28, a_lda 0 1), (29, a_gf aT9 12 15 (.inr (some [224]))), (32, a_lda 0 1), (33, a_gf aT9 12 13 (.inl (0, 1))), (36, a_ale aT9 224 221 13 2 (0, 7)), (37, a_pi (1) 1), (38, a_b2 g_sub), (39, a_is b83_X12_is 400 3 3)]
theorem p83_X12_isCell_1 {E : zM → Prop} (h : aH83 E) : aP0 (aΘ9 E) 1 tX12_isCell_1 a83_X12_isCell_1 := ⟨rfl, aok_is (D' := 0) rfl (q83_X12_is h) (by decide), rfl, aok_if si_eq, rfl, aok_ldi, rfl, aok_pi rfl, rfl, aok_lda, rfl, aok_gf, rfl, aok_lda, rfl, aok_gf, rfl, aok_ale (n := 2) h.2.2.1, rfl, aok_pi rfl, rfl, aok_b2 sd_sub, rfl, aok_is (D' := 0) rfl (q83_X12_is h) (by decide), trivial⟩
def a83_X12_isCell_2 : List (Nat × aF) := [(42, a_if c_eq c_ne 3 49), (45, a_pi (1) 1), (46, a_gt 50), (49, a_pi (0) 1), (50, a_ri true)]
theorem p83_X12_isCell_2 {E : zM → Prop} (h : aH83 E) : aP0 (aΘ9 E) 1 tX12_isCell_2 a83_X12_isCell_2 := ⟨rfl, aok_if si_eq, rfl, aok_pi rfl, rfl, aok_gt, rfl, aok_pi rfl, rfl, aok_ri, trivial⟩
def b83_X12_isCell : aTb := [(20, a83_X12_isCell_0), (42, a83_X12_isCell_1), (100000, a83_X12_isCell_2)]
theorem q83_X12_isCell {E : zM → Prop} (h : aH83 E) : aP1 (aΘ9 E) 1 tX12_isCell b83_X12_isCell := ⟨rfl, p83_X12_isCell_0 h, rfl, p83_X12_isCell_1 h, rfl, p83_X12_isCell_2 h, trivial⟩
def a83_X12_isCellOf_0 : List (Nat × aF) := [(0, a_ldi 1 1), (1, a_if c_lt c_ge 3 23), (4, a_lda 0 1), (5, a_ldi 1 1), (6, a_pi (8) 2), (8, a_d2 g_rem), (9, a_ldi 1 1), (10, a_pi (8) 2), (12, a_d2 g_div), (13, a_iv aT9 b83_X12_isCell 400 3 2 12), (16, a_if c_eq c_ne 3 23), (19, a_pi (1) 1)]
theorem p83_X12_isCellOf_0 {E : zM → Prop} (h : aH83 E) : aP0 (aΘ9 E) 2 tX12_isCellOf_0 a83_X12_isCellOf_0 := ⟨rfl, aok_ldi, rfl, aok_if si_lt, rfl, aok_lda, rfl, aok_ldi, rfl, aok_pi rfl, rfl, aok_d2 sp_rem, rfl, aok_ldi, rfl, aok_pi rfl, rfl, aok_d2 sp_div, rfl, aok_iv (D' := 1) rfl (q83_X12_isCell h) (by decide), rfl, aok_if si_eq, rfl, aok_pi rfl, trivial⟩
def a83_X12_isCellOf_1 : List (Nat × aF) := [(20, a_gt 24), (23, a_pi (0) 1), (24, a_ri true)]
theorem p83_X12_isCellOf_1 {E : zM → Prop} (h : aH83 E) : aP0 (aΘ9 E) 2 tX12_isCellOf_1 a83_X12_isCellOf_1 := ⟨rfl, aok_gt, rfl, aok_pi rfl, rfl, aok_ri, trivial⟩
def b83_X12_isCellOf : aTb := [(20, a83_X12_isCellOf_0), (100000, a83_X12_isCellOf_1)]
theorem q83_X12_isCellOf {E : zM → Prop} (h : aH83 E) : aP1 (aΘ9 E) 2 tX12_isCellOf b83_X12_isCellOf := ⟨rfl, p83_X12_isCellOf_0 h, rfl, p83_X12_isCellOf_1 h, trivial⟩
def a83_X12_isWall_0 : List (Nat × aF) := [(0, a_lda 0 1), (1, a_gf aT9 12 18 (.inr (some [227]))), (4, a_pi (64) 2), (6, a_lda 0 1), (7, a_gf aT9 12 13 (.inl (0, 1))), (10, a_b2 g_mul), (11, a_ldi 1 1), (12, a_b2 g_add), (13, a_al aT9 0 (0, 1)), (14, a_pi (1) 1), (15, a_ic d_ne d_eq 3 22), (18, a_pi (1) 1)]
theorem p83_X12_isWall_0 {E : zM → Prop} (h : aH83 E) : aP0 (aΘ9 E) 0 tX12_isWall_0 a83_X12_isWall_0 := ⟨rfl, aok_lda, rfl, aok_gf, rfl, aok_pi rfl, rfl, aok_lda, rfl, aok_gf, rfl, aok_b2 sd_mul, rfl, aok_ldi, rfl, aok_b2 sd_add, rfl, aok_al, rfl, aok_pi rfl, rfl, aok_ic sj_ne, rfl, aok_pi rfl, trivial⟩
def a83_X12_isWall_1 : List (Nat × aF) := [(19, a_gt 23), (22, a_pi (0) 1), (23, a_ri true)]
theorem p83_X12_isWall_1 {E : zM → Prop} (h : aH83 E) : aP0 (aΘ9 E) 0 tX12_isWall_1 a83_X12_isWall_1 := ⟨rfl, aok_gt, rfl, aok_pi rfl, rfl, aok_ri, trivial⟩
def b83_X12_isWall : aTb := [(19, a83_X12_isWall_0), (100000, a83_X12_isWall_1)]
theorem q83_X12_isWall {E : zM → Prop} (h : aH83 E) : aP1 (aΘ9 E) 0 tX12_isWall b83_X12_isWall := ⟨rfl, p83_X12_isWall_0 h, rfl, p83_X12_isWall_1 h, trivial⟩
abbrev c83_X12_lights : aCt := (228, [.inr (some [221]), .inl (0, 0), .inl (-1, -1)], none)
def a83_X12_lights_0 : List (Nat × aF) := [(0, a_pi (0) 1), (1, a_sti 7 3 1), (2, a_ldi 3 1), (3, a_pi (64) 2), (5, a_ic d_ge d_lt 3 21), (8, a_lda 0 1), (9, a_gf aT9 12 60 (.inr (some [258]))), (12, a_ldi 3 1), (13, a_pi (0) 1), (14, a_as aT9 0), (15, a_iw 7 3 (1)), (18, a_gt 2)]
theorem p83_X12_lights_0 {E : zM → Prop} (h : aH83 E) : aP0 (aΘ9 E) 6 tX12_lights_0 a83_X12_lights_0 := ⟨rfl, aok_pi rfl, rfl, aok_sti, rfl, aok_ldi, rfl, aok_pi rfl, rfl, aok_ic sj_ge, rfl, aok_lda, rfl, aok_gf, rfl, aok_ldi, rfl, aok_pi rfl, rfl, aok_as h.1, rfl, aok_iw rfl, rfl, aok_gt, trivial⟩
def a83_X12_lights_1 : List (Nat × aF) := [(21, a_pi (0) 1), (22, a_sti 7 3 1), (23, a_ldi 3 1), (24, a_lda 0 1), (25, a_gf aT9 12 19 (.inr (some [228]))), (28, a_lda 0 1), (29, a_gf aT9 12 13 (.inl (0, 1))), (32, a_al aT9 0 (0, 9)), (33, a_ic d_ge d_lt 3 164), (36, a_lda 0 1), (37, a_gf aT9 12 49 (.inr (some [250]))), (40, a_ldi 1 1)]
theorem p83_X12_lights_1 {E : zM → Prop} (h : aH83 E) : aP0 (aΘ9 E) 6 tX12_lights_1 a83_X12_lights_1 := ⟨rfl, aok_pi rfl, rfl, aok_sti, rfl, aok_ldi, rfl, aok_lda, rfl, aok_gf, rfl, aok_lda, rfl, aok_gf, rfl, aok_al, rfl, aok_ic sj_ge, rfl, aok_lda, rfl, aok_gf, rfl, aok_ldi, trivial⟩
def a83_X12_lights_2 : List (Nat × aF) := [(41, a_al aT9 0 (0, 511)), (42, a_ldi 3 1), (43, a_is b83_X12_has2 400 2 2), (46, a_if c_eq c_ne 3 158), (49, a_ldi 3 1), (50, a_ldi 2 1), (51, a_ic d_ne d_eq 3 57), (54, a_gt 158), (57, a_lda 0 1), (58, a_ldi 1 1), (59, a_ldi 3 1), (60, a_cv aT9 c9_X12_glowOf 2 12)]
theorem p83_X12_lights_2 {E : zM → Prop} (h : aH83 E) : aP0 (aΘ9 E) 6 tX12_lights_2 a83_X12_lights_2 := ⟨rfl, aok_al, rfl, aok_ldi, rfl, aok_is (D' := 0) rfl (q83_X12_has2 h) (by decide), rfl, aok_if si_eq, rfl, aok_ldi, rfl, aok_ldi, rfl, aok_ic sj_ne, rfl, aok_gt, rfl, aok_lda, rfl, aok_ldi, rfl, aok_ldi, rfl, aok_cv (c := c9_X12_glowOf) (D' := 6) h.2.2.2.1 (by decide), trivial⟩
def a83_X12_lights_3 : List (Nat × aF) := [(63, a_sti 7 4 2), (65, a_lda 0 1), (66, a_gf aT9 12 20 (.inr (some [229]))), (69, a_pi (9) 2), (71, a_lda 0 1), (72, a_gf aT9 12 13 (.inl (0, 1))), (75, a_b2 g_mul), (76, a_ldi 3 1), (77, a_b2 g_add), (78, a_al aT9 0 (0, 63)), (79, a_sti 7 5 2), (81, a_pi (0) 1)]
theorem p83_X12_lights_3 {E : zM → Prop} (h : aH83 E) : aP0 (aΘ9 E) 6 tX12_lights_3 a83_X12_lights_3 := ⟨rfl, aok_sti, rfl, aok_lda, rfl, aok_gf, rfl, aok_pi rfl, rfl, aok_lda, rfl, aok_gf, rfl, aok_b2 sd_mul, rfl, aok_ldi, rfl, aok_b2 sd_add, rfl, aok_al, rfl, aok_sti, rfl, aok_pi rfl, trivial⟩
def a83_X12_lights_4 : List (Nat × aF) := [(82, a_sti 7 6 2), (84, a_ldi 6 2), (86, a_pi (64) 2), (88, a_ic d_ge d_lt 3 158), (91, a_lda 0 1), (92, a_ldi 6 2), (94, a_iv aT9 b83_X12_isCellOf 400 2 1 12), (97, a_if c_eq c_ne 3 152), (100, a_lda 0 1), (101, a_ldi 6 2), (103, a_iv aT9 b83_X12_isWall 400 2 1 12), (106, a_if c_ne c_eq 3 152)]
theorem p83_X12_lights_4 {E : zM → Prop} (h : aH83 E) : aP0 (aΘ9 E) 6 tX12_lights_4 a83_X12_lights_4 := ⟨rfl, aok_sti, rfl, aok_ldi, rfl, aok_pi rfl, rfl, aok_ic sj_ge, rfl, aok_lda, rfl, aok_ldi, rfl, aok_iv (D' := 2) rfl (q83_X12_isCellOf h) (by decide), rfl, aok_if si_eq, rfl, aok_lda, rfl, aok_ldi, rfl, aok_iv (D' := 0) rfl (q83_X12_isWall h) (by decide), rfl, aok_if si_ne, trivial⟩
def a83_X12_lights_5 : List (Nat × aF) := [(109, a_ldi 6 2), (111, a_pi (8) 2), (113, a_d2 g_rem), (114, a_ldi 5 2), (116, a_pi (8) 2), (118, a_d2 g_rem), (119, a_cs c83_X12_gap 2), (122, a_ldi 6 2), (124, a_pi (8) 2), (126, a_d2 g_div), (127, a_ldi 5 2), (129, a_pi (8) 2)]
theorem p83_X12_lights_5 {E : zM → Prop} (h : aH83 E) : aP0 (aΘ9 E) 6 tX12_lights_5 a83_X12_lights_5 := ⟨rfl, aok_ldi, rfl, aok_pi rfl, rfl, aok_d2 sp_rem, rfl, aok_ldi, rfl, aok_pi rfl, rfl, aok_d2 sp_rem, rfl, aok_cs (c := c83_X12_gap) (D' := 1) (k83_X12_gap h) (by decide), rfl, aok_ldi, rfl, aok_pi rfl, rfl, aok_d2 sp_div, rfl, aok_ldi, rfl, aok_pi rfl, trivial⟩
def a83_X12_lights_6 : List (Nat × aF) := [(131, a_d2 g_div), (132, a_cs c83_X12_gap 2), (135, a_b2 g_add), (136, a_ldi 4 2), (138, a_ic d_gt d_le 3 152), (141, a_lda 0 1), (142, a_gf aT9 12 60 (.inr (some [258]))), (145, a_ldi 6 2), (147, a_d22), (148, a_al aT9 0 (-2147483648, 2147483647)), (149, a_pi (1) 1), (150, a_b2 g_add)]
theorem p83_X12_lights_6 {E : zM → Prop} (h : aH83 E) : aP0 (aΘ9 E) 6 tX12_lights_6 a83_X12_lights_6 := ⟨rfl, aok_d2 sp_div, rfl, aok_cs (c := c83_X12_gap) (D' := 1) (k83_X12_gap h) (by decide), rfl, aok_b2 sd_add, rfl, aok_ldi, rfl, aok_ic sj_gt, rfl, aok_lda, rfl, aok_gf, rfl, aok_ldi, rfl, aok_d22, rfl, aok_al, rfl, aok_pi rfl, rfl, aok_b2 sd_add, trivial⟩
def a83_X12_lights_7 : List (Nat × aF) := [(151, a_as aT9 0), (152, a_iw 7 6 (1)), (155, a_gt 84), (158, a_iw 7 3 (1)), (161, a_gt 23), (164, a_rv)]
theorem p83_X12_lights_7 {E : zM → Prop} (h : aH83 E) : aP0 (aΘ9 E) 6 tX12_lights_7 a83_X12_lights_7 := ⟨rfl, aok_as h.1, rfl, aok_iw rfl, rfl, aok_gt, rfl, aok_iw rfl, rfl, aok_gt, rfl, aok_rv, trivial⟩
def b83_X12_lights : aTb := [(21, a83_X12_lights_0), (41, a83_X12_lights_1), (63, a83_X12_lights_2), (82, a83_X12_lights_3), (109, a83_X12_lights_4), (131, a83_X12_lights_5), (151, a83_X12_lights_6), (100000, a83_X12_lights_7)]
theorem q83_X12_lights {E : zM → Prop} (h : aH83 E) : aP1 (aΘ9 E) 6 tX12_lights b83_X12_lights := ⟨rfl, p83_X12_lights_0 h, rfl, p83_X12_lights_1 h, rfl, p83_X12_lights_2 h, rfl, p83_X12_lights_3 h, rfl, p83_X12_lights_4 h, rfl, p83_X12_lights_5 h, rfl, p83_X12_lights_6 h, rfl, p83_X12_lights_7 h, trivial⟩
def n83_X12_lights : List aNd := [(2, [(0, .inr (some [221])), (1, .inl (0, 0)), (2, .inl (-1, -1)), (3, .inl (0, 64))], [(3, -1)], 801), (23, [(0, .inr (some [221])), (1, .inl (0, 0)), (2, .inl (-1, -1)), (3, .inl (0, 9))], [(3, -67)], 669), (84, [(0, .inr (some [221])), (1, .inl (0, 0)), (2, .inl (-1, -1)), (3, .inl (0, 8)), (4, .inl (-2147483648, 2147483647)), (5, .inl (0, 63)), (6, .inl (0, 64))], [(3, -67), (6, -1)], 667)]
theorem k83_X12_lights {E : zM → Prop} (h : aH83 E) : aCv (aΘ9 E) 7 c83_X12_lights := aMeth (D := 6) (c := c83_X12_lights) (tb := b83_X12_lights) (ns := n83_X12_lights) (fuel := 3000) rfl (q83_X12_lights h) (by decide +kernel)
abbrev c83_X12_has : aCt := (239, [.inr (some [221]), .inl (-2147483648, 2147483647)], some (.inl (-2147483648, 2147483647)))
def a83_X12_has_0 : List (Nat × aF) := [(0, a_pi (0) 1), (1, a_sti 4 2 1), (2, a_ldi 1 1), (3, a_ts [(0, 68), (1, 78), (2, 88), (3, 128), (4, 138), (5, 148), (6, 155), (7, 165), (8, 204), (9, 210), (10, 217), (11, 222), (12, 227)] 233), (68, a_lda 0 1), (69, a_gf aT9 12 14 (.inr (some [223]))), (72, a_lda 0 1), (73, a_gf aT9 12 13 (.inl (0, 1))), (76, a_al aT9 0 (-2147483648, 2147483647)), (77, a_ri false), (78, a_lda 0 1), (79, a_gf aT9 12 15 (.inr (some [224])))]
theorem p83_X12_has_0 {E : zM → Prop} (h : aH83 E) : aP0 (aΘ9 E) 7 tX12_has_0 a83_X12_has_0 := ⟨rfl, aok_pi rfl, rfl, aok_sti, rfl, aok_ldi, rfl, aok_ts, rfl, aok_lda, rfl, aok_gf, rfl, aok_lda, rfl, aok_gf, rfl, aok_al, rfl, aok_ri, rfl, aok_lda, rfl, aok_gf, trivial⟩
def a83_X12_has_1 : List (Nat × aF) := [(82, a_lda 0 1), (83, a_gf aT9 12 13 (.inl (0, 1))), (86, a_al aT9 0 (-2147483648, 2147483647)), (87, a_ri false), (88, a_pi (0) 1), (89, a_sti 4 3 1), (90, a_ldi 3 1), (91, a_pi (64) 2), (93, a_ic d_ge d_lt 3 126), (96, a_ldi 2 1), (97, a_lda 0 1), (98, a_ldi 3 1)]
theorem p83_X12_has_1 {E : zM → Prop} (h : aH83 E) : aP0 (aΘ9 E) 7 tX12_has_1 a83_X12_has_1 := ⟨rfl, aok_lda, rfl, aok_gf, rfl, aok_al, rfl, aok_ri, rfl, aok_pi rfl, rfl, aok_sti, rfl, aok_ldi, rfl, aok_pi rfl, rfl, aok_ic sj_ge, rfl, aok_ldi, rfl, aok_lda, rfl, aok_ldi, trivial⟩
def a83_X12_has_2 : List (Nat × aF) := [(99, a_iv aT9 b83_X12_isCellOf 400 2 1 12), (102, a_if c_eq c_ne 3 117), (105, a_lda 0 1), (106, a_ldi 3 1), (107, a_iv aT9 b83_X12_isWall 400 2 1 12), (110, a_if c_eq c_ne 3 117), (113, a_pi (1) 1), (114, a_gt 118), (117, a_pi (0) 1), (118, a_b2 g_add), (119, a_sti 4 2 1), (120, a_iw 4 3 (1))]
theorem p83_X12_has_2 {E : zM → Prop} (h : aH83 E) : aP0 (aΘ9 E) 7 tX12_has_2 a83_X12_has_2 := ⟨rfl, aok_iv (D' := 2) rfl (q83_X12_isCellOf h) (by decide), rfl, aok_if si_eq, rfl, aok_lda, rfl, aok_ldi, rfl, aok_iv (D' := 0) rfl (q83_X12_isWall h) (by decide), rfl, aok_if si_eq, rfl, aok_pi rfl, rfl, aok_gt, rfl, aok_pi rfl, rfl, aok_b2 sd_add, rfl, aok_sti, rfl, aok_iw rfl, trivial⟩
def a83_X12_has_3 : List (Nat × aF) := [(123, a_gt 90), (126, a_ldi 2 1), (127, a_ri false), (128, a_lda 0 1), (129, a_gf aT9 12 19 (.inr (some [228]))), (132, a_lda 0 1), (133, a_gf aT9 12 13 (.inl (0, 1))), (136, a_al aT9 0 (0, 9)), (137, a_ri false), (138, a_lda 0 1), (139, a_gf aT9 12 24 (.inr (some [233]))), (142, a_lda 0 1)]
theorem p83_X12_has_3 {E : zM → Prop} (h : aH83 E) : aP0 (aΘ9 E) 7 tX12_has_3 a83_X12_has_3 := ⟨rfl, aok_gt, rfl, aok_ldi, rfl, aok_ri, rfl, aok_lda, rfl, aok_gf, rfl, aok_lda, rfl, aok_gf, rfl, aok_al, rfl, aok_ri, rfl, aok_lda, rfl, aok_gf, rfl, aok_lda, trivial⟩
def a83_X12_has_4 : List (Nat × aF) := [(143, a_gf aT9 12 13 (.inl (0, 1))), (146, a_al aT9 0 (0, 6)), (147, a_ri false), (148, a_lda 0 1), (149, a_gf aT9 12 48 (.inr (some [249]))), (152, a_pi (0) 1), (153, a_al aT9 0 (-2147483648, 2147483647)), (154, a_ri false), (155, a_lda 0 1), (156, a_gf aT9 12 49 (.inr (some [250]))), (159, a_pi (0) 1), (160, a_al aT9 0 (0, 511))]
theorem p83_X12_has_4 {E : zM → Prop} (h : aH83 E) : aP0 (aΘ9 E) 7 tX12_has_4 a83_X12_has_4 := ⟨rfl, aok_gf, rfl, aok_al, rfl, aok_ri, rfl, aok_lda, rfl, aok_gf, rfl, aok_pi rfl, rfl, aok_al, rfl, aok_ri, rfl, aok_lda, rfl, aok_gf, rfl, aok_pi rfl, rfl, aok_al, trivial⟩
def a83_X12_has_5 : List (Nat × aF) := [(161, a_cs c9_X12_bits 1), (164, a_ri false), (165, a_lda 0 1), (166, a_pi (0) 1), (167, a_pi (-1) 1), (168, a_cv aT9 c83_X12_lights 2 12), (171, a_pi (0) 1), (172, a_sti 4 3 1), (173, a_ldi 3 1), (174, a_pi (64) 2), (176, a_ic d_ge d_lt 3 202), (179, a_ldi 2 1)]
theorem p83_X12_has_5 {E : zM → Prop} (h : aH83 E) : aP0 (aΘ9 E) 7 tX12_has_5 a83_X12_has_5 := ⟨rfl, aok_cs (c := c9_X12_bits) (D' := 6) h.2.2.2.2.2 (by decide), rfl, aok_ri, rfl, aok_lda, rfl, aok_pi rfl, rfl, aok_pi rfl, rfl, aok_cv (c := c83_X12_lights) (D' := 7) (k83_X12_lights h) (by decide), rfl, aok_pi rfl, rfl, aok_sti, rfl, aok_ldi, rfl, aok_pi rfl, rfl, aok_ic sj_ge, rfl, aok_ldi, trivial⟩
def a83_X12_has_6 : List (Nat × aF) := [(180, a_lda 0 1), (181, a_gf aT9 12 60 (.inr (some [258]))), (184, a_ldi 3 1), (185, a_al aT9 0 (-2147483648, 2147483647)), (186, a_if c_le c_gt 3 193), (189, a_pi (1) 1), (190, a_gt 194), (193, a_pi (0) 1), (194, a_b2 g_add), (195, a_sti 4 2 1), (196, a_iw 4 3 (1)), (199, a_gt 173)]
theorem p83_X12_has_6 {E : zM → Prop} (h : aH83 E) : aP0 (aΘ9 E) 7 tX12_has_6 a83_X12_has_6 := ⟨rfl, aok_lda, rfl, aok_gf, rfl, aok_ldi, rfl, aok_al, rfl, aok_if si_le, rfl, aok_pi rfl, rfl, aok_gt, rfl, aok_pi rfl, rfl, aok_b2 sd_add, rfl, aok_sti, rfl, aok_iw rfl, rfl, aok_gt, trivial⟩
def a83_X12_has_7 : List (Nat × aF) := [(202, a_ldi 2 1), (203, a_ri false), (204, a_lda 0 1), (205, a_pi (0) 1), (206, a_cv aT9 c83_X12_homes 1 12), (209, a_ri false), (210, a_lda 0 1), (211, a_gf aT9 12 52 (.inr (some [253]))), (214, a_pi (0) 1), (215, a_al aT9 0 (0, 40)), (216, a_ri false), (217, a_lda 0 1)]
theorem p83_X12_has_7 {E : zM → Prop} (h : aH83 E) : aP0 (aΘ9 E) 7 tX12_has_7 a83_X12_has_7 := ⟨rfl, aok_ldi, rfl, aok_ri, rfl, aok_lda, rfl, aok_pi rfl, rfl, aok_cv (c := c83_X12_homes) (D' := 2) (k83_X12_homes h) (by decide), rfl, aok_ri, rfl, aok_lda, rfl, aok_gf, rfl, aok_pi rfl, rfl, aok_al, rfl, aok_ri, rfl, aok_lda, trivial⟩
def a83_X12_has_8 : List (Nat × aF) := [(218, a_gf aT9 12 66 (.inl (0, 16))), (221, a_ri false), (222, a_lda 0 1), (223, a_gf aT9 12 55 (.inl (0, 20))), (226, a_ri false), (227, a_lda 0 1), (228, a_gf aT9 12 56 (.inr none)), (231, a_l2i), (232, a_ri false), (233, a_pi (-1) 1), (234, a_ri false)]
theorem p83_X12_has_8 {E : zM → Prop} (h : aH83 E) : aP0 (aΘ9 E) 7 tX12_has_8 a83_X12_has_8 := ⟨rfl, aok_gf, rfl, aok_ri, rfl, aok_lda, rfl, aok_gf, rfl, aok_ri, rfl, aok_lda, rfl, aok_gf, rfl, aok_l2i, rfl, aok_ri, rfl, aok_pi rfl, rfl, aok_ri, trivial⟩
def b83_X12_has : aTb := [(82, a83_X12_has_0), (99, a83_X12_has_1), (123, a83_X12_has_2), (143, a83_X12_has_3), (161, a83_X12_has_4), (180, a83_X12_has_5), (202, a83_X12_has_6), (218, a83_X12_has_7), (100000, a83_X12_has_8)]
theorem q83_X12_has {E : zM → Prop} (h : aH83 E) : aP1 (aΘ9 E) 7 tX12_has b83_X12_has := ⟨rfl, p83_X12_has_0 h, rfl, p83_X12_has_1 h, rfl, p83_X12_has_2 h, rfl, p83_X12_has_3 h, rfl, p83_X12_has_4 h, rfl, p83_X12_has_5 h, rfl, p83_X12_has_6 h, rfl, p83_X12_has_7 h, rfl, p83_X12_has_8 h, trivial⟩
def n83_X12_has : List aNd := [(90, [(0, .inr (some [221])), (1, .inl (2, 2)), (2, .inl (-2147483648, 2147483647)), (3, .inl (0, 64))], [(3, -1)], 130), (173, [(0, .inr (some [221])), (1, .inl (7, 7)), (2, .inl (-2147483648, 2147483647)), (3, .inl (0, 64))], [(3, -1)], 64)]
theorem k83_X12_has {E : zM → Prop} (h : aH83 E) : aCv (aΘ9 E) 8 c83_X12_has := aMeth (D := 7) (c := c83_X12_has) (tb := b83_X12_has) (ns := n83_X12_has) (fuel := 3000) rfl (q83_X12_has h) (by decide +kernel)
abbrev c83_X12_cell : aCt := (241, [.inr (some [221]), .inl (-2147483648, 2147483647), .inl (-2147483648, 2147483647), .inl (-2147483648, 2147483647)], some (.inl (-2147483648, 2147483647)))
def a83_X12_cell_0 : List (Nat × aF) := [(0, a_lda 0 1), (1, a_ldi 1 1), (2, a_ldi 2 1), (3, a_iv aT9 b83_X12_isCell 400 3 2 12), (6, a_if c_ne c_eq 3 11), (9, a_pi (-1) 1), (10, a_ri false), (11, a_pi (8) 2), (13, a_ldi 2 1), (14, a_b2 g_mul), (15, a_ldi 1 1), (16, a_b2 g_add)]
theorem p83_X12_cell_0 {E : zM → Prop} (h : aH83 E) : aP0 (aΘ9 E) 7 tX12_cell_0 a83_X12_cell_0 := ⟨rfl, aok_lda, rfl, aok_ldi, rfl, aok_ldi, rfl, aok_iv (D' := 1) rfl (q83_X12_isCell h) (by decide), rfl, aok_if si_ne, rfl, aok_pi rfl, rfl, aok_ri, rfl, aok_pi rfl, rfl, aok_ldi, rfl, aok_b2 sd_mul, rfl, aok_ldi, rfl, aok_b2 sd_add, trivial⟩
def a83_X12_cell_1 : List (Nat × aF) := [(17, a_sti 5 4 2), (19, a_lda 0 1), (20, a_pi (0) 1), (21, a_pi (-1) 1), (22, a_cv aT9 c83_X12_lights 2 12), (25, a_ldi 3 1), (26, a_if c_ne c_eq 3 47), (29, a_lda 0 1), (30, a_gf aT9 12 18 (.inr (some [227]))), (33, a_pi (64) 2), (35, a_lda 0 1), (36, a_gf aT9 12 13 (.inl (0, 1)))]
theorem p83_X12_cell_1 {E : zM → Prop} (h : aH83 E) : aP0 (aΘ9 E) 7 tX12_cell_1 a83_X12_cell_1 := ⟨rfl, aok_sti, rfl, aok_lda, rfl, aok_pi rfl, rfl, aok_pi rfl, rfl, aok_cv (c := c83_X12_lights) (D' := 7) (k83_X12_lights h) (by decide), rfl, aok_ldi, rfl, aok_if si_ne, rfl, aok_lda, rfl, aok_gf, rfl, aok_pi rfl, rfl, aok_lda, rfl, aok_gf, trivial⟩
def a83_X12_cell_2 : List (Nat × aF) := [(39, a_b2 g_mul), (40, a_ldi 4 2), (42, a_b2 g_add), (43, a_al aT9 0 (0, 1)), (44, a_gt 86), (47, a_ldi 3 1), (48, a_pi (1) 1), (49, a_ic d_ne d_eq 3 70), (52, a_lda 0 1), (53, a_gf aT9 12 60 (.inr (some [258]))), (56, a_ldi 4 2), (58, a_al aT9 0 (-2147483648, 2147483647))]
theorem p83_X12_cell_2 {E : zM → Prop} (h : aH83 E) : aP0 (aΘ9 E) 7 tX12_cell_2 a83_X12_cell_2 := ⟨rfl, aok_b2 sd_mul, rfl, aok_ldi, rfl, aok_b2 sd_add, rfl, aok_al, rfl, aok_gt, rfl, aok_ldi, rfl, aok_pi rfl, rfl, aok_ic sj_ne, rfl, aok_lda, rfl, aok_gf, rfl, aok_ldi, rfl, aok_al, trivial⟩
def a83_X12_cell_3 : List (Nat × aF) := [(59, a_if c_le c_gt 3 66), (62, a_pi (1) 1), (63, a_gt 86), (66, a_pi (0) 1), (67, a_gt 86), (70, a_ldi 3 1), (71, a_pi (2) 1), (72, a_ic d_ne d_eq 3 85), (75, a_lda 0 1), (76, a_gf aT9 12 60 (.inr (some [258]))), (79, a_ldi 4 2), (81, a_al aT9 0 (-2147483648, 2147483647))]
theorem p83_X12_cell_3 {E : zM → Prop} (h : aH83 E) : aP0 (aΘ9 E) 7 tX12_cell_3 a83_X12_cell_3 := ⟨rfl, aok_if si_le, rfl, aok_pi rfl, rfl, aok_gt, rfl, aok_pi rfl, rfl, aok_gt, rfl, aok_ldi, rfl, aok_pi rfl, rfl, aok_ic sj_ne, rfl, aok_lda, rfl, aok_gf, rfl, aok_ldi, rfl, aok_al, trivial⟩
def a83_X12_cell_4 : List (Nat × aF) := [(82, a_gt 86), (85, a_pi (-1) 1), (86, a_ri false)]
theorem p83_X12_cell_4 {E : zM → Prop} (h : aH83 E) : aP0 (aΘ9 E) 7 tX12_cell_4 a83_X12_cell_4 := ⟨rfl, aok_gt, rfl, aok_pi rfl, rfl, aok_ri, trivial⟩
def b83_X12_cell : aTb := [(17, a83_X12_cell_0), (39, a83_X12_cell_1), (59, a83_X12_cell_2), (82, a83_X12_cell_3), (100000, a83_X12_cell_4)]
theorem q83_X12_cell {E : zM → Prop} (h : aH83 E) : aP1 (aΘ9 E) 7 tX12_cell b83_X12_cell := ⟨rfl, p83_X12_cell_0 h, rfl, p83_X12_cell_1 h, rfl, p83_X12_cell_2 h, rfl, p83_X12_cell_3 h, rfl, p83_X12_cell_4 h, trivial⟩
def n83_X12_cell : List aNd := []
theorem k83_X12_cell {E : zM → Prop} (h : aH83 E) : aCv (aΘ9 E) 8 c83_X12_cell := aMeth (D := 7) (c := c83_X12_cell) (tb := b83_X12_cell) (ns := n83_X12_cell) (fuel := 3000) rfl (q83_X12_cell h) (by decide +kernel)
def a83_X12_isThing_0 : List (Nat × aF) := [(0, a_ldi 1 1), (1, a_if c_lt c_ge 3 21), (4, a_ldi 1 1), (5, a_lda 0 1), (6, a_gf aT9 12 19 (.inr (some [228]))), (9, a_lda 0 1), (10, a_gf aT9 12 13 (.inl (0, 1))), (13, a_al aT9 0 (0, 9)), (14, a_ic d_ge d_lt 3 21), (17, a_pi (1) 1), (18, a_gt 22), (21, a_pi (0) 1)]
theorem p83_X12_isThing_0 {E : zM → Prop} (h : aH83 E) : aP0 (aΘ9 E) 0 tX12_isThing_0 a83_X12_isThing_0 := ⟨rfl, aok_ldi, rfl, aok_if si_lt, rfl, aok_ldi, rfl, aok_lda, rfl, aok_gf, rfl, aok_lda, rfl, aok_gf, rfl, aok_al, rfl, aok_ic sj_ge, rfl, aok_pi rfl, rfl, aok_gt, rfl, aok_pi rfl, trivial⟩
def a83_X12_isThing_1 : List (Nat × aF) := [(22, a_ri true)]
theorem p83_X12_isThing_1 {E : zM → Prop} (h : aH83 E) : aP0 (aΘ9 E) 0 tX12_isThing_1 a83_X12_isThing_1 := ⟨rfl, aok_ri, trivial⟩
def b83_X12_isThing : aTb := [(22, a83_X12_isThing_0), (100000, a83_X12_isThing_1)]
theorem q83_X12_isThing {E : zM → Prop} (h : aH83 E) : aP1 (aΘ9 E) 0 tX12_isThing b83_X12_isThing := ⟨rfl, p83_X12_isThing_0 h, rfl, p83_X12_isThing_1 h, trivial⟩
def a83_X12_partOf_0 : List (Nat × aF) := [(0, a_ldi 1 1), (1, a_if c_ne c_eq 3 11), (4, a_ldi 0 1), (5, a_pi (8) 2), (7, a_d2 g_rem), (8, a_gt 15), (11, a_ldi 0 1), (12, a_pi (8) 2), (14, a_d2 g_div), (15, a_ri false)]
theorem p83_X12_partOf_0 {E : zM → Prop} (h : aH83 E) : aP0 (aΘ9 E) 0 tX12_partOf_0 a83_X12_partOf_0 := ⟨rfl, aok_ldi, rfl, aok_if si_ne, rfl, aok_ldi, rfl, aok_pi rfl, rfl, aok_d2 sp_rem, rfl, aok_gt, rfl, aok_ldi, rfl, aok_pi rfl, rfl, aok_d2 sp_div, rfl, aok_ri, trivial⟩
def b83_X12_partOf : aTb := [(100000, a83_X12_partOf_0)]
theorem q83_X12_partOf {E : zM → Prop} (h : aH83 E) : aP1 (aΘ9 E) 0 tX12_partOf b83_X12_partOf := ⟨rfl, p83_X12_partOf_0 h, trivial⟩
abbrev c83_X12_thing : aCt := (243, [.inr (some [221]), .inl (-2147483648, 2147483647), .inl (-2147483648, 2147483647)], some (.inl (-2147483648, 2147483647)))
def a83_X12_thing_0 : List (Nat × aF) := [(0, a_lda 0 1), (1, a_ldi 1 1), (2, a_iv aT9 b83_X12_isThing 400 2 1 12), (5, a_if c_ne c_eq 3 10), (8, a_pi (-1) 1), (9, a_ri false), (10, a_ldi 2 1), (11, a_ts [(0, 52), (1, 52), (2, 71), (3, 86), (4, 101), (5, 120), (6, 127)] 151), (52, a_lda 0 1), (53, a_gf aT9 12 20 (.inr (some [229]))), (56, a_pi (9) 2), (58, a_lda 0 1)]
theorem p83_X12_thing_0 {E : zM → Prop} (h : aH83 E) : aP0 (aΘ9 E) 6 tX12_thing_0 a83_X12_thing_0 := ⟨rfl, aok_lda, rfl, aok_ldi, rfl, aok_iv (D' := 0) rfl (q83_X12_isThing h) (by decide), rfl, aok_if si_ne, rfl, aok_pi rfl, rfl, aok_ri, rfl, aok_ldi, rfl, aok_ts, rfl, aok_lda, rfl, aok_gf, rfl, aok_pi rfl, rfl, aok_lda, trivial⟩
def a83_X12_thing_1 : List (Nat × aF) := [(59, a_gf aT9 12 13 (.inl (0, 1))), (62, a_b2 g_mul), (63, a_ldi 1 1), (64, a_b2 g_add), (65, a_al aT9 0 (0, 63)), (66, a_ldi 2 1), (67, a_is b83_X12_partOf 400 2 2), (70, a_ri false), (71, a_lda 0 1), (72, a_gf aT9 12 21 (.inr (some [230]))), (75, a_pi (9) 2), (77, a_lda 0 1)]
theorem p83_X12_thing_1 {E : zM → Prop} (h : aH83 E) : aP0 (aΘ9 E) 6 tX12_thing_1 a83_X12_thing_1 := ⟨rfl, aok_gf, rfl, aok_b2 sd_mul, rfl, aok_ldi, rfl, aok_b2 sd_add, rfl, aok_al, rfl, aok_ldi, rfl, aok_is (D' := 0) rfl (q83_X12_partOf h) (by decide), rfl, aok_ri, rfl, aok_lda, rfl, aok_gf, rfl, aok_pi rfl, rfl, aok_lda, trivial⟩
def a83_X12_thing_2 : List (Nat × aF) := [(78, a_gf aT9 12 13 (.inl (0, 1))), (81, a_b2 g_mul), (82, a_ldi 1 1), (83, a_b2 g_add), (84, a_al aT9 0 (-2147483648, 2147483647)), (85, a_ri false), (86, a_lda 0 1), (87, a_gf aT9 12 22 (.inr (some [231]))), (90, a_pi (9) 2), (92, a_lda 0 1), (93, a_gf aT9 12 13 (.inl (0, 1))), (96, a_b2 g_mul)]
theorem p83_X12_thing_2 {E : zM → Prop} (h : aH83 E) : aP0 (aΘ9 E) 6 tX12_thing_2 a83_X12_thing_2 := ⟨rfl, aok_gf, rfl, aok_b2 sd_mul, rfl, aok_ldi, rfl, aok_b2 sd_add, rfl, aok_al, rfl, aok_ri, rfl, aok_lda, rfl, aok_gf, rfl, aok_pi rfl, rfl, aok_lda, rfl, aok_gf, rfl, aok_b2 sd_mul, trivial⟩
def a83_X12_thing_3 : List (Nat × aF) := [(97, a_ldi 1 1), (98, a_b2 g_add), (99, a_al aT9 0 (-2147483648, 2147483647)), (100, a_ri false), (101, a_lda 0 1), (102, a_gf aT9 12 49 (.inr (some [250]))), (105, a_pi (0) 1), (106, a_al aT9 0 (0, 511)), (107, a_ldi 1 1), (108, a_is b83_X12_has2 400 2 2), (111, a_if c_eq c_ne 3 118), (114, a_pi (1) 1)]
theorem p83_X12_thing_3 {E : zM → Prop} (h : aH83 E) : aP0 (aΘ9 E) 6 tX12_thing_3 a83_X12_thing_3 := ⟨rfl, aok_ldi, rfl, aok_b2 sd_add, rfl, aok_al, rfl, aok_ri, rfl, aok_lda, rfl, aok_gf, rfl, aok_pi rfl, rfl, aok_al, rfl, aok_ldi, rfl, aok_is (D' := 0) rfl (q83_X12_has2 h) (by decide), rfl, aok_if si_eq, rfl, aok_pi rfl, trivial⟩
def a83_X12_thing_4 : List (Nat × aF) := [(115, a_gt 119), (118, a_pi (0) 1), (119, a_ri false), (120, a_lda 0 1), (121, a_gf aT9 12 50 (.inr (some [251]))), (124, a_ldi 1 1), (125, a_al aT9 0 (-2147483648, 2147483647)), (126, a_ri false), (127, a_lda 0 1), (128, a_gf aT9 12 49 (.inr (some [250]))), (131, a_pi (0) 1), (132, a_al aT9 0 (0, 511))]
theorem p83_X12_thing_4 {E : zM → Prop} (h : aH83 E) : aP0 (aΘ9 E) 6 tX12_thing_4 a83_X12_thing_4 := ⟨rfl, aok_gt, rfl, aok_pi rfl, rfl, aok_ri, rfl, aok_lda, rfl, aok_gf, rfl, aok_ldi, rfl, aok_al, rfl, aok_ri, rfl, aok_lda, rfl, aok_gf, rfl, aok_pi rfl, rfl, aok_al, trivial⟩
def a83_X12_thing_5 : List (Nat × aF) := [(133, a_ldi 1 1), (134, a_is b83_X12_has2 400 2 2), (137, a_if c_eq c_ne 3 149), (140, a_lda 0 1), (141, a_pi (0) 1), (142, a_ldi 1 1), (143, a_cv aT9 c9_X12_glowOf 2 12), (146, a_gt 150), (149, a_pi (-1) 1), (150, a_ri false), (151, a_pi (-1) 1), (152, a_ri false)]
theorem p83_X12_thing_5 {E : zM → Prop} (h : aH83 E) : aP0 (aΘ9 E) 6 tX12_thing_5 a83_X12_thing_5 := ⟨rfl, aok_ldi, rfl, aok_is (D' := 0) rfl (q83_X12_has2 h) (by decide), rfl, aok_if si_eq, rfl, aok_lda, rfl, aok_pi rfl, rfl, aok_ldi, rfl, aok_cv (c := c9_X12_glowOf) (D' := 6) h.2.2.2.1 (by decide), rfl, aok_gt, rfl, aok_pi rfl, rfl, aok_ri, rfl, aok_pi rfl, rfl, aok_ri, trivial⟩
def b83_X12_thing : aTb := [(59, a83_X12_thing_0), (78, a83_X12_thing_1), (97, a83_X12_thing_2), (115, a83_X12_thing_3), (133, a83_X12_thing_4), (100000, a83_X12_thing_5)]
theorem q83_X12_thing {E : zM → Prop} (h : aH83 E) : aP1 (aΘ9 E) 6 tX12_thing b83_X12_thing := ⟨rfl, p83_X12_thing_0 h, rfl, p83_X12_thing_1 h, rfl, p83_X12_thing_2 h, rfl, p83_X12_thing_3 h, rfl, p83_X12_thing_4 h, rfl, p83_X12_thing_5 h, trivial⟩
def n83_X12_thing : List aNd := []
theorem k83_X12_thing {E : zM → Prop} (h : aH83 E) : aCv (aΘ9 E) 7 c83_X12_thing := aMeth (D := 6) (c := c83_X12_thing) (tb := b83_X12_thing) (ns := n83_X12_thing) (fuel := 3000) rfl (q83_X12_thing h) (by decide +kernel)
def a83_X12_isFolk_0 : List (Nat × aF) := [(0, a_ldi 1 1), (1, a_if c_lt c_ge 3 21), (4, a_ldi 1 1), (5, a_lda 0 1), (6, a_gf aT9 12 24 (.inr (some [233]))), (9, a_lda 0 1), (10, a_gf aT9 12 13 (.inl (0, 1))), (13, a_al aT9 0 (0, 6)), (14, a_ic d_ge d_lt 3 21), (17, a_pi (1) 1), (18, a_gt 22), (21, a_pi (0) 1)]
theorem p83_X12_isFolk_0 {E : zM → Prop} (h : aH83 E) : aP0 (aΘ9 E) 0 tX12_isFolk_0 a83_X12_isFolk_0 := ⟨rfl, aok_ldi, rfl, aok_if si_lt, rfl, aok_ldi, rfl, aok_lda, rfl, aok_gf, rfl, aok_lda, rfl, aok_gf, rfl, aok_al, rfl, aok_ic sj_ge, rfl, aok_pi rfl, rfl, aok_gt, rfl, aok_pi rfl, trivial⟩
def a83_X12_isFolk_1 : List (Nat × aF) := [(22, a_ri true)]
theorem p83_X12_isFolk_1 {E : zM → Prop} (h : aH83 E) : aP0 (aΘ9 E) 0 tX12_isFolk_1 a83_X12_isFolk_1 := ⟨rfl, aok_ri, trivial⟩
def b83_X12_isFolk : aTb := [(22, a83_X12_isFolk_0), (100000, a83_X12_isFolk_1)]
theorem q83_X12_isFolk {E : zM → Prop} (h : aH83 E) : aP1 (aΘ9 E) 0 tX12_isFolk b83_X12_isFolk := ⟨rfl, p83_X12_isFolk_0 h, rfl, p83_X12_isFolk_1 h, trivial⟩
abbrev c83_X12_folk : aCt := (244, [.inr (some [221]), .inl (-2147483648, 2147483647), .inl (-2147483648, 2147483647)], some (.inl (-2147483648, 2147483647)))
def a83_X12_folk_0 : List (Nat × aF) := [(0, a_lda 0 1), (1, a_ldi 1 1), (2, a_iv aT9 b83_X12_isFolk 400 2 1 12), (5, a_if c_ne c_eq 3 10), (8, a_pi (-1) 1), (9, a_ri false), (10, a_ldi 2 1), (11, a_ts [(0, 44), (1, 44), (2, 55), (3, 55), (4, 76)] 134), (44, a_lda 0 1), (45, a_gf aT9 12 51 (.inr (some [252]))), (48, a_ldi 1 1), (49, a_al aT9 0 (0, 63))]
theorem p83_X12_folk_0 {E : zM → Prop} (h : aH83 E) : aP0 (aΘ9 E) 7 tX12_folk_0 a83_X12_folk_0 := ⟨rfl, aok_lda, rfl, aok_ldi, rfl, aok_iv (D' := 0) rfl (q83_X12_isFolk h) (by decide), rfl, aok_if si_ne, rfl, aok_pi rfl, rfl, aok_ri, rfl, aok_ldi, rfl, aok_ts, rfl, aok_lda, rfl, aok_gf, rfl, aok_ldi, rfl, aok_al, trivial⟩
def a83_X12_folk_1 : List (Nat × aF) := [(50, a_ldi 2 1), (51, a_is b83_X12_partOf 400 2 2), (54, a_ri false), (55, a_lda 0 1), (56, a_gf aT9 12 26 (.inr (some [235]))), (59, a_pi (6) 2), (61, a_lda 0 1), (62, a_gf aT9 12 13 (.inl (0, 1))), (65, a_b2 g_mul), (66, a_ldi 1 1), (67, a_b2 g_add), (68, a_al aT9 0 (0, 63))]
theorem p83_X12_folk_1 {E : zM → Prop} (h : aH83 E) : aP0 (aΘ9 E) 7 tX12_folk_1 a83_X12_folk_1 := ⟨rfl, aok_ldi, rfl, aok_is (D' := 0) rfl (q83_X12_partOf h) (by decide), rfl, aok_ri, rfl, aok_lda, rfl, aok_gf, rfl, aok_pi rfl, rfl, aok_lda, rfl, aok_gf, rfl, aok_b2 sd_mul, rfl, aok_ldi, rfl, aok_b2 sd_add, rfl, aok_al, trivial⟩
def a83_X12_folk_2 : List (Nat × aF) := [(69, a_ldi 2 1), (70, a_pi (2) 1), (71, a_b2 g_sub), (72, a_is b83_X12_partOf 400 2 2), (75, a_ri false), (76, a_lda 0 1), (77, a_pi (0) 1), (78, a_pi (-1) 1), (79, a_cv aT9 c83_X12_lights 2 12), (82, a_lda 0 1), (83, a_lda 0 1), (84, a_gf aT9 12 26 (.inr (some [235])))]
theorem p83_X12_folk_2 {E : zM → Prop} (h : aH83 E) : aP0 (aΘ9 E) 7 tX12_folk_2 a83_X12_folk_2 := ⟨rfl, aok_ldi, rfl, aok_pi rfl, rfl, aok_b2 sd_sub, rfl, aok_is (D' := 0) rfl (q83_X12_partOf h) (by decide), rfl, aok_ri, rfl, aok_lda, rfl, aok_pi rfl, rfl, aok_pi rfl, rfl, aok_cv (c := c83_X12_lights) (D' := 7) (k83_X12_lights h) (by decide), rfl, aok_lda, rfl, aok_lda, rfl, aok_gf, trivial⟩
def a83_X12_folk_3 : List (Nat × aF) := [(87, a_pi (6) 2), (89, a_lda 0 1), (90, a_gf aT9 12 13 (.inl (0, 1))), (93, a_b2 g_mul), (94, a_ldi 1 1), (95, a_b2 g_add), (96, a_al aT9 0 (0, 63)), (97, a_pi (1) 1), (98, a_cv aT9 c9_X12_leads 2 12), (101, a_lda 0 1), (102, a_gf aT9 12 61 (.inr (some [259]))), (105, a_lda 0 1)]
theorem p83_X12_folk_3 {E : zM → Prop} (h : aH83 E) : aP0 (aΘ9 E) 7 tX12_folk_3 a83_X12_folk_3 := ⟨rfl, aok_pi rfl, rfl, aok_lda, rfl, aok_gf, rfl, aok_b2 sd_mul, rfl, aok_ldi, rfl, aok_b2 sd_add, rfl, aok_al, rfl, aok_pi rfl, rfl, aok_cv (c := c9_X12_leads) (D' := 4) h.2.2.2.2.1 (by decide), rfl, aok_lda, rfl, aok_gf, rfl, aok_lda, trivial⟩
def a83_X12_folk_4 : List (Nat × aF) := [(106, a_gf aT9 12 51 (.inr (some [252]))), (109, a_ldi 1 1), (110, a_al aT9 0 (0, 63)), (111, a_al aT9 0 (-2147483648, 2147483647)), (112, a_pi (100000000) 3), (115, a_ic d_ne d_eq 3 122), (118, a_pi (-1) 1), (119, a_gt 133), (122, a_lda 0 1), (123, a_gf aT9 12 61 (.inr (some [259]))), (126, a_lda 0 1), (127, a_gf aT9 12 51 (.inr (some [252])))]
theorem p83_X12_folk_4 {E : zM → Prop} (h : aH83 E) : aP0 (aΘ9 E) 7 tX12_folk_4 a83_X12_folk_4 := ⟨rfl, aok_gf, rfl, aok_ldi, rfl, aok_al, rfl, aok_al, rfl, aok_pi rfl, rfl, aok_ic sj_ne, rfl, aok_pi rfl, rfl, aok_gt, rfl, aok_lda, rfl, aok_gf, rfl, aok_lda, rfl, aok_gf, trivial⟩
def a83_X12_folk_5 : List (Nat × aF) := [(130, a_ldi 1 1), (131, a_al aT9 0 (0, 63)), (132, a_al aT9 0 (-2147483648, 2147483647)), (133, a_ri false), (134, a_pi (-1) 1), (135, a_ri false)]
theorem p83_X12_folk_5 {E : zM → Prop} (h : aH83 E) : aP0 (aΘ9 E) 7 tX12_folk_5 a83_X12_folk_5 := ⟨rfl, aok_ldi, rfl, aok_al, rfl, aok_al, rfl, aok_ri, rfl, aok_pi rfl, rfl, aok_ri, trivial⟩
def b83_X12_folk : aTb := [(50, a83_X12_folk_0), (69, a83_X12_folk_1), (87, a83_X12_folk_2), (106, a83_X12_folk_3), (130, a83_X12_folk_4), (100000, a83_X12_folk_5)]
theorem q83_X12_folk {E : zM → Prop} (h : aH83 E) : aP1 (aΘ9 E) 7 tX12_folk b83_X12_folk := ⟨rfl, p83_X12_folk_0 h, rfl, p83_X12_folk_1 h, rfl, p83_X12_folk_2 h, rfl, p83_X12_folk_3 h, rfl, p83_X12_folk_4 h, rfl, p83_X12_folk_5 h, trivial⟩
def n83_X12_folk : List aNd := []
theorem k83_X12_folk {E : zM → Prop} (h : aH83 E) : aCv (aΘ9 E) 8 c83_X12_folk := aMeth (D := 7) (c := c83_X12_folk) (tb := b83_X12_folk) (ns := n83_X12_folk) (fuel := 3000) rfl (q83_X12_folk h) (by decide +kernel)
abbrev c83_X12_cover : aCt := (253, [.inr (some [221])], some (.inl (-1, 511)))
def a83_X12_cover_0 : List (Nat × aF) := [(0, a_pi (0) 1), (1, a_sti 5 1 1), (2, a_ldi 1 1), (3, a_pi (64) 2), (5, a_ic d_ge d_lt 3 21), (8, a_lda 0 1), (9, a_gf aT9 12 63 (.inr (some [261]))), (12, a_ldi 1 1), (13, a_pi (0) 1), (14, a_as aT9 0), (15, a_iw 5 1 (1)), (18, a_gt 2)]
theorem p83_X12_cover_0 {E : zM → Prop} (h : aH83 E) : aP0 (aΘ9 E) 6 tX12_cover_0 a83_X12_cover_0 := ⟨rfl, aok_pi rfl, rfl, aok_sti, rfl, aok_ldi, rfl, aok_pi rfl, rfl, aok_ic sj_ge, rfl, aok_lda, rfl, aok_gf, rfl, aok_ldi, rfl, aok_pi rfl, rfl, aok_as h.1, rfl, aok_iw rfl, rfl, aok_gt, trivial⟩
def a83_X12_cover_1 : List (Nat × aF) := [(21, a_pi (0) 1), (22, a_sti 5 1 1), (23, a_ldi 1 1), (24, a_lda 0 1), (25, a_gf aT9 12 19 (.inr (some [228]))), (28, a_lda 0 1), (29, a_gf aT9 12 13 (.inl (0, 1))), (32, a_al aT9 0 (0, 9)), (33, a_ic d_ge d_lt 3 156), (36, a_lda 0 1), (37, a_gf aT9 12 49 (.inr (some [250]))), (40, a_pi (0) 1)]
theorem p83_X12_cover_1 {E : zM → Prop} (h : aH83 E) : aP0 (aΘ9 E) 6 tX12_cover_1 a83_X12_cover_1 := ⟨rfl, aok_pi rfl, rfl, aok_sti, rfl, aok_ldi, rfl, aok_lda, rfl, aok_gf, rfl, aok_lda, rfl, aok_gf, rfl, aok_al, rfl, aok_ic sj_ge, rfl, aok_lda, rfl, aok_gf, rfl, aok_pi rfl, trivial⟩
def a83_X12_cover_2 : List (Nat × aF) := [(41, a_al aT9 0 (0, 511)), (42, a_ldi 1 1), (43, a_is b83_X12_has2 400 2 2), (46, a_if c_ne c_eq 3 52), (49, a_gt 150), (52, a_lda 0 1), (53, a_pi (0) 1), (54, a_ldi 1 1), (55, a_cv aT9 c9_X12_glowOf 2 12), (58, a_sti 5 2 1), (59, a_lda 0 1), (60, a_gf aT9 12 20 (.inr (some [229])))]
theorem p83_X12_cover_2 {E : zM → Prop} (h : aH83 E) : aP0 (aΘ9 E) 6 tX12_cover_2 a83_X12_cover_2 := ⟨rfl, aok_al, rfl, aok_ldi, rfl, aok_is (D' := 0) rfl (q83_X12_has2 h) (by decide), rfl, aok_if si_ne, rfl, aok_gt, rfl, aok_lda, rfl, aok_pi rfl, rfl, aok_ldi, rfl, aok_cv (c := c9_X12_glowOf) (D' := 6) h.2.2.2.1 (by decide), rfl, aok_sti, rfl, aok_lda, rfl, aok_gf, trivial⟩
def a83_X12_cover_3 : List (Nat × aF) := [(63, a_pi (9) 2), (65, a_lda 0 1), (66, a_gf aT9 12 13 (.inl (0, 1))), (69, a_b2 g_mul), (70, a_ldi 1 1), (71, a_b2 g_add), (72, a_al aT9 0 (0, 63)), (73, a_sti 5 3 1), (74, a_pi (0) 1), (75, a_sti 5 4 2), (77, a_ldi 4 2), (79, a_pi (64) 2)]
theorem p83_X12_cover_3 {E : zM → Prop} (h : aH83 E) : aP0 (aΘ9 E) 6 tX12_cover_3 a83_X12_cover_3 := ⟨rfl, aok_pi rfl, rfl, aok_lda, rfl, aok_gf, rfl, aok_b2 sd_mul, rfl, aok_ldi, rfl, aok_b2 sd_add, rfl, aok_al, rfl, aok_sti, rfl, aok_pi rfl, rfl, aok_sti, rfl, aok_ldi, rfl, aok_pi rfl, trivial⟩
def a83_X12_cover_4 : List (Nat × aF) := [(81, a_ic d_ge d_lt 3 150), (84, a_lda 0 1), (85, a_ldi 4 2), (87, a_iv aT9 b83_X12_isCellOf 400 2 1 12), (90, a_if c_eq c_ne 3 144), (93, a_lda 0 1), (94, a_ldi 4 2), (96, a_iv aT9 b83_X12_isWall 400 2 1 12), (99, a_if c_ne c_eq 3 144), (102, a_ldi 4 2), (104, a_pi (8) 2), (106, a_d2 g_rem)]
theorem p83_X12_cover_4 {E : zM → Prop} (h : aH83 E) : aP0 (aΘ9 E) 6 tX12_cover_4 a83_X12_cover_4 := ⟨rfl, aok_ic sj_ge, rfl, aok_lda, rfl, aok_ldi, rfl, aok_iv (D' := 2) rfl (q83_X12_isCellOf h) (by decide), rfl, aok_if si_eq, rfl, aok_lda, rfl, aok_ldi, rfl, aok_iv (D' := 0) rfl (q83_X12_isWall h) (by decide), rfl, aok_if si_ne, rfl, aok_ldi, rfl, aok_pi rfl, rfl, aok_d2 sp_rem, trivial⟩
def a83_X12_cover_5 : List (Nat × aF) := [(107, a_ldi 3 1), (108, a_pi (8) 2), (110, a_d2 g_rem), (111, a_cs c83_X12_gap 2), (114, a_ldi 4 2), (116, a_pi (8) 2), (118, a_d2 g_div), (119, a_ldi 3 1), (120, a_pi (8) 2), (122, a_d2 g_div), (123, a_cs c83_X12_gap 2), (126, a_b2 g_add)]
theorem p83_X12_cover_5 {E : zM → Prop} (h : aH83 E) : aP0 (aΘ9 E) 6 tX12_cover_5 a83_X12_cover_5 := ⟨rfl, aok_ldi, rfl, aok_pi rfl, rfl, aok_d2 sp_rem, rfl, aok_cs (c := c83_X12_gap) (D' := 1) (k83_X12_gap h) (by decide), rfl, aok_ldi, rfl, aok_pi rfl, rfl, aok_d2 sp_div, rfl, aok_ldi, rfl, aok_pi rfl, rfl, aok_d2 sp_div, rfl, aok_cs (c := c83_X12_gap) (D' := 1) (k83_X12_gap h) (by decide), rfl, aok_b2 sd_add, trivial⟩
def a83_X12_cover_6 : List (Nat × aF) := [(127, a_ldi 2 1), (128, a_ic d_gt d_le 3 144), (131, a_lda 0 1), (132, a_gf aT9 12 63 (.inr (some [261]))), (135, a_ldi 4 2), (137, a_d22), (138, a_al aT9 0 (0, 511)), (139, a_pi (1) 1), (140, a_ldi 1 1), (141, a_b2 g_shm), (142, a_b2 g_or), (143, a_as aT9 0)]
theorem p83_X12_cover_6 {E : zM → Prop} (h : aH83 E) : aP0 (aΘ9 E) 6 tX12_cover_6 a83_X12_cover_6 := ⟨rfl, aok_ldi, rfl, aok_ic sj_gt, rfl, aok_lda, rfl, aok_gf, rfl, aok_ldi, rfl, aok_d22, rfl, aok_al, rfl, aok_pi rfl, rfl, aok_ldi, rfl, aok_b2 sd_shm, rfl, aok_b2 sd_or, rfl, aok_as h.1, trivial⟩
def a83_X12_cover_7 : List (Nat × aF) := [(144, a_iw 5 4 (1)), (147, a_gt 77), (150, a_iw 5 1 (1)), (153, a_gt 23), (156, a_pi (-1) 1), (157, a_sti 5 1 1), (158, a_pi (0) 1), (159, a_sti 5 2 1), (160, a_ldi 2 1), (161, a_pi (1) 1), (162, a_lda 0 1), (163, a_gf aT9 12 19 (.inr (some [228])))]
theorem p83_X12_cover_7 {E : zM → Prop} (h : aH83 E) : aP0 (aΘ9 E) 6 tX12_cover_7 a83_X12_cover_7 := ⟨rfl, aok_iw rfl, rfl, aok_gt, rfl, aok_iw rfl, rfl, aok_gt, rfl, aok_pi rfl, rfl, aok_sti, rfl, aok_pi rfl, rfl, aok_sti, rfl, aok_ldi, rfl, aok_pi rfl, rfl, aok_lda, rfl, aok_gf, trivial⟩
def a83_X12_cover_8 : List (Nat × aF) := [(166, a_lda 0 1), (167, a_gf aT9 12 13 (.inl (0, 1))), (170, a_al aT9 0 (0, 9)), (171, a_b2 g_shm), (172, a_ic d_ge d_lt 3 270), (175, a_ldi 2 1), (176, a_lda 0 1), (177, a_gf aT9 12 49 (.inr (some [250]))), (180, a_pi (0) 1), (181, a_al aT9 0 (0, 511)), (182, a_pi (-1) 1), (183, a_b2 g_or)]
theorem p83_X12_cover_8 {E : zM → Prop} (h : aH83 E) : aP0 (aΘ9 E) 6 tX12_cover_8 a83_X12_cover_8 := ⟨rfl, aok_lda, rfl, aok_gf, rfl, aok_al, rfl, aok_b2 sd_shm, rfl, aok_ic sj_ge, rfl, aok_ldi, rfl, aok_lda, rfl, aok_gf, rfl, aok_pi rfl, rfl, aok_al, rfl, aok_pi rfl, rfl, aok_b2 sd_xor, trivial⟩
def a83_X12_cover_9 : List (Nat × aF) := [(184, a_b2 g_and), (185, a_if c_ne c_eq 3 208), (188, a_ldi 1 1), (189, a_pi (-1) 1), (190, a_ic d_eq d_ne 3 204), (193, a_ldi 2 1), (194, a_cs c9_X12_bits 1), (197, a_ldi 1 1), (198, a_cs c9_X12_bits 1), (201, a_ic d_ge d_lt 3 208), (204, a_pi (1) 1), (205, a_gt 209)]
theorem p83_X12_cover_9 {E : zM → Prop} (h : aH83 E) : aP0 (aΘ9 E) 6 tX12_cover_9 a83_X12_cover_9 := ⟨rfl, aok_b2 sd_and, rfl, aok_if si_ne, rfl, aok_ldi, rfl, aok_pi rfl, rfl, aok_ic sj_eq, rfl, aok_ldi, rfl, aok_cs (c := c9_X12_bits) (D' := 6) h.2.2.2.2.2 (by decide), rfl, aok_ldi, rfl, aok_cs (c := c9_X12_bits) (D' := 6) h.2.2.2.2.2 (by decide), rfl, aok_ic sj_ge, rfl, aok_pi rfl, rfl, aok_gt, trivial⟩
def a83_X12_cover_10 : List (Nat × aF) := [(208, a_pi (0) 1), (209, a_sti 5 3 1), (210, a_pi (0) 1), (211, a_sti 5 4 2), (213, a_ldi 4 2), (215, a_pi (64) 2), (217, a_ic d_ge d_lt 3 258), (220, a_ldi 3 1), (221, a_if c_eq c_ne 3 258), (224, a_lda 0 1), (225, a_gf aT9 12 63 (.inr (some [261]))), (228, a_ldi 4 2)]
theorem p83_X12_cover_10 {E : zM → Prop} (h : aH83 E) : aP0 (aΘ9 E) 6 tX12_cover_10 a83_X12_cover_10 := ⟨rfl, aok_pi rfl, rfl, aok_sti, rfl, aok_pi rfl, rfl, aok_sti, rfl, aok_ldi, rfl, aok_pi rfl, rfl, aok_ic sj_ge, rfl, aok_ldi, rfl, aok_if si_eq, rfl, aok_lda, rfl, aok_gf, rfl, aok_ldi, trivial⟩
def a83_X12_cover_11 : List (Nat × aF) := [(230, a_al aT9 0 (0, 511)), (231, a_if c_eq c_ne 3 246), (234, a_lda 0 1), (235, a_gf aT9 12 63 (.inr (some [261]))), (238, a_ldi 4 2), (240, a_al aT9 0 (0, 511)), (241, a_ldi 2 1), (242, a_b2 g_and), (243, a_if c_eq c_ne 3 250), (246, a_pi (1) 1), (247, a_gt 251), (250, a_pi (0) 1)]
theorem p83_X12_cover_11 {E : zM → Prop} (h : aH83 E) : aP0 (aΘ9 E) 6 tX12_cover_11 a83_X12_cover_11 := ⟨rfl, aok_al, rfl, aok_if si_eq, rfl, aok_lda, rfl, aok_gf, rfl, aok_ldi, rfl, aok_al, rfl, aok_ldi, rfl, aok_b2 sd_and, rfl, aok_if si_eq, rfl, aok_pi rfl, rfl, aok_gt, rfl, aok_pi rfl, trivial⟩
def a83_X12_cover_12 : List (Nat × aF) := [(251, a_sti 5 3 1), (252, a_iw 5 4 (1)), (255, a_gt 213), (258, a_ldi 3 1), (259, a_if c_eq c_ne 3 264), (262, a_ldi 2 1), (263, a_sti 5 1 1), (264, a_iw 5 2 (1)), (267, a_gt 160), (270, a_ldi 1 1), (271, a_ri false)]
theorem p83_X12_cover_12 {E : zM → Prop} (h : aH83 E) : aP0 (aΘ9 E) 6 tX12_cover_12 a83_X12_cover_12 := ⟨rfl, aok_sti, rfl, aok_iw rfl, rfl, aok_gt, rfl, aok_ldi, rfl, aok_if si_eq, rfl, aok_ldi, rfl, aok_sti, rfl, aok_iw rfl, rfl, aok_gt, rfl, aok_ldi, rfl, aok_ri, trivial⟩
def b83_X12_cover : aTb := [(21, a83_X12_cover_0), (41, a83_X12_cover_1), (63, a83_X12_cover_2), (81, a83_X12_cover_3), (107, a83_X12_cover_4), (127, a83_X12_cover_5), (144, a83_X12_cover_6), (166, a83_X12_cover_7), (184, a83_X12_cover_8), (208, a83_X12_cover_9), (230, a83_X12_cover_10), (251, a83_X12_cover_11), (100000, a83_X12_cover_12)]
theorem q83_X12_cover {E : zM → Prop} (h : aH83 E) : aP1 (aΘ9 E) 6 tX12_cover b83_X12_cover := ⟨rfl, p83_X12_cover_0 h, rfl, p83_X12_cover_1 h, rfl, p83_X12_cover_2 h, rfl, p83_X12_cover_3 h, rfl, p83_X12_cover_4 h, rfl, p83_X12_cover_5 h, rfl, p83_X12_cover_6 h, rfl, p83_X12_cover_7 h, rfl, p83_X12_cover_8 h, rfl, p83_X12_cover_9 h, rfl, p83_X12_cover_10 h, rfl, p83_X12_cover_11 h, rfl, p83_X12_cover_12 h, trivial⟩
def n83_X12_cover : List aNd := [(2, [(0, .inr (some [221])), (1, .inl (0, 64))], [(1, -1)], 35239), (23, [(0, .inr (some [221])), (1, .inl (0, 9))], [(1, -67)], 35107), (77, [(0, .inr (some [221])), (1, .inl (0, 8)), (2, .inl (-2147483648, 2147483647)), (3, .inl (0, 63)), (4, .inl (0, 64))], [(1, -67), (4, -1)], 35105), (160, [(0, .inr (some [221])), (1, .inl (-1, 511)), (2, .inl (0, 512))], [(2, -67)], 34370), (213, [(0, .inr (some [221])), (1, .inl (-1, 511)), (2, .inl (0, 511)), (3, .inl (0, 1)), (4, .inl (0, 64))], [(2, -67), (4, -1)], 34368)]
theorem k83_X12_cover {E : zM → Prop} (h : aH83 E) : aCv (aΘ9 E) 7 c83_X12_cover := aMeth (D := 6) (c := c83_X12_cover) (tb := b83_X12_cover) (ns := n83_X12_cover) (fuel := 3000) rfl (q83_X12_cover h) (by decide +kernel)
abbrev c83_X12_costOf : aCt := (255, [.inr (some [221]), .inl (0, 5), .inl (0, 8), .inl (0, 511)], some (.inl (-2147483648, 2147483647)))
def a83_X12_costOf_0 : List (Nat × aF) := [(0, a_lda 0 1), (1, a_gf aT9 12 49 (.inr (some [250]))), (4, a_pi (0) 1), (5, a_al aT9 0 (0, 511)), (6, a_ldi 2 1), (7, a_is b83_X12_has2 400 2 2), (10, a_if c_eq c_ne 3 52), (13, a_ldi 3 1), (14, a_ldi 2 1), (15, a_is b83_X12_has2 400 2 2), (18, a_if c_ne c_eq 3 52), (21, a_lda 0 1)]
theorem p83_X12_costOf_0 {E : zM → Prop} (h : aH83 E) : aP0 (aΘ9 E) 1 tX12_costOf_0 a83_X12_costOf_0 := ⟨rfl, aok_lda, rfl, aok_gf, rfl, aok_pi rfl, rfl, aok_al, rfl, aok_ldi, rfl, aok_is (D' := 0) rfl (q83_X12_has2 h) (by decide), rfl, aok_if si_eq, rfl, aok_ldi, rfl, aok_ldi, rfl, aok_is (D' := 0) rfl (q83_X12_has2 h) (by decide), rfl, aok_if si_ne, rfl, aok_lda, trivial⟩
def a83_X12_costOf_1 : List (Nat × aF) := [(22, a_gf aT9 12 64 (.inr (some [262]))), (25, a_pi (9) 2), (27, a_ldi 1 1), (28, a_b2 g_mul), (29, a_ldi 2 1), (30, a_b2 g_add), (31, a_al aT9 0 (-2147483648, 2147483647)), (32, a_pi (100000000) 3), (35, a_ic d_ge d_lt 3 52), (38, a_lda 0 1), (39, a_gf aT9 12 64 (.inr (some [262]))), (42, a_pi (9) 2)]
theorem p83_X12_costOf_1 {E : zM → Prop} (h : aH83 E) : aP0 (aΘ9 E) 1 tX12_costOf_1 a83_X12_costOf_1 := ⟨rfl, aok_gf, rfl, aok_pi rfl, rfl, aok_ldi, rfl, aok_b2 sd_mul, rfl, aok_ldi, rfl, aok_b2 sd_add, rfl, aok_al, rfl, aok_pi rfl, rfl, aok_ic sj_ge, rfl, aok_lda, rfl, aok_gf, rfl, aok_pi rfl, trivial⟩
def a83_X12_costOf_2 : List (Nat × aF) := [(44, a_ldi 1 1), (45, a_b2 g_mul), (46, a_ldi 2 1), (47, a_b2 g_add), (48, a_al aT9 0 (-2147483648, 2147483647)), (49, a_gt 53), (52, a_pi (-1) 1), (53, a_ri false)]
theorem p83_X12_costOf_2 {E : zM → Prop} (h : aH83 E) : aP0 (aΘ9 E) 1 tX12_costOf_2 a83_X12_costOf_2 := ⟨rfl, aok_ldi, rfl, aok_b2 sd_mul, rfl, aok_ldi, rfl, aok_b2 sd_add, rfl, aok_al, rfl, aok_gt, rfl, aok_pi rfl, rfl, aok_ri, trivial⟩
def b83_X12_costOf : aTb := [(22, a83_X12_costOf_0), (44, a83_X12_costOf_1), (100000, a83_X12_costOf_2)]
theorem q83_X12_costOf {E : zM → Prop} (h : aH83 E) : aP1 (aΘ9 E) 1 tX12_costOf b83_X12_costOf := ⟨rfl, p83_X12_costOf_0 h, rfl, p83_X12_costOf_1 h, rfl, p83_X12_costOf_2 h, trivial⟩
def n83_X12_costOf : List aNd := []
theorem k83_X12_costOf {E : zM → Prop} (h : aH83 E) : aCv (aΘ9 E) 2 c83_X12_costOf := aMeth (D := 1) (c := c83_X12_costOf) (tb := b83_X12_costOf) (ns := n83_X12_costOf) (fuel := 3000) rfl (q83_X12_costOf h) (by decide +kernel)
def a83_X12_from_0 : List (Nat × aF) := [(0, a_pi (512) 3), (3, a_ldi 0 1), (4, a_b2 g_mul), (5, a_ldi 1 1), (6, a_b2 g_add), (7, a_ri false)]
theorem p83_X12_from_0 {E : zM → Prop} (h : aH83 E) : aP0 (aΘ9 E) 0 tX12_from_0 a83_X12_from_0 := ⟨rfl, aok_pi rfl, rfl, aok_ldi, rfl, aok_b2 sd_mul, rfl, aok_ldi, rfl, aok_b2 sd_add, rfl, aok_ri, trivial⟩
def b83_X12_from : aTb := [(100000, a83_X12_from_0)]
theorem q83_X12_from {E : zM → Prop} (h : aH83 E) : aP1 (aΘ9 E) 0 tX12_from b83_X12_from := ⟨rfl, p83_X12_from_0 h, trivial⟩
abbrev c83_X12_sends : aCt := (256, [.inr (some [221])], none)
def a83_X12_sends_0 : List (Nat × aF) := [(0, a_pi (0) 1), (1, a_sti 6 1 1), (2, a_ldi 1 1), (3, a_lda 0 1), (4, a_gf aT9 12 19 (.inr (some [228]))), (7, a_lda 0 1), (8, a_gf aT9 12 13 (.inl (0, 1))), (11, a_al aT9 0 (0, 9)), (12, a_ic d_ge d_lt 3 83), (15, a_lda 0 1), (16, a_lda 0 1), (17, a_gf aT9 12 20 (.inr (some [229])))]
theorem p83_X12_sends_0 {E : zM → Prop} (h : aH83 E) : aP0 (aΘ9 E) 4 tX12_sends_0 a83_X12_sends_0 := ⟨rfl, aok_pi rfl, rfl, aok_sti, rfl, aok_ldi, rfl, aok_lda, rfl, aok_gf, rfl, aok_lda, rfl, aok_gf, rfl, aok_al, rfl, aok_ic sj_ge, rfl, aok_lda, rfl, aok_lda, rfl, aok_gf, trivial⟩
def a83_X12_sends_1 : List (Nat × aF) := [(20, a_pi (9) 2), (22, a_lda 0 1), (23, a_gf aT9 12 13 (.inl (0, 1))), (26, a_b2 g_mul), (27, a_ldi 1 1), (28, a_b2 g_add), (29, a_al aT9 0 (0, 63)), (30, a_pi (0) 1), (31, a_cv aT9 c9_X12_leads 2 12), (34, a_pi (0) 1), (35, a_sti 6 2 1), (36, a_ldi 2 1)]
theorem p83_X12_sends_1 {E : zM → Prop} (h : aH83 E) : aP0 (aΘ9 E) 4 tX12_sends_1 a83_X12_sends_1 := ⟨rfl, aok_pi rfl, rfl, aok_lda, rfl, aok_gf, rfl, aok_b2 sd_mul, rfl, aok_ldi, rfl, aok_b2 sd_add, rfl, aok_al, rfl, aok_pi rfl, rfl, aok_cv (c := c9_X12_leads) (D' := 4) h.2.2.2.2.1 (by decide), rfl, aok_pi rfl, rfl, aok_sti, rfl, aok_ldi, trivial⟩
def a83_X12_sends_2 : List (Nat × aF) := [(37, a_lda 0 1), (38, a_gf aT9 12 24 (.inr (some [233]))), (41, a_lda 0 1), (42, a_gf aT9 12 13 (.inl (0, 1))), (45, a_al aT9 0 (0, 6)), (46, a_ic d_ge d_lt 3 77), (49, a_lda 0 1), (50, a_gf aT9 12 64 (.inr (some [262]))), (53, a_pi (9) 2), (55, a_ldi 2 1), (56, a_b2 g_mul), (57, a_ldi 1 1)]
theorem p83_X12_sends_2 {E : zM → Prop} (h : aH83 E) : aP0 (aΘ9 E) 4 tX12_sends_2 a83_X12_sends_2 := ⟨rfl, aok_lda, rfl, aok_gf, rfl, aok_lda, rfl, aok_gf, rfl, aok_al, rfl, aok_ic sj_ge, rfl, aok_lda, rfl, aok_gf, rfl, aok_pi rfl, rfl, aok_ldi, rfl, aok_b2 sd_mul, rfl, aok_ldi, trivial⟩
def a83_X12_sends_3 : List (Nat × aF) := [(58, a_b2 g_add), (59, a_lda 0 1), (60, a_gf aT9 12 61 (.inr (some [259]))), (63, a_lda 0 1), (64, a_gf aT9 12 51 (.inr (some [252]))), (67, a_ldi 2 1), (68, a_al aT9 0 (0, 63)), (69, a_al aT9 0 (-2147483648, 2147483647)), (70, a_as aT9 0), (71, a_iw 6 2 (1)), (74, a_gt 36), (77, a_iw 6 1 (1))]
theorem p83_X12_sends_3 {E : zM → Prop} (h : aH83 E) : aP0 (aΘ9 E) 4 tX12_sends_3 a83_X12_sends_3 := ⟨rfl, aok_b2 sd_add, rfl, aok_lda, rfl, aok_gf, rfl, aok_lda, rfl, aok_gf, rfl, aok_ldi, rfl, aok_al, rfl, aok_al, rfl, aok_as h.1, rfl, aok_iw rfl, rfl, aok_gt, rfl, aok_iw rfl, trivial⟩
def a83_X12_sends_4 : List (Nat × aF) := [(80, a_gt 2), (83, a_pi (0) 1), (84, a_sti 6 1 1), (85, a_ldi 1 1), (86, a_pi (512) 3), (89, a_ic d_ge d_lt 3 117), (92, a_lda 0 1), (93, a_gf aT9 12 65 (.inr (some [263]))), (96, a_lda 0 1), (97, a_gf aT9 12 24 (.inr (some [233]))), (100, a_lda 0 1), (101, a_gf aT9 12 13 (.inl (0, 1)))]
theorem p83_X12_sends_4 {E : zM → Prop} (h : aH83 E) : aP0 (aΘ9 E) 4 tX12_sends_4 a83_X12_sends_4 := ⟨rfl, aok_gt, rfl, aok_pi rfl, rfl, aok_sti, rfl, aok_ldi, rfl, aok_pi rfl, rfl, aok_ic sj_ge, rfl, aok_lda, rfl, aok_gf, rfl, aok_lda, rfl, aok_gf, rfl, aok_lda, rfl, aok_gf, trivial⟩
def a83_X12_sends_5 : List (Nat × aF) := [(104, a_al aT9 0 (0, 6)), (105, a_ldi 1 1), (106, a_is b83_X12_from 400 2 2), (109, a_pi (0) 1), (110, a_as aT9 0), (111, a_iw 6 1 (1)), (114, a_gt 85), (117, a_lda 0 1), (118, a_gf aT9 12 24 (.inr (some [233]))), (121, a_lda 0 1), (122, a_gf aT9 12 13 (.inl (0, 1))), (125, a_al aT9 0 (0, 6))]
theorem p83_X12_sends_5 {E : zM → Prop} (h : aH83 E) : aP0 (aΘ9 E) 4 tX12_sends_5 a83_X12_sends_5 := ⟨rfl, aok_al, rfl, aok_ldi, rfl, aok_is (D' := 0) rfl (q83_X12_from h) (by decide), rfl, aok_pi rfl, rfl, aok_as h.1, rfl, aok_iw rfl, rfl, aok_gt, rfl, aok_lda, rfl, aok_gf, rfl, aok_lda, rfl, aok_gf, rfl, aok_al, trivial⟩
def a83_X12_sends_6 : List (Nat × aF) := [(126, a_pi (1) 1), (127, a_b2 g_sub), (128, a_sti 6 1 1), (129, a_ldi 1 1), (130, a_if c_lt c_ge 3 266), (133, a_pi (0) 1), (134, a_sti 6 2 1), (135, a_ldi 2 1), (136, a_pi (512) 3), (139, a_ic d_ge d_lt 3 260), (142, a_pi (1000) 3), (145, a_lda 0 1)]
theorem p83_X12_sends_6 {E : zM → Prop} (h : aH83 E) : aP0 (aΘ9 E) 4 tX12_sends_6 a83_X12_sends_6 := ⟨rfl, aok_pi rfl, rfl, aok_b2 sd_sub, rfl, aok_sti, rfl, aok_ldi, rfl, aok_if si_lt, rfl, aok_pi rfl, rfl, aok_sti, rfl, aok_ldi, rfl, aok_pi rfl, rfl, aok_ic sj_ge, rfl, aok_pi rfl, rfl, aok_lda, trivial⟩
def a83_X12_sends_7 : List (Nat × aF) := [(146, a_gf aT9 12 65 (.inr (some [263]))), (149, a_ldi 1 1), (150, a_pi (1) 1), (151, a_b2 g_add), (152, a_ldi 2 1), (153, a_is b83_X12_from 400 2 2), (156, a_al aT9 0 (-2147483648, 2147483647)), (157, a_b2 g_add), (158, a_sti 6 3 1), (159, a_pi (0) 1), (160, a_sti 6 4 2), (162, a_ldi 4 2)]
theorem p83_X12_sends_7 {E : zM → Prop} (h : aH83 E) : aP0 (aΘ9 E) 4 tX12_sends_7 a83_X12_sends_7 := ⟨rfl, aok_gf, rfl, aok_ldi, rfl, aok_pi rfl, rfl, aok_b2 sd_add, rfl, aok_ldi, rfl, aok_is (D' := 0) rfl (q83_X12_from h) (by decide), rfl, aok_al, rfl, aok_b2 sd_add, rfl, aok_sti, rfl, aok_pi rfl, rfl, aok_sti, rfl, aok_ldi, trivial⟩
def a83_X12_sends_8 : List (Nat × aF) := [(164, a_lda 0 1), (165, a_gf aT9 12 19 (.inr (some [228]))), (168, a_lda 0 1), (169, a_gf aT9 12 13 (.inl (0, 1))), (172, a_al aT9 0 (0, 9)), (173, a_ic d_ge d_lt 3 243), (176, a_lda 0 1), (177, a_ldi 1 1), (178, a_ldi 4 2), (180, a_ldi 2 1), (181, a_cv aT9 c83_X12_costOf 3 12), (184, a_sti 6 5 2)]
theorem p83_X12_sends_8 {E : zM → Prop} (h : aH83 E) : aP0 (aΘ9 E) 4 tX12_sends_8 a83_X12_sends_8 := ⟨rfl, aok_lda, rfl, aok_gf, rfl, aok_lda, rfl, aok_gf, rfl, aok_al, rfl, aok_ic sj_ge, rfl, aok_lda, rfl, aok_ldi, rfl, aok_ldi, rfl, aok_ldi, rfl, aok_cv (c := c83_X12_costOf) (D' := 2) (k83_X12_costOf h) (by decide), rfl, aok_sti, trivial⟩
def a83_X12_sends_9 : List (Nat × aF) := [(186, a_ldi 5 2), (188, a_pi (-1) 1), (189, a_ic d_eq d_ne 3 237), (192, a_ldi 5 2), (194, a_lda 0 1), (195, a_gf aT9 12 65 (.inr (some [263]))), (198, a_ldi 1 1), (199, a_pi (1) 1), (200, a_b2 g_add), (201, a_ldi 2 1), (202, a_pi (1) 1), (203, a_ldi 4 2)]
theorem p83_X12_sends_9 {E : zM → Prop} (h : aH83 E) : aP0 (aΘ9 E) 4 tX12_sends_9 a83_X12_sends_9 := ⟨rfl, aok_ldi, rfl, aok_pi rfl, rfl, aok_ic sj_eq, rfl, aok_ldi, rfl, aok_lda, rfl, aok_gf, rfl, aok_ldi, rfl, aok_pi rfl, rfl, aok_b2 sd_add, rfl, aok_ldi, rfl, aok_pi rfl, rfl, aok_ldi, trivial⟩
def a83_X12_sends_10 : List (Nat × aF) := [(205, a_b2 g_shm), (206, a_b2 g_or), (207, a_is b83_X12_from 400 2 2), (210, a_al aT9 0 (-2147483648, 2147483647)), (211, a_b2 g_add), (212, a_ldi 3 1), (213, a_ic d_ge d_lt 3 237), (216, a_ldi 5 2), (218, a_lda 0 1), (219, a_gf aT9 12 65 (.inr (some [263]))), (222, a_ldi 1 1), (223, a_pi (1) 1)]
theorem p83_X12_sends_10 {E : zM → Prop} (h : aH83 E) : aP0 (aΘ9 E) 4 tX12_sends_10 a83_X12_sends_10 := ⟨rfl, aok_b2 sd_shm, rfl, aok_b2 sd_or, rfl, aok_is (D' := 0) rfl (q83_X12_from h) (by decide), rfl, aok_al, rfl, aok_b2 sd_add, rfl, aok_ldi, rfl, aok_ic sj_ge, rfl, aok_ldi, rfl, aok_lda, rfl, aok_gf, rfl, aok_ldi, rfl, aok_pi rfl, trivial⟩
def a83_X12_sends_11 : List (Nat × aF) := [(224, a_b2 g_add), (225, a_ldi 2 1), (226, a_pi (1) 1), (227, a_ldi 4 2), (229, a_b2 g_shm), (230, a_b2 g_or), (231, a_is b83_X12_from 400 2 2), (234, a_al aT9 0 (-2147483648, 2147483647)), (235, a_b2 g_add), (236, a_sti 6 3 1), (237, a_iw 6 4 (1)), (240, a_gt 162)]
theorem p83_X12_sends_11 {E : zM → Prop} (h : aH83 E) : aP0 (aΘ9 E) 4 tX12_sends_11 a83_X12_sends_11 := ⟨rfl, aok_b2 sd_add, rfl, aok_ldi, rfl, aok_pi rfl, rfl, aok_ldi, rfl, aok_b2 sd_shm, rfl, aok_b2 sd_or, rfl, aok_is (D' := 0) rfl (q83_X12_from h) (by decide), rfl, aok_al, rfl, aok_b2 sd_add, rfl, aok_sti, rfl, aok_iw rfl, rfl, aok_gt, trivial⟩
def a83_X12_sends_12 : List (Nat × aF) := [(243, a_lda 0 1), (244, a_gf aT9 12 65 (.inr (some [263]))), (247, a_ldi 1 1), (248, a_ldi 2 1), (249, a_is b83_X12_from 400 2 2), (252, a_ldi 3 1), (253, a_as aT9 0), (254, a_iw 6 2 (1)), (257, a_gt 135), (260, a_iw 6 1 (-1)), (263, a_gt 129), (266, a_rv)]
theorem p83_X12_sends_12 {E : zM → Prop} (h : aH83 E) : aP0 (aΘ9 E) 4 tX12_sends_12 a83_X12_sends_12 := ⟨rfl, aok_lda, rfl, aok_gf, rfl, aok_ldi, rfl, aok_ldi, rfl, aok_is (D' := 0) rfl (q83_X12_from h) (by decide), rfl, aok_ldi, rfl, aok_as h.1, rfl, aok_iw rfl, rfl, aok_gt, rfl, aok_iw rfl, rfl, aok_gt, rfl, aok_rv, trivial⟩
def b83_X12_sends : aTb := [(20, a83_X12_sends_0), (37, a83_X12_sends_1), (58, a83_X12_sends_2), (80, a83_X12_sends_3), (104, a83_X12_sends_4), (126, a83_X12_sends_5), (146, a83_X12_sends_6), (164, a83_X12_sends_7), (186, a83_X12_sends_8), (205, a83_X12_sends_9), (224, a83_X12_sends_10), (243, a83_X12_sends_11), (100000, a83_X12_sends_12)]
theorem q83_X12_sends {E : zM → Prop} (h : aH83 E) : aP1 (aΘ9 E) 4 tX12_sends b83_X12_sends := ⟨rfl, p83_X12_sends_0 h, rfl, p83_X12_sends_1 h, rfl, p83_X12_sends_2 h, rfl, p83_X12_sends_3 h, rfl, p83_X12_sends_4 h, rfl, p83_X12_sends_5 h, rfl, p83_X12_sends_6 h, rfl, p83_X12_sends_7 h, rfl, p83_X12_sends_8 h, rfl, p83_X12_sends_9 h, rfl, p83_X12_sends_10 h, rfl, p83_X12_sends_11 h, rfl, p83_X12_sends_12 h, trivial⟩
def n83_X12_sends : List aNd := [(2, [(0, .inr (some [221])), (1, .inl (0, 9))], [(1, -9)], 49955), (36, [(0, .inr (some [221])), (1, .inl (0, 8)), (2, .inl (0, 6))], [(1, -9), (2, -1)], 49953), (85, [(0, .inr (some [221])), (1, .inl (0, 512))], [(1, -1)], 49864), (129, [(0, .inr (some [221])), (1, .inl (-1, 5))], [(1, 6169)], 12337), (135, [(0, .inr (some [221])), (1, .inl (0, 5)), (2, .inl (0, 512))], [(1, 6169), (2, -12)], 12324), (162, [(0, .inr (some [221])), (1, .inl (0, 5)), (2, .inl (0, 511)), (3, .inl (-2147483648, 2147483647)), (4, .inl (0, 9))], [(1, 6169), (2, -12), (4, -1)], 12322)]
theorem k83_X12_sends {E : zM → Prop} (h : aH83 E) : aCv (aΘ9 E) 5 c83_X12_sends := aMeth (D := 4) (c := c83_X12_sends) (tb := b83_X12_sends) (ns := n83_X12_sends) (fuel := 3000) rfl (q83_X12_sends h) (by decide +kernel)
abbrev c83_X12_send : aCt := (257, [.inr (some [221]), .inl (-2147483648, 2147483647)], some (.inl (-2147483648, 2147483647)))
def a83_X12_send_0 : List (Nat × aF) := [(0, a_ldi 1 1), (1, a_pi (0) 1), (2, a_pi (1) 1), (3, a_lda 0 1), (4, a_gf aT9 12 24 (.inr (some [233]))), (7, a_lda 0 1), (8, a_gf aT9 12 13 (.inl (0, 1))), (11, a_al aT9 0 (0, 6)), (12, a_b2 g_add), (13, a_is b83_X12_is 400 3 3), (16, a_if c_ne c_eq 3 21), (19, a_pi (-1) 1)]
theorem p83_X12_send_0 {E : zM → Prop} (h : aH83 E) : aP0 (aΘ9 E) 5 tX12_send_0 a83_X12_send_0 := ⟨rfl, aok_ldi, rfl, aok_pi rfl, rfl, aok_pi rfl, rfl, aok_lda, rfl, aok_gf, rfl, aok_lda, rfl, aok_gf, rfl, aok_al, rfl, aok_b2 sd_add, rfl, aok_is (D' := 0) rfl (q83_X12_is h) (by decide), rfl, aok_if si_ne, rfl, aok_pi rfl, trivial⟩
def a83_X12_send_1 : List (Nat × aF) := [(20, a_ri false), (21, a_lda 0 1), (22, a_cv aT9 c83_X12_sends 0 12), (25, a_lda 0 1), (26, a_gf aT9 12 65 (.inr (some [263]))), (29, a_pi (0) 1), (30, a_al aT9 0 (-2147483648, 2147483647)), (31, a_sti 9 2 1), (32, a_ldi 1 1), (33, a_pi (2) 1), (34, a_ic d_ge d_lt 3 65), (37, a_ldi 1 1)]
theorem p83_X12_send_1 {E : zM → Prop} (h : aH83 E) : aP0 (aΘ9 E) 5 tX12_send_1 a83_X12_send_1 := ⟨rfl, aok_ri, rfl, aok_lda, rfl, aok_cv (c := c83_X12_sends) (D' := 5) (k83_X12_sends h) (by decide), rfl, aok_lda, rfl, aok_gf, rfl, aok_pi rfl, rfl, aok_al, rfl, aok_sti, rfl, aok_ldi, rfl, aok_pi rfl, rfl, aok_ic sj_ge, rfl, aok_ldi, trivial⟩
def a83_X12_send_2 : List (Nat × aF) := [(38, a_if c_ne c_eq 3 59), (41, a_lda 0 1), (42, a_gf aT9 12 24 (.inr (some [233]))), (45, a_lda 0 1), (46, a_gf aT9 12 13 (.inl (0, 1))), (49, a_al aT9 0 (0, 6)), (50, a_ldi 2 1), (51, a_pi (1000) 3), (54, a_d2 g_div), (55, a_b2 g_sub), (56, a_gt 64), (59, a_ldi 2 1)]
theorem p83_X12_send_2 {E : zM → Prop} (h : aH83 E) : aP0 (aΘ9 E) 5 tX12_send_2 a83_X12_send_2 := ⟨rfl, aok_if si_ne, rfl, aok_lda, rfl, aok_gf, rfl, aok_lda, rfl, aok_gf, rfl, aok_al, rfl, aok_ldi, rfl, aok_pi rfl, rfl, aok_d2 sp_div, rfl, aok_b2 sd_sub, rfl, aok_gt, rfl, aok_ldi, trivial⟩
def a83_X12_send_3 : List (Nat × aF) := [(60, a_pi (1000) 3), (63, a_d2 g_rem), (64, a_ri false), (65, a_pi (0) 1), (66, a_sti 9 3 1), (67, a_pi (-1) 1), (68, a_sti 9 4 2), (70, a_pi (0) 1), (71, a_sti 9 5 2), (73, a_ldi 5 2), (75, a_ldi 1 1), (76, a_pi (2) 1)]
theorem p83_X12_send_3 {E : zM → Prop} (h : aH83 E) : aP0 (aΘ9 E) 5 tX12_send_3 a83_X12_send_3 := ⟨rfl, aok_pi rfl, rfl, aok_d2 sp_rem, rfl, aok_ri, rfl, aok_pi rfl, rfl, aok_sti, rfl, aok_pi rfl, rfl, aok_sti, rfl, aok_pi rfl, rfl, aok_sti, rfl, aok_ldi, rfl, aok_ldi, rfl, aok_pi rfl, trivial⟩
def a83_X12_send_4 : List (Nat × aF) := [(77, a_b2 g_sub), (78, a_ic d_gt d_le 3 218), (81, a_pi (-1) 1), (82, a_sti 9 4 2), (84, a_lda 0 1), (85, a_gf aT9 12 65 (.inr (some [263]))), (88, a_ldi 5 2), (90, a_ldi 3 1), (91, a_is b83_X12_from 400 2 2), (94, a_al aT9 0 (-2147483648, 2147483647)), (95, a_sti 9 6 2), (97, a_pi (0) 1)]
theorem p83_X12_send_4 {E : zM → Prop} (h : aH83 E) : aP0 (aΘ9 E) 5 tX12_send_4 a83_X12_send_4 := ⟨rfl, aok_b2 sd_sub, rfl, aok_ic sj_gt, rfl, aok_pi rfl, rfl, aok_sti, rfl, aok_lda, rfl, aok_gf, rfl, aok_ldi, rfl, aok_ldi, rfl, aok_is (D' := 0) rfl (q83_X12_from h) (by decide), rfl, aok_al, rfl, aok_sti, rfl, aok_pi rfl, trivial⟩
def a83_X12_send_5 : List (Nat × aF) := [(98, a_sti 9 7 2), (100, a_ldi 7 2), (102, a_lda 0 1), (103, a_gf aT9 12 19 (.inr (some [228]))), (106, a_lda 0 1), (107, a_gf aT9 12 13 (.inl (0, 1))), (110, a_al aT9 0 (0, 9)), (111, a_ic d_ge d_lt 3 195), (114, a_ldi 4 2), (116, a_pi (-1) 1), (117, a_ic d_ne d_eq 3 195), (120, a_pi (1000) 3)]
theorem p83_X12_send_5 {E : zM → Prop} (h : aH83 E) : aP0 (aΘ9 E) 5 tX12_send_5 a83_X12_send_5 := ⟨rfl, aok_sti, rfl, aok_ldi, rfl, aok_lda, rfl, aok_gf, rfl, aok_lda, rfl, aok_gf, rfl, aok_al, rfl, aok_ic sj_ge, rfl, aok_ldi, rfl, aok_pi rfl, rfl, aok_ic sj_ne, rfl, aok_pi rfl, trivial⟩
def a83_X12_send_6 : List (Nat × aF) := [(123, a_lda 0 1), (124, a_gf aT9 12 65 (.inr (some [263]))), (127, a_ldi 5 2), (129, a_pi (1) 1), (130, a_b2 g_add), (131, a_ldi 3 1), (132, a_is b83_X12_from 400 2 2), (135, a_al aT9 0 (-2147483648, 2147483647)), (136, a_b2 g_add), (137, a_ldi 6 2), (139, a_ic d_eq d_ne 3 195), (142, a_lda 0 1)]
theorem p83_X12_send_6 {E : zM → Prop} (h : aH83 E) : aP0 (aΘ9 E) 5 tX12_send_6 a83_X12_send_6 := ⟨rfl, aok_lda, rfl, aok_gf, rfl, aok_ldi, rfl, aok_pi rfl, rfl, aok_b2 sd_add, rfl, aok_ldi, rfl, aok_is (D' := 0) rfl (q83_X12_from h) (by decide), rfl, aok_al, rfl, aok_b2 sd_add, rfl, aok_ldi, rfl, aok_ic sj_eq, rfl, aok_lda, trivial⟩
def a83_X12_send_7 : List (Nat × aF) := [(143, a_ldi 5 2), (145, a_ldi 7 2), (147, a_ldi 3 1), (148, a_cv aT9 c83_X12_costOf 3 12), (151, a_sti 9 8 2), (153, a_ldi 8 2), (155, a_pi (-1) 1), (156, a_ic d_eq d_ne 3 189), (159, a_ldi 8 2), (161, a_lda 0 1), (162, a_gf aT9 12 65 (.inr (some [263]))), (165, a_ldi 5 2)]
theorem p83_X12_send_7 {E : zM → Prop} (h : aH83 E) : aP0 (aΘ9 E) 5 tX12_send_7 a83_X12_send_7 := ⟨rfl, aok_ldi, rfl, aok_ldi, rfl, aok_ldi, rfl, aok_cv (c := c83_X12_costOf) (D' := 2) (k83_X12_costOf h) (by decide), rfl, aok_sti, rfl, aok_ldi, rfl, aok_pi rfl, rfl, aok_ic sj_eq, rfl, aok_ldi, rfl, aok_lda, rfl, aok_gf, rfl, aok_ldi, trivial⟩
def a83_X12_send_8 : List (Nat × aF) := [(167, a_pi (1) 1), (168, a_b2 g_add), (169, a_ldi 3 1), (170, a_pi (1) 1), (171, a_ldi 7 2), (173, a_b2 g_shm), (174, a_b2 g_or), (175, a_is b83_X12_from 400 2 2), (178, a_al aT9 0 (-2147483648, 2147483647)), (179, a_b2 g_add), (180, a_ldi 6 2), (182, a_ic d_ne d_eq 3 189)]
theorem p83_X12_send_8 {E : zM → Prop} (h : aH83 E) : aP0 (aΘ9 E) 5 tX12_send_8 a83_X12_send_8 := ⟨rfl, aok_pi rfl, rfl, aok_b2 sd_add, rfl, aok_ldi, rfl, aok_pi rfl, rfl, aok_ldi, rfl, aok_b2 sd_shm, rfl, aok_b2 sd_or, rfl, aok_is (D' := 0) rfl (q83_X12_from h) (by decide), rfl, aok_al, rfl, aok_b2 sd_add, rfl, aok_ldi, rfl, aok_ic sj_ne, trivial⟩
def a83_X12_send_9 : List (Nat × aF) := [(185, a_ldi 7 2), (187, a_sti 9 4 2), (189, a_iw 9 7 (1)), (192, a_gt 100), (195, a_ldi 3 1), (196, a_ldi 4 2), (198, a_pi (-1) 1), (199, a_ic d_ne d_eq 3 206), (202, a_pi (0) 1), (203, a_gt 210), (206, a_pi (1) 1), (207, a_ldi 4 2)]
theorem p83_X12_send_9 {E : zM → Prop} (h : aH83 E) : aP0 (aΘ9 E) 5 tX12_send_9 a83_X12_send_9 := ⟨rfl, aok_ldi, rfl, aok_sti, rfl, aok_iw rfl, rfl, aok_gt, rfl, aok_ldi, rfl, aok_ldi, rfl, aok_pi rfl, rfl, aok_ic sj_ne, rfl, aok_pi rfl, rfl, aok_gt, rfl, aok_pi rfl, rfl, aok_ldi, trivial⟩
def a83_X12_send_10 : List (Nat × aF) := [(209, a_b2 g_shm), (210, a_b2 g_or), (211, a_sti 9 3 1), (212, a_iw 9 5 (1)), (215, a_gt 73), (218, a_ldi 4 2), (220, a_ri false)]
theorem p83_X12_send_10 {E : zM → Prop} (h : aH83 E) : aP0 (aΘ9 E) 5 tX12_send_10 a83_X12_send_10 := ⟨rfl, aok_b2 sd_shm, rfl, aok_b2 sd_or, rfl, aok_sti, rfl, aok_iw rfl, rfl, aok_gt, rfl, aok_ldi, rfl, aok_ri, trivial⟩
def b83_X12_send : aTb := [(20, a83_X12_send_0), (38, a83_X12_send_1), (60, a83_X12_send_2), (77, a83_X12_send_3), (98, a83_X12_send_4), (123, a83_X12_send_5), (143, a83_X12_send_6), (167, a83_X12_send_7), (185, a83_X12_send_8), (209, a83_X12_send_9), (100000, a83_X12_send_10)]
theorem q83_X12_send {E : zM → Prop} (h : aH83 E) : aP1 (aΘ9 E) 5 tX12_send b83_X12_send := ⟨rfl, p83_X12_send_0 h, rfl, p83_X12_send_1 h, rfl, p83_X12_send_2 h, rfl, p83_X12_send_3 h, rfl, p83_X12_send_4 h, rfl, p83_X12_send_5 h, rfl, p83_X12_send_6 h, rfl, p83_X12_send_7 h, rfl, p83_X12_send_8 h, rfl, p83_X12_send_9 h, rfl, p83_X12_send_10 h, trivial⟩
def n83_X12_send : List aNd := [(73, [(0, .inr (some [221])), (1, .inl (2, 7)), (2, .inl (-2147483648, 2147483647)), (3, .inl (0, 511)), (4, .inl (-1, 8)), (5, .inl (0, 6))], [(5, -12)], 83), (100, [(0, .inr (some [221])), (1, .inl (2, 7)), (2, .inl (-2147483648, 2147483647)), (3, .inl (0, 511)), (4, .inl (-1, 8)), (5, .inl (0, 5)), (6, .inl (-2147483648, 2147483647)), (7, .inl (0, 9))], [(5, -12), (7, -1)], 81)]
theorem k83_X12_send {E : zM → Prop} (h : aH83 E) : aCv (aΘ9 E) 6 c83_X12_send := aMeth (D := 5) (c := c83_X12_send) (tb := b83_X12_send) (ns := n83_X12_send) (fuel := 3000) rfl (q83_X12_send h) (by decide +kernel)
abbrev c83_X12_kept : aCt := (272, [.inr (some [221]), .inl (-2147483648, 2147483647), .inl (-2147483648, 2147483647)], some (.inl (-2147483648, 2147483647)))
def a83_X12_kept_0 : List (Nat × aF) := [(0, a_ldi 1 1), (1, a_pi (0) 1), (2, a_lda 0 1), (3, a_gf aT9 12 52 (.inr (some [253]))), (6, a_pi (0) 1), (7, a_al aT9 0 (0, 40)), (8, a_pi (1) 1), (9, a_b2 g_sub), (10, a_is b83_X12_is 400 3 3), (13, a_if c_eq c_ne 3 38), (16, a_ldi 2 1), (17, a_pi (0) 1)]
theorem p83_X12_kept_0 {E : zM → Prop} (h : aH83 E) : aP0 (aΘ9 E) 1 tX12_kept_0 a83_X12_kept_0 := ⟨rfl, aok_ldi, rfl, aok_pi rfl, rfl, aok_lda, rfl, aok_gf, rfl, aok_pi rfl, rfl, aok_al, rfl, aok_pi rfl, rfl, aok_b2 sd_sub, rfl, aok_is (D' := 0) rfl (q83_X12_is h) (by decide), rfl, aok_if si_eq, rfl, aok_ldi, rfl, aok_pi rfl, trivial⟩
def a83_X12_kept_1 : List (Nat × aF) := [(18, a_pi (2) 1), (19, a_is b83_X12_is 400 3 3), (22, a_if c_eq c_ne 3 38), (25, a_lda 0 1), (26, a_gf aT9 12 53 (.inr (some [254]))), (29, a_pi (3) 1), (30, a_ldi 1 1), (31, a_b2 g_mul), (32, a_ldi 2 1), (33, a_b2 g_add), (34, a_al aT9 0 (-2147483648, 2147483647)), (35, a_gt 39)]
theorem p83_X12_kept_1 {E : zM → Prop} (h : aH83 E) : aP0 (aΘ9 E) 1 tX12_kept_1 a83_X12_kept_1 := ⟨rfl, aok_pi rfl, rfl, aok_is (D' := 0) rfl (q83_X12_is h) (by decide), rfl, aok_if si_eq, rfl, aok_lda, rfl, aok_gf, rfl, aok_pi rfl, rfl, aok_ldi, rfl, aok_b2 sd_mul, rfl, aok_ldi, rfl, aok_b2 sd_add, rfl, aok_al, rfl, aok_gt, trivial⟩
def a83_X12_kept_2 : List (Nat × aF) := [(38, a_pi (-1) 1), (39, a_ri false)]
theorem p83_X12_kept_2 {E : zM → Prop} (h : aH83 E) : aP0 (aΘ9 E) 1 tX12_kept_2 a83_X12_kept_2 := ⟨rfl, aok_pi rfl, rfl, aok_ri, trivial⟩
def b83_X12_kept : aTb := [(18, a83_X12_kept_0), (38, a83_X12_kept_1), (100000, a83_X12_kept_2)]
theorem q83_X12_kept {E : zM → Prop} (h : aH83 E) : aP1 (aΘ9 E) 1 tX12_kept b83_X12_kept := ⟨rfl, p83_X12_kept_0 h, rfl, p83_X12_kept_1 h, rfl, p83_X12_kept_2 h, trivial⟩
def n83_X12_kept : List aNd := []
theorem k83_X12_kept {E : zM → Prop} (h : aH83 E) : aCv (aΘ9 E) 2 c83_X12_kept := aMeth (D := 1) (c := c83_X12_kept) (tb := b83_X12_kept) (ns := n83_X12_kept) (fuel := 3000) rfl (q83_X12_kept h) (by decide +kernel)
abbrev c83_X12_octet : aCt := (275, [.inr (some [221]), .inl (-2147483648, 2147483647)], some (.inl (-2147483648, 2147483647)))
def a83_X12_octet_0 : List (Nat × aF) := [(0, a_ldi 1 1), (1, a_pi (0) 1), (2, a_lda 0 1), (3, a_gf aT9 12 72 (.inl (0, 33))), (6, a_pi (1) 1), (7, a_b2 g_sub), (8, a_is b83_X12_is 400 3 3), (11, a_if c_eq c_ne 3 23), (14, a_lda 0 1), (15, a_gf aT9 12 71 (.inr (some [268]))), (18, a_ldi 1 1), (19, a_al aT9 0 (-2147483648, 2147483647))]
theorem p83_X12_octet_0 {E : zM → Prop} (h : aH83 E) : aP0 (aΘ9 E) 1 tX12_octet_0 a83_X12_octet_0 := ⟨rfl, aok_ldi, rfl, aok_pi rfl, rfl, aok_lda, rfl, aok_gf, rfl, aok_pi rfl, rfl, aok_b2 sd_sub, rfl, aok_is (D' := 0) rfl (q83_X12_is h) (by decide), rfl, aok_if si_eq, rfl, aok_lda, rfl, aok_gf, rfl, aok_ldi, rfl, aok_al, trivial⟩
def a83_X12_octet_1 : List (Nat × aF) := [(20, a_gt 24), (23, a_pi (-1) 1), (24, a_ri false)]
theorem p83_X12_octet_1 {E : zM → Prop} (h : aH83 E) : aP0 (aΘ9 E) 1 tX12_octet_1 a83_X12_octet_1 := ⟨rfl, aok_gt, rfl, aok_pi rfl, rfl, aok_ri, trivial⟩
def b83_X12_octet : aTb := [(20, a83_X12_octet_0), (100000, a83_X12_octet_1)]
theorem q83_X12_octet {E : zM → Prop} (h : aH83 E) : aP1 (aΘ9 E) 1 tX12_octet b83_X12_octet := ⟨rfl, p83_X12_octet_0 h, rfl, p83_X12_octet_1 h, trivial⟩
def n83_X12_octet : List aNd := []
theorem k83_X12_octet {E : zM → Prop} (h : aH83 E) : aCv (aΘ9 E) 2 c83_X12_octet := aMeth (D := 1) (c := c83_X12_octet) (tb := b83_X12_octet) (ns := n83_X12_octet) (fuel := 3000) rfl (q83_X12_octet h) (by decide +kernel)
abbrev c83_X12_status : aCt := (209, [.inr (some [221]), .inl (-2147483648, 2147483647)], some (.inl (-2147483648, 2147483647)))
def a83_X12_status_0 : List (Nat × aF) := [(0, a_ldi 1 1), (1, a_pi (0) 1), (2, a_pi (5) 1), (3, a_is b83_X12_is 400 3 3), (6, a_if c_eq c_ne 3 18), (9, a_lda 0 1), (10, a_gf aT9 12 47 (.inr (some [248]))), (13, a_ldi 1 1), (14, a_al aT9 0 (-2147483648, 2147483647)), (15, a_gt 19), (18, a_pi (-1) 1), (19, a_ri false)]
theorem p83_X12_status_0 {E : zM → Prop} (h : aH83 E) : aP0 (aΘ9 E) 1 tX12_status_0 a83_X12_status_0 := ⟨rfl, aok_ldi, rfl, aok_pi rfl, rfl, aok_pi rfl, rfl, aok_is (D' := 0) rfl (q83_X12_is h) (by decide), rfl, aok_if si_eq, rfl, aok_lda, rfl, aok_gf, rfl, aok_ldi, rfl, aok_al, rfl, aok_gt, rfl, aok_pi rfl, rfl, aok_ri, trivial⟩
def b83_X12_status : aTb := [(100000, a83_X12_status_0)]
theorem q83_X12_status {E : zM → Prop} (h : aH83 E) : aP1 (aΘ9 E) 1 tX12_status b83_X12_status := ⟨rfl, p83_X12_status_0 h, trivial⟩
def n83_X12_status : List aNd := []
theorem k83_X12_status {E : zM → Prop} (h : aH83 E) : aCv (aΘ9 E) 2 c83_X12_status := aMeth (D := 1) (c := c83_X12_status) (tb := b83_X12_status) (ns := n83_X12_status) (fuel := 3000) rfl (q83_X12_status h) (by decide +kernel)
def a83_X12_writes_0 : List (Nat × aF) := [(0, a_lda 0 1), (1, a_gf aT9 12 71 (.inr (some [268]))), (4, a_lda 0 1), (5, a_gf aT9 12 72 (.inl (0, 33))), (8, a_ldi 1 1), (9, a_pi (255) 3), (12, a_b2 g_and), (13, a_as aT9 0), (14, a_lda 0 1), (15, a_du), (16, a_gf aT9 12 72 (.inl (0, 33))), (19, a_pi (1) 1)]
theorem p83_X12_writes_0 {E : zM → Prop} (h : aH83 E) : aP0 (aΘ9 E) 0 tX12_writes_0 a83_X12_writes_0 := ⟨rfl, aok_lda, rfl, aok_gf, rfl, aok_lda, rfl, aok_gf, rfl, aok_ldi, rfl, aok_pi rfl, rfl, aok_b2 sd_and, rfl, aok_as h.1, rfl, aok_lda, rfl, aok_du, rfl, aok_gf, rfl, aok_pi rfl, trivial⟩
def a83_X12_writes_1 : List (Nat × aF) := [(20, a_b2 g_add), (21, a_pf aT9 12 72 (.int)), (24, a_rv)]
theorem p83_X12_writes_1 {E : zM → Prop} (h : aH83 E) : aP0 (aΘ9 E) 0 tX12_writes_1 a83_X12_writes_1 := ⟨rfl, aok_b2 sd_add, rfl, aok_pf h.1, rfl, aok_rv, trivial⟩
def b83_X12_writes : aTb := [(20, a83_X12_writes_0), (100000, a83_X12_writes_1)]
theorem q83_X12_writes {E : zM → Prop} (h : aH83 E) : aP1 (aΘ9 E) 0 tX12_writes b83_X12_writes := ⟨rfl, p83_X12_writes_0 h, rfl, p83_X12_writes_1 h, trivial⟩
abbrev c83_X12_image : aCt := (274, [.inr (some [221])], some (.inl (3, 33)))
def a83_X12_image_0 : List (Nat × aF) := [(0, a_lda 0 1), (1, a_pi (0) 1), (2, a_pf aT9 12 72 (.int)), (5, a_lda 0 1), (6, a_lda 0 1), (7, a_gf aT9 12 48 (.inr (some [249]))), (10, a_pi (0) 1), (11, a_al aT9 0 (-2147483648, 2147483647)), (12, a_pi (8) 2), (14, a_b2 g_shr), (15, a_iv aT9 b83_X12_writes 400 2 1 12), (18, a_lda 0 1)]
theorem p83_X12_image_0 {E : zM → Prop} (h : aH83 E) : aP0 (aΘ9 E) 1 tX12_image_0 a83_X12_image_0 := ⟨rfl, aok_lda, rfl, aok_pi rfl, rfl, aok_pf h.1, rfl, aok_lda, rfl, aok_lda, rfl, aok_gf, rfl, aok_pi rfl, rfl, aok_al, rfl, aok_pi rfl, rfl, aok_b2 sd_shr, rfl, aok_iv (D' := 0) rfl (q83_X12_writes h) (by decide), rfl, aok_lda, trivial⟩
def a83_X12_image_1 : List (Nat × aF) := [(19, a_lda 0 1), (20, a_gf aT9 12 48 (.inr (some [249]))), (23, a_pi (0) 1), (24, a_al aT9 0 (-2147483648, 2147483647)), (25, a_iv aT9 b83_X12_writes 400 2 1 12), (28, a_pi (0) 1), (29, a_sti 3 1 1), (30, a_ldi 1 1), (31, a_lda 0 1), (32, a_gf aT9 12 19 (.inr (some [228]))), (35, a_lda 0 1), (36, a_gf aT9 12 13 (.inl (0, 1)))]
theorem p83_X12_image_1 {E : zM → Prop} (h : aH83 E) : aP0 (aΘ9 E) 1 tX12_image_1 a83_X12_image_1 := ⟨rfl, aok_lda, rfl, aok_gf, rfl, aok_pi rfl, rfl, aok_al, rfl, aok_iv (D' := 0) rfl (q83_X12_writes h) (by decide), rfl, aok_pi rfl, rfl, aok_sti, rfl, aok_ldi, rfl, aok_lda, rfl, aok_gf, rfl, aok_lda, rfl, aok_gf, trivial⟩
def a83_X12_image_2 : List (Nat × aF) := [(39, a_al aT9 0 (0, 9)), (40, a_ic d_ge d_lt 3 81), (43, a_lda 0 1), (44, a_lda 0 1), (45, a_gf aT9 12 49 (.inr (some [250]))), (48, a_pi (0) 1), (49, a_al aT9 0 (0, 511)), (50, a_ldi 1 1), (51, a_is b83_X12_has2 400 2 2), (54, a_if c_eq c_ne 3 61), (57, a_pi (1) 1), (58, a_gt 62)]
theorem p83_X12_image_2 {E : zM → Prop} (h : aH83 E) : aP0 (aΘ9 E) 1 tX12_image_2 a83_X12_image_2 := ⟨rfl, aok_al, rfl, aok_ic sj_ge, rfl, aok_lda, rfl, aok_lda, rfl, aok_gf, rfl, aok_pi rfl, rfl, aok_al, rfl, aok_ldi, rfl, aok_is (D' := 0) rfl (q83_X12_has2 h) (by decide), rfl, aok_if si_eq, rfl, aok_pi rfl, rfl, aok_gt, trivial⟩
def a83_X12_image_3 : List (Nat × aF) := [(61, a_pi (0) 1), (62, a_iv aT9 b83_X12_writes 400 2 1 12), (65, a_lda 0 1), (66, a_lda 0 1), (67, a_gf aT9 12 50 (.inr (some [251]))), (70, a_ldi 1 1), (71, a_al aT9 0 (-2147483648, 2147483647)), (72, a_iv aT9 b83_X12_writes 400 2 1 12), (75, a_iw 3 1 (1)), (78, a_gt 30), (81, a_pi (0) 1), (82, a_sti 3 1 1)]
theorem p83_X12_image_3 {E : zM → Prop} (h : aH83 E) : aP0 (aΘ9 E) 1 tX12_image_3 a83_X12_image_3 := ⟨rfl, aok_pi rfl, rfl, aok_iv (D' := 0) rfl (q83_X12_writes h) (by decide), rfl, aok_lda, rfl, aok_lda, rfl, aok_gf, rfl, aok_ldi, rfl, aok_al, rfl, aok_iv (D' := 0) rfl (q83_X12_writes h) (by decide), rfl, aok_iw rfl, rfl, aok_gt, rfl, aok_pi rfl, rfl, aok_sti, trivial⟩
def a83_X12_image_4 : List (Nat × aF) := [(83, a_ldi 1 1), (84, a_lda 0 1), (85, a_gf aT9 12 24 (.inr (some [233]))), (88, a_lda 0 1), (89, a_gf aT9 12 13 (.inl (0, 1))), (92, a_al aT9 0 (0, 6)), (93, a_ic d_ge d_lt 3 130), (96, a_lda 0 1), (97, a_lda 0 1), (98, a_gf aT9 12 51 (.inr (some [252]))), (101, a_ldi 1 1), (102, a_al aT9 0 (0, 63))]
theorem p83_X12_image_4 {E : zM → Prop} (h : aH83 E) : aP0 (aΘ9 E) 1 tX12_image_4 a83_X12_image_4 := ⟨rfl, aok_ldi, rfl, aok_lda, rfl, aok_gf, rfl, aok_lda, rfl, aok_gf, rfl, aok_al, rfl, aok_ic sj_ge, rfl, aok_lda, rfl, aok_lda, rfl, aok_gf, rfl, aok_ldi, rfl, aok_al, trivial⟩
def a83_X12_image_5 : List (Nat × aF) := [(103, a_pi (0) 1), (104, a_is b83_X12_partOf 400 2 2), (107, a_iv aT9 b83_X12_writes 400 2 1 12), (110, a_lda 0 1), (111, a_lda 0 1), (112, a_gf aT9 12 51 (.inr (some [252]))), (115, a_ldi 1 1), (116, a_al aT9 0 (0, 63)), (117, a_pi (1) 1), (118, a_is b83_X12_partOf 400 2 2), (121, a_iv aT9 b83_X12_writes 400 2 1 12), (124, a_iw 3 1 (1))]
theorem p83_X12_image_5 {E : zM → Prop} (h : aH83 E) : aP0 (aΘ9 E) 1 tX12_image_5 a83_X12_image_5 := ⟨rfl, aok_pi rfl, rfl, aok_is (D' := 0) rfl (q83_X12_partOf h) (by decide), rfl, aok_iv (D' := 0) rfl (q83_X12_writes h) (by decide), rfl, aok_lda, rfl, aok_lda, rfl, aok_gf, rfl, aok_ldi, rfl, aok_al, rfl, aok_pi rfl, rfl, aok_is (D' := 0) rfl (q83_X12_partOf h) (by decide), rfl, aok_iv (D' := 0) rfl (q83_X12_writes h) (by decide), rfl, aok_iw rfl, trivial⟩
def a83_X12_image_6 : List (Nat × aF) := [(127, a_gt 83), (130, a_pi (241) 3), (133, a_sti 3 1 1), (134, a_pi (0) 1), (135, a_sti 3 2 1), (136, a_ldi 2 1), (137, a_lda 0 1), (138, a_gf aT9 12 72 (.inl (0, 33))), (141, a_ic d_ge d_lt 3 165), (144, a_pi (5) 1), (145, a_ldi 1 1), (146, a_b2 g_mum)]
theorem p83_X12_image_6 {E : zM → Prop} (h : aH83 E) : aP0 (aΘ9 E) 1 tX12_image_6 a83_X12_image_6 := ⟨rfl, aok_gt, rfl, aok_pi rfl, rfl, aok_sti, rfl, aok_pi rfl, rfl, aok_sti, rfl, aok_ldi, rfl, aok_lda, rfl, aok_gf, rfl, aok_ic sj_ge, rfl, aok_pi rfl, rfl, aok_ldi, rfl, aok_b2 sd_mum, trivial⟩
def a83_X12_image_7 : List (Nat × aF) := [(147, a_lda 0 1), (148, a_gf aT9 12 71 (.inr (some [268]))), (151, a_ldi 2 1), (152, a_al aT9 0 (-2147483648, 2147483647)), (153, a_b2 g_add), (154, a_pi (251) 3), (157, a_d2 g_rem), (158, a_sti 3 1 1), (159, a_iw 3 2 (1)), (162, a_gt 136), (165, a_lda 0 1), (166, a_ldi 1 1)]
theorem p83_X12_image_7 {E : zM → Prop} (h : aH83 E) : aP0 (aΘ9 E) 1 tX12_image_7 a83_X12_image_7 := ⟨rfl, aok_lda, rfl, aok_gf, rfl, aok_ldi, rfl, aok_al, rfl, aok_b2 sd_add, rfl, aok_pi rfl, rfl, aok_d2 sp_rem, rfl, aok_sti, rfl, aok_iw rfl, rfl, aok_gt, rfl, aok_lda, rfl, aok_ldi, trivial⟩
def a83_X12_image_8 : List (Nat × aF) := [(167, a_iv aT9 b83_X12_writes 400 2 1 12), (170, a_lda 0 1), (171, a_gf aT9 12 72 (.inl (0, 33))), (174, a_ri false)]
theorem p83_X12_image_8 {E : zM → Prop} (h : aH83 E) : aP0 (aΘ9 E) 1 tX12_image_8 a83_X12_image_8 := ⟨rfl, aok_iv (D' := 0) rfl (q83_X12_writes h) (by decide), rfl, aok_lda, rfl, aok_gf, rfl, aok_ri, trivial⟩
def b83_X12_image : aTb := [(19, a83_X12_image_0), (39, a83_X12_image_1), (61, a83_X12_image_2), (83, a83_X12_image_3), (103, a83_X12_image_4), (127, a83_X12_image_5), (147, a83_X12_image_6), (167, a83_X12_image_7), (100000, a83_X12_image_8)]
theorem q83_X12_image {E : zM → Prop} (h : aH83 E) : aP1 (aΘ9 E) 1 tX12_image b83_X12_image := ⟨rfl, p83_X12_image_0 h, rfl, p83_X12_image_1 h, rfl, p83_X12_image_2 h, rfl, p83_X12_image_3 h, rfl, p83_X12_image_4 h, rfl, p83_X12_image_5 h, rfl, p83_X12_image_6 h, rfl, p83_X12_image_7 h, rfl, p83_X12_image_8 h, trivial⟩
def n83_X12_image : List aNf := [(30, [(0, .inr (some [221])), (1, .inl (0, 0))], [((221, 72), (2, 2))], [(1, -1)], 51), (30, [(0, .inr (some [221])), (1, .inl (1, 1))], [((221, 72), (4, 4))], [(1, -1)], 51), (30, [(0, .inr (some [221])), (1, .inl (2, 2))], [((221, 72), (6, 6))], [(1, -1)], 51), (30, [(0, .inr (some [221])), (1, .inl (3, 3))], [((221, 72), (8, 8))], [(1, -1)], 51), (30, [(0, .inr (some [221])), (1, .inl (4, 4))], [((221, 72), (10, 10))], [(1, -1)], 51), (30, [(0, .inr (some [221])), (1, .inl (5, 5))], [((221, 72), (12, 12))], [(1, -1)], 51), (30, [(0, .inr (some [221])), (1, .inl (6, 6))], [((221, 72), (14, 14))], [(1, -1)], 51), (30, [(0, .inr (some [221])), (1, .inl (7, 7))], [((221, 72), (16, 16))], [(1, -1)], 51), (30, [(0, .inr (some [221])), (1, .inl (8, 8))], [((221, 72), (18, 18))], [(1, -1)], 51), (30, [(0, .inr (some [221])), (1, .inl (9, 9))], [((221, 72), (20, 20))], [(1, -1)], 51), (83, [(0, .inr (some [221])), (1, .inl (0, 0))], [((221, 72), (2, 20))], [(1, -1)], 40), (83, [(0, .inr (some [221])), (1, .inl (1, 1))], [((221, 72), (4, 22))], [(1, -1)], 40), (83, [(0, .inr (some [221])), (1, .inl (2, 2))], [((221, 72), (6, 24))], [(1, -1)], 40), (83, [(0, .inr (some [221])), (1, .inl (3, 3))], [((221, 72), (8, 26))], [(1, -1)], 40), (83, [(0, .inr (some [221])), (1, .inl (4, 4))], [((221, 72), (10, 28))], [(1, -1)], 40), (83, [(0, .inr (some [221])), (1, .inl (5, 5))], [((221, 72), (12, 30))], [(1, -1)], 40), (83, [(0, .inr (some [221])), (1, .inl (6, 6))], [((221, 72), (14, 32))], [(1, -1)], 40), (136, [(0, .inr (some [221])), (1, .inl (241, 241)), (2, .inl (0, 0))], [((221, 72), (2, 32))], [(2, -1)], 32), (136, [(0, .inr (some [221])), (1, .inl (-250, 250)), (2, .inl (1, 1))], [((221, 72), (2, 32))], [(2, -1)], 32), (136, [(0, .inr (some [221])), (1, .inl (-250, 250)), (2, .inl (2, 2))], [((221, 72), (2, 32))], [(2, -1)], 32), (136, [(0, .inr (some [221])), (1, .inl (-250, 250)), (2, .inl (3, 3))], [((221, 72), (3, 32))], [(2, -1)], 32), (136, [(0, .inr (some [221])), (1, .inl (-250, 250)), (2, .inl (4, 4))], [((221, 72), (4, 32))], [(2, -1)], 32), (136, [(0, .inr (some [221])), (1, .inl (-250, 250)), (2, .inl (5, 5))], [((221, 72), (5, 32))], [(2, -1)], 32), (136, [(0, .inr (some [221])), (1, .inl (-250, 250)), (2, .inl (6, 6))], [((221, 72), (6, 32))], [(2, -1)], 32), (136, [(0, .inr (some [221])), (1, .inl (-250, 250)), (2, .inl (7, 7))], [((221, 72), (7, 32))], [(2, -1)], 32), (136, [(0, .inr (some [221])), (1, .inl (-250, 250)), (2, .inl (8, 8))], [((221, 72), (8, 32))], [(2, -1)], 32), (136, [(0, .inr (some [221])), (1, .inl (-250, 250)), (2, .inl (9, 9))], [((221, 72), (9, 32))], [(2, -1)], 32), (136, [(0, .inr (some [221])), (1, .inl (-250, 250)), (2, .inl (10, 10))], [((221, 72), (10, 32))], [(2, -1)], 32), (136, [(0, .inr (some [221])), (1, .inl (-250, 250)), (2, .inl (11, 11))], [((221, 72), (11, 32))], [(2, -1)], 32), (136, [(0, .inr (some [221])), (1, .inl (-250, 250)), (2, .inl (12, 12))], [((221, 72), (12, 32))], [(2, -1)], 32), (136, [(0, .inr (some [221])), (1, .inl (-250, 250)), (2, .inl (13, 13))], [((221, 72), (13, 32))], [(2, -1)], 32), (136, [(0, .inr (some [221])), (1, .inl (-250, 250)), (2, .inl (14, 14))], [((221, 72), (14, 32))], [(2, -1)], 32), (136, [(0, .inr (some [221])), (1, .inl (-250, 250)), (2, .inl (15, 15))], [((221, 72), (15, 32))], [(2, -1)], 32), (136, [(0, .inr (some [221])), (1, .inl (-250, 250)), (2, .inl (16, 16))], [((221, 72), (16, 32))], [(2, -1)], 32), (136, [(0, .inr (some [221])), (1, .inl (-250, 250)), (2, .inl (17, 17))], [((221, 72), (17, 32))], [(2, -1)], 32), (136, [(0, .inr (some [221])), (1, .inl (-250, 250)), (2, .inl (18, 18))], [((221, 72), (18, 32))], [(2, -1)], 32), (136, [(0, .inr (some [221])), (1, .inl (-250, 250)), (2, .inl (19, 19))], [((221, 72), (19, 32))], [(2, -1)], 32), (136, [(0, .inr (some [221])), (1, .inl (-250, 250)), (2, .inl (20, 20))], [((221, 72), (20, 32))], [(2, -1)], 32), (136, [(0, .inr (some [221])), (1, .inl (-250, 250)), (2, .inl (21, 21))], [((221, 72), (21, 32))], [(2, -1)], 32), (136, [(0, .inr (some [221])), (1, .inl (-250, 250)), (2, .inl (22, 22))], [((221, 72), (22, 32))], [(2, -1)], 32), (136, [(0, .inr (some [221])), (1, .inl (-250, 250)), (2, .inl (23, 23))], [((221, 72), (23, 32))], [(2, -1)], 32), (136, [(0, .inr (some [221])), (1, .inl (-250, 250)), (2, .inl (24, 24))], [((221, 72), (24, 32))], [(2, -1)], 32), (136, [(0, .inr (some [221])), (1, .inl (-250, 250)), (2, .inl (25, 25))], [((221, 72), (25, 32))], [(2, -1)], 32), (136, [(0, .inr (some [221])), (1, .inl (-250, 250)), (2, .inl (26, 26))], [((221, 72), (26, 32))], [(2, -1)], 32), (136, [(0, .inr (some [221])), (1, .inl (-250, 250)), (2, .inl (27, 27))], [((221, 72), (27, 32))], [(2, -1)], 32), (136, [(0, .inr (some [221])), (1, .inl (-250, 250)), (2, .inl (28, 28))], [((221, 72), (28, 32))], [(2, -1)], 32), (136, [(0, .inr (some [221])), (1, .inl (-250, 250)), (2, .inl (29, 29))], [((221, 72), (29, 32))], [(2, -1)], 32), (136, [(0, .inr (some [221])), (1, .inl (-250, 250)), (2, .inl (30, 30))], [((221, 72), (30, 32))], [(2, -1)], 32), (136, [(0, .inr (some [221])), (1, .inl (-250, 250)), (2, .inl (31, 31))], [((221, 72), (31, 32))], [(2, -1)], 32), (136, [(0, .inr (some [221])), (1, .inl (-250, 250)), (2, .inl (32, 32))], [((221, 72), (32, 32))], [(2, -1)], 32)]
theorem k83_X12_image {E : zM → Prop} (h : aH83 E) : aCv (aΘ9 E) 2 c83_X12_image := aMeth4 (D := 1) (c := c83_X12_image) (tb := b83_X12_image) (ns := n83_X12_image) (fuel := 3000) rfl (q83_X12_image h) (by decide +kernel)
theorem aLq_09 : aLq aT0 aT9 = true := by decide +kernel
theorem aLq_90 : aLq aT9 aT0 = true := by decide +kernel
